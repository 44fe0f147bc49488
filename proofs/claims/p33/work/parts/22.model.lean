theorem dX9_first_0 : decode cX9_first 0 = .ok (.iconst 0, 1) := by decide +kernel
theorem dX9_first_1 : decode cX9_first 1 = .ok (.istore 4, 2) := by decide +kernel
theorem dX9_first_3 : decode cX9_first 3 = .ok (.iload 4, 2) := by decide +kernel
theorem dX9_first_5 : decode cX9_first 5 = .ok (.aload_n 0, 1) := by decide +kernel
theorem dX9_first_6 : decode cX9_first 6 = .ok (.getfield 180, 3) := by decide +kernel
theorem dX9_first_9 : decode cX9_first 9 = .ok (.if_icmp .ge 50, 3) := by decide +kernel
theorem dX9_first_12 : decode cX9_first 12 = .ok (.aload_n 0, 1) := by decide +kernel
theorem dX9_first_13 : decode cX9_first 13 = .ok (.getfield 51, 3) := by decide +kernel
theorem dX9_first_16 : decode cX9_first 16 = .ok (.iload 4, 2) := by decide +kernel
theorem dX9_first_18 : decode cX9_first 18 = .ok (.baload, 1) := by decide +kernel
theorem dX9_first_19 : decode cX9_first 19 = .ok (.iload_n 1, 1) := by decide +kernel
theorem dX9_first_20 : decode cX9_first 20 = .ok (.if_icmp .ne 33, 3) := by decide +kernel
theorem dX9_first_23 : decode cX9_first 23 = .ok (.aload_n 0, 1) := by decide +kernel
theorem dX9_first_24 : decode cX9_first 24 = .ok (.getfield 57, 3) := by decide +kernel
theorem dX9_first_27 : decode cX9_first 27 = .ok (.iload 4, 2) := by decide +kernel
theorem dX9_first_29 : decode cX9_first 29 = .ok (.baload, 1) := by decide +kernel
theorem dX9_first_30 : decode cX9_first 30 = .ok (.iload_n 2, 1) := by decide +kernel
theorem dX9_first_31 : decode cX9_first 31 = .ok (.if_icmp .ne 22, 3) := by decide +kernel
theorem dX9_first_34 : decode cX9_first 34 = .ok (.aload_n 0, 1) := by decide +kernel
theorem dX9_first_35 : decode cX9_first 35 = .ok (.getfield 54, 3) := by decide +kernel
theorem dX9_first_38 : decode cX9_first 38 = .ok (.iload 4, 2) := by decide +kernel
theorem dX9_first_40 : decode cX9_first 40 = .ok (.iaload, 1) := by decide +kernel
theorem dX9_first_41 : decode cX9_first 41 = .ok (.iload_n 3, 1) := by decide +kernel
theorem dX9_first_42 : decode cX9_first 42 = .ok (.if_icmp .lt 11, 3) := by decide +kernel
theorem dX9_first_45 : decode cX9_first 45 = .ok (.aload_n 0, 1) := by decide +kernel
theorem dX9_first_46 : decode cX9_first 46 = .ok (.getfield 54, 3) := by decide +kernel
theorem dX9_first_49 : decode cX9_first 49 = .ok (.iload 4, 2) := by decide +kernel
theorem dX9_first_51 : decode cX9_first 51 = .ok (.iaload, 1) := by decide +kernel
theorem dX9_first_52 : decode cX9_first 52 = .ok (.ireturn, 1) := by decide +kernel
theorem dX9_first_53 : decode cX9_first 53 = .ok (.iinc 4 1, 3) := by decide +kernel
theorem dX9_first_56 : decode cX9_first 56 = .ok (.goto (-53), 3) := by decide +kernel
theorem dX9_first_59 : decode cX9_first 59 = .ok (.iconst (-1), 1) := by decide +kernel
theorem dX9_first_60 : decode cX9_first 60 = .ok (.ireturn, 1) := by decide +kernel
set_option maxHeartbeats 4000000 in
set_option maxRecDepth 100000 in
theorem g_X9_first (l : Launch) (G : xG) (S : yS) (d : yD) (h0 : Nat) (p0 : Int32) (p1 : Int32) (p2 : Int32) (hSh : ySh S) (hm_h0 : h0 ∈ S.1) (hk_h0 : S.2.1 h0 = 9) (hI : yMI S d h0) : xRi l G yX9_first cX9_first 5 (some .int) 0 0 [.ref h0, .int p0, .int p1, .int p2] (yW G S d) (fun r => -1 ≤ r.toInt ∧ r.toInt < 129600) := by
  intro sz
  refine xstart (by decide) (Nat.le_of_ble_eq_true rfl) (fun p e s m args below meth c ls C0 hr hlocks hin hsz hP hK hD hN hl => ?_)
  obtain ⟨hx, hb, hml, hown, htl⟩ := id C0
  have hl : lv_has ls 5 [(0, .ref h0), (1, .int p0), (2, .int p1), (3, .int p2)] := hl
  refine lv_iconst (v := 0) hx hb dX9_first_0 (by decide) ?_
  refine lv_istore (lv' := [(4, .int 0), (0, .ref h0), (1, .int p0), (2, .int p1), (3, .int p2)]) hx hb dX9_first_1 hl (by decide) rfl (fun ls hl => ?_)
  have hCC_1 := yMI.c hI
  refine yloopR (σ := Int32) (fun x => (2147483647 - (x : Int32).toInt).toNat) 3 (fun x ls => (0 ≤ ((x) : Int32).toInt) ∧ lv_has ls 5 [(4, .int x), (0, .ref h0), (1, .int p0), (2, .int p1), (3, .int p2)]) (fun x ls hl hnext_3 => ?_) 0 ⟨(show (0 ≤ ((0) : Int32).toInt) from by have hl0_ : (0 : Int32).toInt = 0 := (by decide +kernel); have hq0_ : (0 : Int32).toInt = 0 := (by decide +kernel); omega), lv_sub hl [0, 1, 2, 3, 4] rfl⟩
  obtain ⟨v_2, rfl⟩ : ∃ z, z = x := ⟨_, rfl⟩
  obtain ⟨hex_4, hl⟩ := hl
  have hex_4 : (0 ≤ ((v_2) : Int32).toInt) := hex_4
  have hl : lv_has ls 5 [(4, .int v_2), (0, .ref h0), (1, .int p0), (2, .int p1), (3, .int p2)] := hl
  refine lv_iload hx hb dX9_first_3 (lv_at hl 0 rfl) ?_
  refine lv_aload_n hx hb dX9_first_5 rfl (lv_at hl 1 rfl) ?_
  refine yget (ci := 9) (k := 1) (v := .int (d.1 h0 1)) (C := RX9) (T := TX9) (N := 67) C0 hK hP hm_h0 hk_h0 (by decide) rfl inlX9 (by decide) mW364 (fun _ h9 => h9) rfl dX9_first_6 ?_
  refine lv_topi (fun z_5 ez_5 => ?_)
  refine lv_icmp_ge (tgt := 59) hx hb dX9_first_9 (by decide) (fun c_6 => ?_) (fun c_6 => ?_)
  · refine lv_iconst (v := (-1)) hx hb dX9_first_59 (by decide) ?_
    have T_7 : (z_5 : Int32).toInt = (d.1 h0 1).toInt := by rw [ez_5]
    have F_8 := fle (rfl : (z_5 : Int32).toInt = (z_5 : Int32).toInt) (rfl : (v_2 : Int32).toInt = (v_2 : Int32).toInt) c_6
    exact W.iret (v := (-1)) hx hb hr (fun t ht hW => ⟨(-1), rfl, (by have h0_ : ((-1) : Int32).toInt = (-1) := (by decide +kernel); omega), ht⟩) (fun q hq => by cases hq) dX9_first_60
  · refine lv_aload_n hx hb dX9_first_12 rfl (lv_at hl 1 rfl) ?_
    refine yget (ci := 9) (k := 15) (v := .ref (S.2.2.1 h0 15)) (C := RX9) (T := TX9) (N := 67) C0 hK hP hm_h0 hk_h0 (by decide) rfl inlX9 (by decide) mW122 (fun _ h9 => h9) rfl dX9_first_13 ?_
    obtain ⟨hmy_9, hky_9⟩ := ySh.f9_15 hSh _ hm_h0 hk_h0
    refine lv_iload hx hb dX9_first_16 (lv_at hl 0 rfl) ?_
    have T_10 : (z_5 : Int32).toInt = (d.1 h0 1).toInt := by rw [ez_5]
    have F_11 := fnle (rfl : (z_5 : Int32).toInt = (z_5 : Int32).toInt) (rfl : (v_2 : Int32).toInt = (v_2 : Int32).toInt) c_6
    refine yaldB C0 hK hP hmy_9 hky_9 (by decide) rfl 1 rfl (xinT 5000 rfl (by omega) (by omega)) dX9_first_18 ?_
    refine lv_topi (fun z_12 ez_12 => ?_)
    refine lv_iload_n hx hb dX9_first_19 rfl (lv_at hl 2 rfl) ?_
    refine lv_icmp_ne (tgt := 53) hx hb dX9_first_20 (by decide) (fun c_13 => ?_) (fun c_13 => ?_)
    · refine lv_iinc (v := v_2 + 1) (lv' := [(4, .int (v_2 + 1)), (0, .ref h0), (1, .int p0), (2, .int p1), (3, .int p2)]) hx hb dX9_first_53 hl (k := 0) rfl rfl (by decide) rfl (fun ls hl => ?_)
      refine lv_goto (tgt := 3) hx hb dX9_first_56 (by decide) ?_
      have F_16 := fne (rfl : (z_12 : Int32).toInt = (z_12 : Int32).toInt) (rfl : (p0 : Int32).toInt = (p0 : Int32).toInt) c_13
      have T_17 : ((v_2 + 1) : Int32).toInt = (v_2 : Int32).toInt + 1 := tadd rfl (rfl : (v_2 : Int32).toInt = (v_2 : Int32).toInt) (by decide +kernel : (1 : Int32).toInt = 1) (by omega) (by omega)
      exact hnext_3 (v_2 + 1) ls (xup c_6) ⟨(show (0 ≤ (((v_2 + 1)) : Int32).toInt) from by have hq0_ : (0 : Int32).toInt = 0 := (by decide +kernel); omega), (lv_sub hl [0, 1, 2, 3, 4] rfl)⟩
    · refine lv_aload_n hx hb dX9_first_23 rfl (lv_at hl 1 rfl) ?_
      refine yget (ci := 9) (k := 17) (v := .ref (S.2.2.1 h0 17)) (C := RX9) (T := TX9) (N := 67) C0 hK hP hm_h0 hk_h0 (by decide) rfl inlX9 (by decide) mW124 (fun _ h9 => h9) rfl dX9_first_24 ?_
      obtain ⟨hmy_18, hky_18⟩ := ySh.f9_17 hSh _ hm_h0 hk_h0
      refine lv_iload hx hb dX9_first_27 (lv_at hl 0 rfl) ?_
      have F_20 := feq (rfl : (z_12 : Int32).toInt = (z_12 : Int32).toInt) (rfl : (p0 : Int32).toInt = (p0 : Int32).toInt) c_13
      refine yaldB C0 hK hP hmy_18 hky_18 (by decide) rfl 1 rfl (xinT 5000 rfl (by omega) (by omega)) dX9_first_29 ?_
      refine lv_topi (fun z_21 ez_21 => ?_)
      refine lv_iload_n hx hb dX9_first_30 rfl (lv_at hl 3 rfl) ?_
      refine lv_icmp_ne (tgt := 53) hx hb dX9_first_31 (by decide) (fun c_22 => ?_) (fun c_22 => ?_)
      · refine lv_iinc (v := v_2 + 1) (lv' := [(4, .int (v_2 + 1)), (0, .ref h0), (1, .int p0), (2, .int p1), (3, .int p2)]) hx hb dX9_first_53 hl (k := 0) rfl rfl (by decide) rfl (fun ls hl => ?_)
        refine lv_goto (tgt := 3) hx hb dX9_first_56 (by decide) ?_
        have F_25 := fne (rfl : (z_21 : Int32).toInt = (z_21 : Int32).toInt) (rfl : (p1 : Int32).toInt = (p1 : Int32).toInt) c_22
        have T_26 : ((v_2 + 1) : Int32).toInt = (v_2 : Int32).toInt + 1 := tadd rfl (rfl : (v_2 : Int32).toInt = (v_2 : Int32).toInt) (by decide +kernel : (1 : Int32).toInt = 1) (by omega) (by omega)
        exact hnext_3 (v_2 + 1) ls (xup c_6) ⟨(show (0 ≤ (((v_2 + 1)) : Int32).toInt) from by have hq0_ : (0 : Int32).toInt = 0 := (by decide +kernel); omega), (lv_sub hl [0, 1, 2, 3, 4] rfl)⟩
      · refine lv_aload_n hx hb dX9_first_34 rfl (lv_at hl 1 rfl) ?_
        refine yget (ci := 9) (k := 16) (v := .ref (S.2.2.1 h0 16)) (C := RX9) (T := TX9) (N := 67) C0 hK hP hm_h0 hk_h0 (by decide) rfl inlX9 (by decide) mW123 (fun _ h9 => h9) rfl dX9_first_35 ?_
        obtain ⟨hmy_27, hky_27⟩ := ySh.f9_16 hSh _ hm_h0 hk_h0
        refine lv_iload hx hb dX9_first_38 (lv_at hl 0 rfl) ?_
        have F_29 := feq (rfl : (z_21 : Int32).toInt = (z_21 : Int32).toInt) (rfl : (p1 : Int32).toInt = (p1 : Int32).toInt) c_22
        refine yald C0 hK hP hmy_27 hky_27 (by decide) rfl 0 rfl (xinT 5000 rfl (by omega) (by omega)) dX9_first_40 ?_
        refine lv_topi (fun z_30 ez_30 => ?_)
        have hvz_30 : 0 ≤ (z_30 : Int32).toInt ∧ (z_30 : Int32).toInt ≤ 129599 := by rw [ez_30]; exact yMI.em_ hI _
        refine lv_iload_n hx hb dX9_first_41 rfl (lv_at hl 4 rfl) ?_
        refine lv_icmp_lt (tgt := 53) hx hb dX9_first_42 (by decide) (fun c_31 => ?_) (fun c_31 => ?_)
        · refine lv_iinc (v := v_2 + 1) (lv' := [(4, .int (v_2 + 1)), (0, .ref h0), (1, .int p0), (2, .int p1), (3, .int p2)]) hx hb dX9_first_53 hl (k := 0) rfl rfl (by decide) rfl (fun ls hl => ?_)
          refine lv_goto (tgt := 3) hx hb dX9_first_56 (by decide) ?_
          have F_34 := flt (rfl : (z_30 : Int32).toInt = (z_30 : Int32).toInt) (rfl : (p2 : Int32).toInt = (p2 : Int32).toInt) c_31
          have T_35 : ((v_2 + 1) : Int32).toInt = (v_2 : Int32).toInt + 1 := tadd rfl (rfl : (v_2 : Int32).toInt = (v_2 : Int32).toInt) (by decide +kernel : (1 : Int32).toInt = 1) (by omega) (by omega)
          exact hnext_3 (v_2 + 1) ls (xup c_6) ⟨(show (0 ≤ (((v_2 + 1)) : Int32).toInt) from by have hq0_ : (0 : Int32).toInt = 0 := (by decide +kernel); omega), (lv_sub hl [0, 1, 2, 3, 4] rfl)⟩
        · refine lv_aload_n hx hb dX9_first_45 rfl (lv_at hl 1 rfl) ?_
          refine yget (ci := 9) (k := 16) (v := .ref (S.2.2.1 h0 16)) (C := RX9) (T := TX9) (N := 67) C0 hK hP hm_h0 hk_h0 (by decide) rfl inlX9 (by decide) mW123 (fun _ h9 => h9) rfl dX9_first_46 ?_
          refine lv_iload hx hb dX9_first_49 (lv_at hl 0 rfl) ?_
          have F_37 := fnlt (rfl : (z_30 : Int32).toInt = (z_30 : Int32).toInt) (rfl : (p2 : Int32).toInt = (p2 : Int32).toInt) c_31
          refine yald C0 hK hP hmy_27 hky_27 (by decide) rfl 0 rfl (xinT 5000 rfl (by omega) (by omega)) dX9_first_51 ?_
          refine lv_topi (fun z_38 ez_38 => ?_)
          have hvz_38 : 0 ≤ (z_38 : Int32).toInt ∧ (z_38 : Int32).toInt ≤ 129599 := by rw [ez_38]; exact yMI.em_ hI _
          exact W.iret (v := z_38) hx hb hr (fun t ht hW => ⟨z_38, rfl, (by omega), ht⟩) (fun q hq => by cases hq) dX9_first_52
theorem dX9_length_0 : decode cX9_length 0 = .ok (.sipush 1440, 3) := by decide +kernel
theorem dX9_length_3 : decode cX9_length 3 = .ok (.aload_n 0, 1) := by decide +kernel
theorem dX9_length_4 : decode cX9_length 4 = .ok (.iload_n 1, 1) := by decide +kernel
theorem dX9_length_5 : decode cX9_length 5 = .ok (.iconst 2, 1) := by decide +kernel
theorem dX9_length_6 : decode cX9_length 6 = .ok (.invokevirtual 161, 3) := by decide +kernel
theorem dX9_length_9 : decode cX9_length 9 = .ok (.imul, 1) := by decide +kernel
theorem dX9_length_10 : decode cX9_length 10 = .ok (.ireturn, 1) := by decide +kernel
set_option maxHeartbeats 4000000 in
set_option maxRecDepth 100000 in
theorem g_X9_length (l : Launch) (G : xG) (S : yS) (d : yD) (h0 : Nat) (p0 : Int32) (hSh : ySh S) (hm_h0 : h0 ∈ S.1) (hk_h0 : S.2.1 h0 = 9) (hI : yMI S d h0) (hr_p0 : 0 ≤ (p0 : Int32).toInt ∧ (p0 : Int32).toInt ≤ 7) : xRi l G yX9_length cX9_length 2 (some .int) 1 22 [.ref h0, .int p0] (yW G S d) (fun r => 0 ≤ r.toInt ∧ r.toInt ≤ 129600) := by
  intro sz
  refine xstart (by decide) (Nat.le_of_ble_eq_true rfl) (fun p e s m args below meth c ls C0 hr hlocks hin hsz hP hK hD hN hl => ?_)
  obtain ⟨hx, hb, hml, hown, htl⟩ := id C0
  have hl : lv_has ls 2 [(0, .ref h0), (1, .int p0)] := hl
  refine lv_sipush (v := 1440) hx hb dX9_length_0 (by decide) ?_
  refine lv_aload_n hx hb dX9_length_3 rfl (lv_at hl 0 rfl) ?_
  refine lv_iload_n hx hb dX9_length_4 rfl (lv_at hl 1 rfl) ?_
  refine lv_iconst (v := 2) hx hb dX9_length_5 (by decide) ?_
  refine yVri (As := [.int p0, .int 2]) (rest := [.int 1440]) C0 (g_X9_of l G S d h0 p0 2 hSh hm_h0 hk_h0 (by refine ⟨?_, ?_⟩ <;> omega) (by decide +kernel)) ok_X9_of (mW425 : Cond.methodLink RX9 161 yX9_of ∈ wsT) ⟨Nat.le_of_ble_eq_true rfl, Nat.le_of_ble_eq_true rfl⟩ hP hD hK hN hm_h0 hk_h0 (by decide) rfl rfl rfl hl.1 rfl (Nat.le_of_ble_eq_true rfl) ⟨Nat.le_of_ble_eq_true rfl, Nat.le_of_ble_eq_true rfl⟩ dX9_length_6 (fun r_1 hr_1 => ?_)
  have hOr_1 : (r_1 : Int32).toInt = yOf S d h0 (p0 : Int32).toInt.toNat 2 := by rw [hr_1, show (2 : Int32).toInt.toNat = 2 by decide +kernel]; rfl
  have hCC_2 := yMI.c hI
  have hbr_1 := xof2 hI (p := p0) (by refine ⟨?_, ?_⟩ <;> omega) hr_1
  refine lv_imul hx hb dX9_length_9 ?_
  refine lv_topi (fun z_3 ez_3 => ?_)
  have T_4 : (z_3 : Int32).toInt = 1440 * (r_1 : Int32).toInt := tmul ez_3 (by decide +kernel : (1440 : Int32).toInt = 1440) (rfl : (r_1 : Int32).toInt = (r_1 : Int32).toInt) (by omega) (by omega)
  exact W.iret (v := z_3) hx hb hr (fun t ht hW => ⟨z_3, rfl, (by omega), ht⟩) (fun q hq => by cases hq) dX9_length_10
theorem dX9_good_0 : decode cX9_good 0 = .ok (.aload_n 0, 1) := by decide +kernel
theorem dX9_good_1 : decode cX9_good 1 = .ok (.iload_n 1, 1) := by decide +kernel
theorem dX9_good_2 : decode cX9_good 2 = .ok (.iconst 1, 1) := by decide +kernel
theorem dX9_good_3 : decode cX9_good 3 = .ok (.iconst 0, 1) := by decide +kernel
theorem dX9_good_4 : decode cX9_good 4 = .ok (.invokevirtual 223, 3) := by decide +kernel
theorem dX9_good_7 : decode cX9_good 7 = .ok (.istore_n 2, 1) := by decide +kernel
theorem dX9_good_8 : decode cX9_good 8 = .ok (.aload_n 0, 1) := by decide +kernel
theorem dX9_good_9 : decode cX9_good 9 = .ok (.iload_n 1, 1) := by decide +kernel
theorem dX9_good_10 : decode cX9_good 10 = .ok (.iconst 0, 1) := by decide +kernel
theorem dX9_good_11 : decode cX9_good 11 = .ok (.iconst 0, 1) := by decide +kernel
theorem dX9_good_12 : decode cX9_good 12 = .ok (.invokevirtual 223, 3) := by decide +kernel
theorem dX9_good_15 : decode cX9_good 15 = .ok (.istore_n 3, 1) := by decide +kernel
theorem dX9_good_16 : decode cX9_good 16 = .ok (.iload_n 2, 1) := by decide +kernel
theorem dX9_good_17 : decode cX9_good 17 = .ok (.ifCond .lt 7, 3) := by decide +kernel
theorem dX9_good_20 : decode cX9_good 20 = .ok (.iload_n 3, 1) := by decide +kernel
theorem dX9_good_21 : decode cX9_good 21 = .ok (.ifCond .ge 5, 3) := by decide +kernel
theorem dX9_good_24 : decode cX9_good 24 = .ok (.iconst (-1), 1) := by decide +kernel
theorem dX9_good_25 : decode cX9_good 25 = .ok (.ireturn, 1) := by decide +kernel
theorem dX9_good_26 : decode cX9_good 26 = .ok (.iload_n 2, 1) := by decide +kernel
theorem dX9_good_27 : decode cX9_good 27 = .ok (.iload_n 3, 1) := by decide +kernel
theorem dX9_good_28 : decode cX9_good 28 = .ok (.if_icmp .le 7, 3) := by decide +kernel
theorem dX9_good_31 : decode cX9_good 31 = .ok (.iload_n 2, 1) := by decide +kernel
theorem dX9_good_32 : decode cX9_good 32 = .ok (.goto 4, 3) := by decide +kernel
theorem dX9_good_35 : decode cX9_good 35 = .ok (.iload_n 3, 1) := by decide +kernel
theorem dX9_good_36 : decode cX9_good 36 = .ok (.istore 4, 2) := by decide +kernel
theorem dX9_good_38 : decode cX9_good 38 = .ok (.iload 4, 2) := by decide +kernel
theorem dX9_good_40 : decode cX9_good 40 = .ok (.aload_n 0, 1) := by decide +kernel
theorem dX9_good_41 : decode cX9_good 41 = .ok (.iload_n 1, 1) := by decide +kernel
theorem dX9_good_42 : decode cX9_good 42 = .ok (.invokevirtual 226, 3) := by decide +kernel
theorem dX9_good_45 : decode cX9_good 45 = .ok (.if_icmp .ge 71, 3) := by decide +kernel
theorem dX9_good_48 : decode cX9_good 48 = .ok (.iload 4, 2) := by decide +kernel
theorem dX9_good_50 : decode cX9_good 50 = .ok (.sipush 1440, 3) := by decide +kernel
theorem dX9_good_53 : decode cX9_good 53 = .ok (.irem, 1) := by decide +kernel
theorem dX9_good_54 : decode cX9_good 54 = .ok (.istore 5, 2) := by decide +kernel
theorem dX9_good_56 : decode cX9_good 56 = .ok (.aload_n 0, 1) := by decide +kernel
theorem dX9_good_57 : decode cX9_good 57 = .ok (.iload_n 1, 1) := by decide +kernel
theorem dX9_good_58 : decode cX9_good 58 = .ok (.iload 4, 2) := by decide +kernel
theorem dX9_good_60 : decode cX9_good 60 = .ok (.invokevirtual 198, 3) := by decide +kernel
theorem dX9_good_63 : decode cX9_good 63 = .ok (.ifCond .eq 47, 3) := by decide +kernel
theorem dX9_good_66 : decode cX9_good 66 = .ok (.aload_n 0, 1) := by decide +kernel
theorem dX9_good_67 : decode cX9_good 67 = .ok (.getfield 48, 3) := by decide +kernel
theorem dX9_good_70 : decode cX9_good 70 = .ok (.bipush 90, 2) := by decide +kernel
theorem dX9_good_72 : decode cX9_good 72 = .ok (.iload_n 1, 1) := by decide +kernel
theorem dX9_good_73 : decode cX9_good 73 = .ok (.imul, 1) := by decide +kernel
theorem dX9_good_74 : decode cX9_good 74 = .ok (.iload 4, 2) := by decide +kernel
theorem dX9_good_76 : decode cX9_good 76 = .ok (.sipush 1440, 3) := by decide +kernel
theorem dX9_good_79 : decode cX9_good 79 = .ok (.idiv, 1) := by decide +kernel
theorem dX9_good_80 : decode cX9_good 80 = .ok (.iadd, 1) := by decide +kernel
theorem dX9_good_81 : decode cX9_good 81 = .ok (.baload, 1) := by decide +kernel
theorem dX9_good_82 : decode cX9_good 82 = .ok (.ifCond .ne 28, 3) := by decide +kernel
theorem dX9_good_85 : decode cX9_good 85 = .ok (.iload 5, 2) := by decide +kernel
theorem dX9_good_87 : decode cX9_good 87 = .ok (.aload_n 0, 1) := by decide +kernel
theorem dX9_good_88 : decode cX9_good 88 = .ok (.iload_n 1, 1) := by decide +kernel
theorem dX9_good_89 : decode cX9_good 89 = .ok (.iconst 4, 1) := by decide +kernel
theorem dX9_good_90 : decode cX9_good 90 = .ok (.invokevirtual 161, 3) := by decide +kernel
theorem dX9_good_93 : decode cX9_good 93 = .ok (.if_icmp .lt 17, 3) := by decide +kernel
theorem dX9_good_96 : decode cX9_good 96 = .ok (.iload 5, 2) := by decide +kernel
theorem dX9_good_98 : decode cX9_good 98 = .ok (.aload_n 0, 1) := by decide +kernel
theorem dX9_good_99 : decode cX9_good 99 = .ok (.iload_n 1, 1) := by decide +kernel
theorem dX9_good_100 : decode cX9_good 100 = .ok (.iconst 5, 1) := by decide +kernel
theorem dX9_good_101 : decode cX9_good 101 = .ok (.invokevirtual 161, 3) := by decide +kernel
theorem dX9_good_104 : decode cX9_good 104 = .ok (.if_icmp .ge 6, 3) := by decide +kernel
theorem dX9_good_107 : decode cX9_good 107 = .ok (.iload 4, 2) := by decide +kernel
theorem dX9_good_109 : decode cX9_good 109 = .ok (.ireturn, 1) := by decide +kernel
theorem dX9_good_110 : decode cX9_good 110 = .ok (.iinc 4 1, 3) := by decide +kernel
theorem dX9_good_113 : decode cX9_good 113 = .ok (.goto (-75), 3) := by decide +kernel
theorem dX9_good_116 : decode cX9_good 116 = .ok (.iconst (-1), 1) := by decide +kernel
theorem dX9_good_117 : decode cX9_good 117 = .ok (.ireturn, 1) := by decide +kernel
set_option maxHeartbeats 4000000 in
set_option maxRecDepth 100000 in
theorem g_X9_good (l : Launch) (G : xG) (S : yS) (d : yD) (h0 : Nat) (p0 : Int32) (hSh : ySh S) (hm_h0 : h0 ∈ S.1) (hk_h0 : S.2.1 h0 = 9) (hI : yMI S d h0) (hr_p0 : 0 ≤ (p0 : Int32).toInt ∧ (p0 : Int32).toInt ≤ 7) : xRi l G yX9_good cX9_good 6 (some .int) 2 43 [.ref h0, .int p0] (yW G S d) (fun r => -1 ≤ r.toInt ∧ r.toInt < 129600) := by
  intro sz
  refine xstart (by decide) (Nat.le_of_ble_eq_true rfl) (fun p e s m args below meth c ls C0 hr hlocks hin hsz hP hK hD hN hl => ?_)
  obtain ⟨hx, hb, hml, hown, htl⟩ := id C0
  have hl : lv_has ls 6 [(0, .ref h0), (1, .int p0)] := hl
  refine lv_aload_n hx hb dX9_good_0 rfl (lv_at hl 0 rfl) ?_
  refine lv_iload_n hx hb dX9_good_1 rfl (lv_at hl 1 rfl) ?_
  refine lv_iconst (v := 1) hx hb dX9_good_2 (by decide) ?_
  refine lv_iconst (v := 0) hx hb dX9_good_3 (by decide) ?_
  refine yVri (As := [.int p0, .int 1, .int 0]) (rest := []) C0 (g_X9_first l G S d h0 p0 1 0 hSh hm_h0 hk_h0 hI) ok_X9_first (mW631 : Cond.methodLink RX9 223 yX9_first ∈ wsT) ⟨Nat.le_of_ble_eq_true rfl, Nat.le_of_ble_eq_true rfl⟩ hP hD hK hN hm_h0 hk_h0 (by decide) rfl rfl rfl hl.1 rfl (Nat.le_of_ble_eq_true rfl) ⟨Nat.le_of_ble_eq_true rfl, Nat.le_of_ble_eq_true rfl⟩ dX9_good_4 (fun r_1 hr_1 => ?_)
  refine lv_istore_n (lv' := [(2, .int r_1), (0, .ref h0), (1, .int p0)]) hx hb dX9_good_7 rfl hl (by decide) rfl (fun ls hl => ?_)
  refine lv_aload_n hx hb dX9_good_8 rfl (lv_at hl 1 rfl) ?_
  refine lv_iload_n hx hb dX9_good_9 rfl (lv_at hl 2 rfl) ?_
  refine lv_iconst (v := 0) hx hb dX9_good_10 (by decide) ?_
  refine lv_iconst (v := 0) hx hb dX9_good_11 (by decide) ?_
  refine yVri (As := [.int p0, .int 0, .int 0]) (rest := []) C0 (g_X9_first l G S d h0 p0 0 0 hSh hm_h0 hk_h0 hI) ok_X9_first (mW631 : Cond.methodLink RX9 223 yX9_first ∈ wsT) ⟨Nat.le_of_ble_eq_true rfl, Nat.le_of_ble_eq_true rfl⟩ hP hD hK hN hm_h0 hk_h0 (by decide) rfl rfl rfl hl.1 rfl (Nat.le_of_ble_eq_true rfl) ⟨Nat.le_of_ble_eq_true rfl, Nat.le_of_ble_eq_true rfl⟩ dX9_good_12 (fun r_2 hr_2 => ?_)
  refine lv_istore_n (lv' := [(3, .int r_2), (2, .int r_1), (0, .ref h0), (1, .int p0)]) hx hb dX9_good_15 rfl hl (by decide) rfl (fun ls hl => ?_)
  refine lv_iload_n hx hb dX9_good_16 rfl (lv_at hl 1 rfl) ?_
  refine lv_if_lt (tgt := 24) hx hb dX9_good_17 (by decide) (fun c_3 => ?_) (fun c_3 => ?_)
  · refine lv_iconst (v := (-1)) hx hb dX9_good_24 (by decide) ?_
    have hCC_4 := yMI.c hI
    have F_5 := flt (rfl : (r_1 : Int32).toInt = (r_1 : Int32).toInt) (by decide +kernel : (0 : Int32).toInt = 0) c_3
    exact W.iret (v := (-1)) hx hb hr (fun t ht hW => ⟨(-1), rfl, (by have h0_ : ((-1) : Int32).toInt = (-1) := (by decide +kernel); omega), ht⟩) (fun q hq => by cases hq) dX9_good_25
  · refine lv_iload_n hx hb dX9_good_20 rfl (lv_at hl 0 rfl) ?_
    refine lv_if_ge (tgt := 26) hx hb dX9_good_21 (by decide) (fun c_6 => ?_) (fun c_6 => ?_)
    · refine lv_iload_n hx hb dX9_good_26 rfl (lv_at hl 1 rfl) ?_
      refine lv_iload_n hx hb dX9_good_27 rfl (lv_at hl 0 rfl) ?_
      refine lv_icmp_le (tgt := 35) hx hb dX9_good_28 (by decide) (fun c_7 => ?_) (fun c_7 => ?_)
      · refine lv_iload_n hx hb dX9_good_35 rfl (lv_at hl 0 rfl) ?_
        refine lv_istore (lv' := [(4, .int r_2), (3, .int r_2), (2, .int r_1), (0, .ref h0), (1, .int p0)]) hx hb dX9_good_36 hl (by decide) rfl (fun ls hl => ?_)
        have hCC_8 := yMI.c hI
        have F_9 := fnlt (rfl : (r_1 : Int32).toInt = (r_1 : Int32).toInt) (by decide +kernel : (0 : Int32).toInt = 0) c_3
        have F_10 := fle (by decide +kernel : (0 : Int32).toInt = 0) (rfl : (r_2 : Int32).toInt = (r_2 : Int32).toInt) c_6
        have F_11 := fle (rfl : (r_1 : Int32).toInt = (r_1 : Int32).toInt) (rfl : (r_2 : Int32).toInt = (r_2 : Int32).toInt) c_7
        refine yloopR (σ := Int32) (fun x => (2147483647 - (x : Int32).toInt).toNat) 38 (fun x ls => (0 ≤ ((x) : Int32).toInt) ∧ lv_has ls 6 [(4, .int x), (0, .ref h0), (1, .int p0)]) (fun x ls hl hnext_13 => ?_) r_2 ⟨(show (0 ≤ ((r_2) : Int32).toInt) from by have hq0_ : (0 : Int32).toInt = 0 := (by decide +kernel); omega), lv_sub hl [0, 3, 4] rfl⟩
        obtain ⟨v_12, rfl⟩ : ∃ z, z = x := ⟨_, rfl⟩
        obtain ⟨hex_14, hl⟩ := hl
        have hex_14 : (0 ≤ ((v_12) : Int32).toInt) := hex_14
        have hl : lv_has ls 6 [(4, .int v_12), (0, .ref h0), (1, .int p0)] := hl
        refine lv_iload hx hb dX9_good_38 (lv_at hl 0 rfl) ?_
        refine lv_aload_n hx hb dX9_good_40 rfl (lv_at hl 1 rfl) ?_
        refine lv_iload_n hx hb dX9_good_41 rfl (lv_at hl 2 rfl) ?_
        refine yVri (As := [.int p0]) (rest := [.int v_12]) C0 (g_X9_length l G S d h0 p0 hSh hm_h0 hk_h0 hI (by refine ⟨?_, ?_⟩ <;> omega)) ok_X9_length (mW635 : Cond.methodLink RX9 226 yX9_length ∈ wsT) ⟨Nat.le_of_ble_eq_true rfl, Nat.le_of_ble_eq_true rfl⟩ hP hD hK hN hm_h0 hk_h0 (by decide) rfl rfl rfl hl.1 rfl (Nat.le_of_ble_eq_true rfl) ⟨Nat.le_of_ble_eq_true rfl, Nat.le_of_ble_eq_true rfl⟩ dX9_good_42 (fun r_15 hr_15 => ?_)
        refine lv_icmp_ge (tgt := 116) hx hb dX9_good_45 (by decide) (fun c_16 => ?_) (fun c_16 => ?_)
        · refine lv_iconst (v := (-1)) hx hb dX9_good_116 (by decide) ?_
          have F_17 := fle (rfl : (r_15 : Int32).toInt = (r_15 : Int32).toInt) (rfl : (v_12 : Int32).toInt = (v_12 : Int32).toInt) c_16
          exact W.iret (v := (-1)) hx hb hr (fun t ht hW => ⟨(-1), rfl, (by have h0_ : ((-1) : Int32).toInt = (-1) := (by decide +kernel); omega), ht⟩) (fun q hq => by cases hq) dX9_good_117
        · refine lv_iload hx hb dX9_good_48 (lv_at hl 0 rfl) ?_
          refine lv_sipush (v := 1440) hx hb dX9_good_50 (by decide) ?_
          refine lv_irem hx hb dX9_good_53 (by decide) ?_
          refine lv_topi (fun z_18 ez_18 => ?_)
          refine lv_istore (lv' := [(5, .int z_18), (4, .int v_12), (0, .ref h0), (1, .int p0)]) hx hb dX9_good_54 hl (by decide) rfl (fun ls hl => ?_)
          refine lv_aload_n hx hb dX9_good_56 rfl (lv_at hl 2 rfl) ?_
          refine lv_iload_n hx hb dX9_good_57 rfl (lv_at hl 3 rfl) ?_
          refine lv_iload hx hb dX9_good_58 (lv_at hl 1 rfl) ?_
          have F_19 := fnle (rfl : (r_15 : Int32).toInt = (r_15 : Int32).toInt) (rfl : (v_12 : Int32).toInt = (v_12 : Int32).toInt) c_16
          refine yVri (As := [.int p0, .int v_12]) (rest := []) C0 (g_X9_isKnown l G S d h0 p0 v_12 hSh hm_h0 hk_h0 (by refine ⟨?_, ?_⟩ <;> omega) (by refine ⟨?_, ?_⟩ <;> omega)) ok_X9_isKnown (mW429 : Cond.methodLink RX9 198 yX9_isKnown ∈ wsT) ⟨Nat.le_of_ble_eq_true rfl, Nat.le_of_ble_eq_true rfl⟩ hP hD hK hN hm_h0 hk_h0 (by decide) rfl rfl rfl hl.1 rfl (Nat.le_of_ble_eq_true rfl) ⟨Nat.le_of_ble_eq_true rfl, Nat.le_of_ble_eq_true rfl⟩ dX9_good_60 (fun r_20 hr_20 => ?_)
          refine lv_if_eq (tgt := 110) hx hb dX9_good_63 (by decide) (fun c_21 => ?_) (fun c_21 => ?_)
          · refine lv_iinc (v := v_12 + 1) (lv' := [(4, .int (v_12 + 1)), (5, .int z_18), (0, .ref h0), (1, .int p0)]) hx hb dX9_good_110 hl (k := 1) rfl rfl (by decide) rfl (fun ls hl => ?_)
            refine lv_goto (tgt := 38) hx hb dX9_good_113 (by decide) ?_
            have F_23 := feq (rfl : (r_20 : Int32).toInt = (r_20 : Int32).toInt) (by decide +kernel : (0 : Int32).toInt = 0) c_21
            have T_24 : ((v_12 + 1) : Int32).toInt = (v_12 : Int32).toInt + 1 := tadd rfl (rfl : (v_12 : Int32).toInt = (v_12 : Int32).toInt) (by decide +kernel : (1 : Int32).toInt = 1) (by omega) (by omega)
            exact hnext_13 (v_12 + 1) ls (xup c_16) ⟨(show (0 ≤ (((v_12 + 1)) : Int32).toInt) from by have hq0_ : (0 : Int32).toInt = 0 := (by decide +kernel); omega), (lv_sub hl [0, 2, 3] rfl)⟩
          · refine lv_aload_n hx hb dX9_good_66 rfl (lv_at hl 2 rfl) ?_
            refine yget (ci := 9) (k := 14) (v := .ref (S.2.2.1 h0 14)) (C := RX9) (T := TX9) (N := 67) C0 hK hP hm_h0 hk_h0 (by decide) rfl inlX9 (by decide) mW121 (fun _ h9 => h9) rfl dX9_good_67 ?_
            obtain ⟨hmy_25, hky_25⟩ := ySh.f9_14 hSh _ hm_h0 hk_h0
            refine lv_bipush (v := 90) hx hb dX9_good_70 (by decide) ?_
            refine lv_iload_n hx hb dX9_good_72 rfl (lv_at hl 3 rfl) ?_
            refine lv_imul hx hb dX9_good_73 ?_
            refine lv_topi (fun z_26 ez_26 => ?_)
            refine lv_iload hx hb dX9_good_74 (lv_at hl 1 rfl) ?_
            refine lv_sipush (v := 1440) hx hb dX9_good_76 (by decide) ?_
            refine lv_idiv hx hb dX9_good_79 (by decide) ?_
            refine lv_topi (fun z_27 ez_27 => ?_)
            refine lv_iadd hx hb dX9_good_80 ?_
            refine lv_topi (fun z_28 ez_28 => ?_)
            have F_29 := fne (rfl : (r_20 : Int32).toInt = (r_20 : Int32).toInt) (by decide +kernel : (0 : Int32).toInt = 0) c_21
            have T_31 : (z_26 : Int32).toInt = 90 * (p0 : Int32).toInt := tmul ez_26 (by decide +kernel : (90 : Int32).toInt = 90) (rfl : (p0 : Int32).toInt = (p0 : Int32).toInt) (by omega) (by omega)
            have T_32 := tdivc ez_27 (rfl : (v_12 : Int32).toInt = (v_12 : Int32).toInt) (by decide +kernel : (1440 : Int32).toInt = 1440) (by omega) (by omega)
            have T_30 : (z_28 : Int32).toInt = (z_26 : Int32).toInt + (z_27 : Int32).toInt := tadd ez_28 (rfl : (z_26 : Int32).toInt = (z_26 : Int32).toInt) (rfl : (z_27 : Int32).toInt = (z_27 : Int32).toInt) (by omega) (by omega)
            refine yaldZ C0 hK hP hmy_25 hky_25 (by decide) rfl 3 rfl (xinT 720 rfl (by omega) (by omega)) dX9_good_81 ?_
            refine lv_topi (fun z_33 ez_33 => ?_)
            have hzz_33 : z_33 = 0 ∨ z_33 = 1 := by rw [ez_33]; exact yMI.z_ hI _
            refine lv_if_ne (tgt := 110) hx hb dX9_good_82 (by decide) (fun c_34 => ?_) (fun c_34 => ?_)
            · refine lv_iinc (v := v_12 + 1) (lv' := [(4, .int (v_12 + 1)), (5, .int z_18), (0, .ref h0), (1, .int p0)]) hx hb dX9_good_110 hl (k := 1) rfl rfl (by decide) rfl (fun ls hl => ?_)
              refine lv_goto (tgt := 38) hx hb dX9_good_113 (by decide) ?_
              have F_37 := fne (rfl : (z_33 : Int32).toInt = (z_33 : Int32).toInt) (by decide +kernel : (0 : Int32).toInt = 0) c_34
              have T_38 : ((v_12 + 1) : Int32).toInt = (v_12 : Int32).toInt + 1 := tadd rfl (rfl : (v_12 : Int32).toInt = (v_12 : Int32).toInt) (by decide +kernel : (1 : Int32).toInt = 1) (by omega) (by omega)
              exact hnext_13 (v_12 + 1) ls (xup c_16) ⟨(show (0 ≤ (((v_12 + 1)) : Int32).toInt) from by have hq0_ : (0 : Int32).toInt = 0 := (by decide +kernel); omega), (lv_sub hl [0, 2, 3] rfl)⟩
            · refine lv_iload hx hb dX9_good_85 (lv_at hl 0 rfl) ?_
              refine lv_aload_n hx hb dX9_good_87 rfl (lv_at hl 2 rfl) ?_
              refine lv_iload_n hx hb dX9_good_88 rfl (lv_at hl 3 rfl) ?_
              refine lv_iconst (v := 4) hx hb dX9_good_89 (by decide) ?_
              have F_40 := feq (rfl : (z_33 : Int32).toInt = (z_33 : Int32).toInt) (by decide +kernel : (0 : Int32).toInt = 0) c_34
              refine yVri (As := [.int p0, .int 4]) (rest := [.int z_18]) C0 (g_X9_of l G S d h0 p0 4 hSh hm_h0 hk_h0 (by refine ⟨?_, ?_⟩ <;> omega) (by decide +kernel)) ok_X9_of (mW425 : Cond.methodLink RX9 161 yX9_of ∈ wsT) ⟨Nat.le_of_ble_eq_true rfl, Nat.le_of_ble_eq_true rfl⟩ hP hD hK hN hm_h0 hk_h0 (by decide) rfl rfl rfl hl.1 rfl (Nat.le_of_ble_eq_true rfl) ⟨Nat.le_of_ble_eq_true rfl, Nat.le_of_ble_eq_true rfl⟩ dX9_good_90 (fun r_41 hr_41 => ?_)
              have hOr_41 : (r_41 : Int32).toInt = yOf S d h0 (p0 : Int32).toInt.toNat 4 := by rw [hr_41, show (4 : Int32).toInt.toNat = 4 by decide +kernel]; rfl
              refine lv_icmp_lt (tgt := 110) hx hb dX9_good_93 (by decide) (fun c_42 => ?_) (fun c_42 => ?_)
              · refine lv_iinc (v := v_12 + 1) (lv' := [(4, .int (v_12 + 1)), (5, .int z_18), (0, .ref h0), (1, .int p0)]) hx hb dX9_good_110 hl (k := 1) rfl rfl (by decide) rfl (fun ls hl => ?_)
                refine lv_goto (tgt := 38) hx hb dX9_good_113 (by decide) ?_
                have T_44 := tremc ez_18 (rfl : (v_12 : Int32).toInt = (v_12 : Int32).toInt) (by decide +kernel : (1440 : Int32).toInt = 1440) (by omega) (by omega)
                have F_45 := flt (rfl : (z_18 : Int32).toInt = (z_18 : Int32).toInt) (rfl : (r_41 : Int32).toInt = (r_41 : Int32).toInt) c_42
                have T_46 : ((v_12 + 1) : Int32).toInt = (v_12 : Int32).toInt + 1 := tadd rfl (rfl : (v_12 : Int32).toInt = (v_12 : Int32).toInt) (by decide +kernel : (1 : Int32).toInt = 1) (by omega) (by omega)
                exact hnext_13 (v_12 + 1) ls (xup c_16) ⟨(show (0 ≤ (((v_12 + 1)) : Int32).toInt) from by have hq0_ : (0 : Int32).toInt = 0 := (by decide +kernel); omega), (lv_sub hl [0, 2, 3] rfl)⟩
              · refine lv_iload hx hb dX9_good_96 (lv_at hl 0 rfl) ?_
                refine lv_aload_n hx hb dX9_good_98 rfl (lv_at hl 2 rfl) ?_
                refine lv_iload_n hx hb dX9_good_99 rfl (lv_at hl 3 rfl) ?_
                refine lv_iconst (v := 5) hx hb dX9_good_100 (by decide) ?_
                have T_47 := tremc ez_18 (rfl : (v_12 : Int32).toInt = (v_12 : Int32).toInt) (by decide +kernel : (1440 : Int32).toInt = 1440) (by omega) (by omega)
                have F_48 := fnlt (rfl : (z_18 : Int32).toInt = (z_18 : Int32).toInt) (rfl : (r_41 : Int32).toInt = (r_41 : Int32).toInt) c_42
                refine yVri (As := [.int p0, .int 5]) (rest := [.int z_18]) C0 (g_X9_of l G S d h0 p0 5 hSh hm_h0 hk_h0 (by refine ⟨?_, ?_⟩ <;> omega) (by decide +kernel)) ok_X9_of (mW425 : Cond.methodLink RX9 161 yX9_of ∈ wsT) ⟨Nat.le_of_ble_eq_true rfl, Nat.le_of_ble_eq_true rfl⟩ hP hD hK hN hm_h0 hk_h0 (by decide) rfl rfl rfl hl.1 rfl (Nat.le_of_ble_eq_true rfl) ⟨Nat.le_of_ble_eq_true rfl, Nat.le_of_ble_eq_true rfl⟩ dX9_good_101 (fun r_49 hr_49 => ?_)
                have hOr_49 : (r_49 : Int32).toInt = yOf S d h0 (p0 : Int32).toInt.toNat 5 := by rw [hr_49, show (5 : Int32).toInt.toNat = 5 by decide +kernel]; rfl
                refine lv_icmp_ge (tgt := 110) hx hb dX9_good_104 (by decide) (fun c_50 => ?_) (fun c_50 => ?_)
                · refine lv_iinc (v := v_12 + 1) (lv' := [(4, .int (v_12 + 1)), (5, .int z_18), (0, .ref h0), (1, .int p0)]) hx hb dX9_good_110 hl (k := 1) rfl rfl (by decide) rfl (fun ls hl => ?_)
                  refine lv_goto (tgt := 38) hx hb dX9_good_113 (by decide) ?_
                  have F_52 := fle (rfl : (r_49 : Int32).toInt = (r_49 : Int32).toInt) (rfl : (z_18 : Int32).toInt = (z_18 : Int32).toInt) c_50
                  have T_53 : ((v_12 + 1) : Int32).toInt = (v_12 : Int32).toInt + 1 := tadd rfl (rfl : (v_12 : Int32).toInt = (v_12 : Int32).toInt) (by decide +kernel : (1 : Int32).toInt = 1) (by omega) (by omega)
                  exact hnext_13 (v_12 + 1) ls (xup c_16) ⟨(show (0 ≤ (((v_12 + 1)) : Int32).toInt) from by have hq0_ : (0 : Int32).toInt = 0 := (by decide +kernel); omega), (lv_sub hl [0, 2, 3] rfl)⟩
                · refine lv_iload hx hb dX9_good_107 (lv_at hl 1 rfl) ?_
                  have F_54 := fnle (rfl : (r_49 : Int32).toInt = (r_49 : Int32).toInt) (rfl : (z_18 : Int32).toInt = (z_18 : Int32).toInt) c_50
                  exact W.iret (v := v_12) hx hb hr (fun t ht hW => ⟨v_12, rfl, (by omega), ht⟩) (fun q hq => by cases hq) dX9_good_109
      · refine lv_iload_n hx hb dX9_good_31 rfl (lv_at hl 1 rfl) ?_
        refine lv_goto (tgt := 36) hx hb dX9_good_32 (by decide) ?_
        refine lv_istore (lv' := [(4, .int r_1), (3, .int r_2), (2, .int r_1), (0, .ref h0), (1, .int p0)]) hx hb dX9_good_36 hl (by decide) rfl (fun ls hl => ?_)
        have hCC_55 := yMI.c hI
        have F_56 := fnlt (rfl : (r_1 : Int32).toInt = (r_1 : Int32).toInt) (by decide +kernel : (0 : Int32).toInt = 0) c_3
        have F_57 := fle (by decide +kernel : (0 : Int32).toInt = 0) (rfl : (r_2 : Int32).toInt = (r_2 : Int32).toInt) c_6
        have F_58 := fnle (rfl : (r_1 : Int32).toInt = (r_1 : Int32).toInt) (rfl : (r_2 : Int32).toInt = (r_2 : Int32).toInt) c_7
        refine yloopR (σ := Int32) (fun x => (2147483647 - (x : Int32).toInt).toNat) 38 (fun x ls => (0 ≤ ((x) : Int32).toInt) ∧ lv_has ls 6 [(4, .int x), (0, .ref h0), (1, .int p0)]) (fun x ls hl hnext_60 => ?_) r_1 ⟨(show (0 ≤ ((r_1) : Int32).toInt) from by have hq0_ : (0 : Int32).toInt = 0 := (by decide +kernel); omega), lv_sub hl [0, 3, 4] rfl⟩
        obtain ⟨v_59, rfl⟩ : ∃ z, z = x := ⟨_, rfl⟩
        obtain ⟨hex_61, hl⟩ := hl
        have hex_61 : (0 ≤ ((v_59) : Int32).toInt) := hex_61
        have hl : lv_has ls 6 [(4, .int v_59), (0, .ref h0), (1, .int p0)] := hl
        refine lv_iload hx hb dX9_good_38 (lv_at hl 0 rfl) ?_
        refine lv_aload_n hx hb dX9_good_40 rfl (lv_at hl 1 rfl) ?_
        refine lv_iload_n hx hb dX9_good_41 rfl (lv_at hl 2 rfl) ?_
        refine yVri (As := [.int p0]) (rest := [.int v_59]) C0 (g_X9_length l G S d h0 p0 hSh hm_h0 hk_h0 hI (by refine ⟨?_, ?_⟩ <;> omega)) ok_X9_length (mW635 : Cond.methodLink RX9 226 yX9_length ∈ wsT) ⟨Nat.le_of_ble_eq_true rfl, Nat.le_of_ble_eq_true rfl⟩ hP hD hK hN hm_h0 hk_h0 (by decide) rfl rfl rfl hl.1 rfl (Nat.le_of_ble_eq_true rfl) ⟨Nat.le_of_ble_eq_true rfl, Nat.le_of_ble_eq_true rfl⟩ dX9_good_42 (fun r_62 hr_62 => ?_)
        refine lv_icmp_ge (tgt := 116) hx hb dX9_good_45 (by decide) (fun c_63 => ?_) (fun c_63 => ?_)
        · refine lv_iconst (v := (-1)) hx hb dX9_good_116 (by decide) ?_
          have F_64 := fle (rfl : (r_62 : Int32).toInt = (r_62 : Int32).toInt) (rfl : (v_59 : Int32).toInt = (v_59 : Int32).toInt) c_63
          exact W.iret (v := (-1)) hx hb hr (fun t ht hW => ⟨(-1), rfl, (by have h0_ : ((-1) : Int32).toInt = (-1) := (by decide +kernel); omega), ht⟩) (fun q hq => by cases hq) dX9_good_117
        · refine lv_iload hx hb dX9_good_48 (lv_at hl 0 rfl) ?_
          refine lv_sipush (v := 1440) hx hb dX9_good_50 (by decide) ?_
          refine lv_irem hx hb dX9_good_53 (by decide) ?_
          refine lv_topi (fun z_65 ez_65 => ?_)
          refine lv_istore (lv' := [(5, .int z_65), (4, .int v_59), (0, .ref h0), (1, .int p0)]) hx hb dX9_good_54 hl (by decide) rfl (fun ls hl => ?_)
          refine lv_aload_n hx hb dX9_good_56 rfl (lv_at hl 2 rfl) ?_
          refine lv_iload_n hx hb dX9_good_57 rfl (lv_at hl 3 rfl) ?_
          refine lv_iload hx hb dX9_good_58 (lv_at hl 1 rfl) ?_
          have F_66 := fnle (rfl : (r_62 : Int32).toInt = (r_62 : Int32).toInt) (rfl : (v_59 : Int32).toInt = (v_59 : Int32).toInt) c_63
          refine yVri (As := [.int p0, .int v_59]) (rest := []) C0 (g_X9_isKnown l G S d h0 p0 v_59 hSh hm_h0 hk_h0 (by refine ⟨?_, ?_⟩ <;> omega) (by refine ⟨?_, ?_⟩ <;> omega)) ok_X9_isKnown (mW429 : Cond.methodLink RX9 198 yX9_isKnown ∈ wsT) ⟨Nat.le_of_ble_eq_true rfl, Nat.le_of_ble_eq_true rfl⟩ hP hD hK hN hm_h0 hk_h0 (by decide) rfl rfl rfl hl.1 rfl (Nat.le_of_ble_eq_true rfl) ⟨Nat.le_of_ble_eq_true rfl, Nat.le_of_ble_eq_true rfl⟩ dX9_good_60 (fun r_67 hr_67 => ?_)
          refine lv_if_eq (tgt := 110) hx hb dX9_good_63 (by decide) (fun c_68 => ?_) (fun c_68 => ?_)
          · refine lv_iinc (v := v_59 + 1) (lv' := [(4, .int (v_59 + 1)), (5, .int z_65), (0, .ref h0), (1, .int p0)]) hx hb dX9_good_110 hl (k := 1) rfl rfl (by decide) rfl (fun ls hl => ?_)
            refine lv_goto (tgt := 38) hx hb dX9_good_113 (by decide) ?_
            have F_70 := feq (rfl : (r_67 : Int32).toInt = (r_67 : Int32).toInt) (by decide +kernel : (0 : Int32).toInt = 0) c_68
            have T_71 : ((v_59 + 1) : Int32).toInt = (v_59 : Int32).toInt + 1 := tadd rfl (rfl : (v_59 : Int32).toInt = (v_59 : Int32).toInt) (by decide +kernel : (1 : Int32).toInt = 1) (by omega) (by omega)
            exact hnext_60 (v_59 + 1) ls (xup c_63) ⟨(show (0 ≤ (((v_59 + 1)) : Int32).toInt) from by have hq0_ : (0 : Int32).toInt = 0 := (by decide +kernel); omega), (lv_sub hl [0, 2, 3] rfl)⟩
          · refine lv_aload_n hx hb dX9_good_66 rfl (lv_at hl 2 rfl) ?_
            refine yget (ci := 9) (k := 14) (v := .ref (S.2.2.1 h0 14)) (C := RX9) (T := TX9) (N := 67) C0 hK hP hm_h0 hk_h0 (by decide) rfl inlX9 (by decide) mW121 (fun _ h9 => h9) rfl dX9_good_67 ?_
            obtain ⟨hmy_72, hky_72⟩ := ySh.f9_14 hSh _ hm_h0 hk_h0
            refine lv_bipush (v := 90) hx hb dX9_good_70 (by decide) ?_
            refine lv_iload_n hx hb dX9_good_72 rfl (lv_at hl 3 rfl) ?_
            refine lv_imul hx hb dX9_good_73 ?_
            refine lv_topi (fun z_73 ez_73 => ?_)
            refine lv_iload hx hb dX9_good_74 (lv_at hl 1 rfl) ?_
            refine lv_sipush (v := 1440) hx hb dX9_good_76 (by decide) ?_
            refine lv_idiv hx hb dX9_good_79 (by decide) ?_
            refine lv_topi (fun z_74 ez_74 => ?_)
            refine lv_iadd hx hb dX9_good_80 ?_
            refine lv_topi (fun z_75 ez_75 => ?_)
            have F_76 := fne (rfl : (r_67 : Int32).toInt = (r_67 : Int32).toInt) (by decide +kernel : (0 : Int32).toInt = 0) c_68
            have T_78 : (z_73 : Int32).toInt = 90 * (p0 : Int32).toInt := tmul ez_73 (by decide +kernel : (90 : Int32).toInt = 90) (rfl : (p0 : Int32).toInt = (p0 : Int32).toInt) (by omega) (by omega)
            have T_79 := tdivc ez_74 (rfl : (v_59 : Int32).toInt = (v_59 : Int32).toInt) (by decide +kernel : (1440 : Int32).toInt = 1440) (by omega) (by omega)
            have T_77 : (z_75 : Int32).toInt = (z_73 : Int32).toInt + (z_74 : Int32).toInt := tadd ez_75 (rfl : (z_73 : Int32).toInt = (z_73 : Int32).toInt) (rfl : (z_74 : Int32).toInt = (z_74 : Int32).toInt) (by omega) (by omega)
            refine yaldZ C0 hK hP hmy_72 hky_72 (by decide) rfl 3 rfl (xinT 720 rfl (by omega) (by omega)) dX9_good_81 ?_
            refine lv_topi (fun z_80 ez_80 => ?_)
            have hzz_80 : z_80 = 0 ∨ z_80 = 1 := by rw [ez_80]; exact yMI.z_ hI _
            refine lv_if_ne (tgt := 110) hx hb dX9_good_82 (by decide) (fun c_81 => ?_) (fun c_81 => ?_)
            · refine lv_iinc (v := v_59 + 1) (lv' := [(4, .int (v_59 + 1)), (5, .int z_65), (0, .ref h0), (1, .int p0)]) hx hb dX9_good_110 hl (k := 1) rfl rfl (by decide) rfl (fun ls hl => ?_)
              refine lv_goto (tgt := 38) hx hb dX9_good_113 (by decide) ?_
              have F_84 := fne (rfl : (z_80 : Int32).toInt = (z_80 : Int32).toInt) (by decide +kernel : (0 : Int32).toInt = 0) c_81
              have T_85 : ((v_59 + 1) : Int32).toInt = (v_59 : Int32).toInt + 1 := tadd rfl (rfl : (v_59 : Int32).toInt = (v_59 : Int32).toInt) (by decide +kernel : (1 : Int32).toInt = 1) (by omega) (by omega)
              exact hnext_60 (v_59 + 1) ls (xup c_63) ⟨(show (0 ≤ (((v_59 + 1)) : Int32).toInt) from by have hq0_ : (0 : Int32).toInt = 0 := (by decide +kernel); omega), (lv_sub hl [0, 2, 3] rfl)⟩
            · refine lv_iload hx hb dX9_good_85 (lv_at hl 0 rfl) ?_
              refine lv_aload_n hx hb dX9_good_87 rfl (lv_at hl 2 rfl) ?_
              refine lv_iload_n hx hb dX9_good_88 rfl (lv_at hl 3 rfl) ?_
              refine lv_iconst (v := 4) hx hb dX9_good_89 (by decide) ?_
              have F_87 := feq (rfl : (z_80 : Int32).toInt = (z_80 : Int32).toInt) (by decide +kernel : (0 : Int32).toInt = 0) c_81
              refine yVri (As := [.int p0, .int 4]) (rest := [.int z_65]) C0 (g_X9_of l G S d h0 p0 4 hSh hm_h0 hk_h0 (by refine ⟨?_, ?_⟩ <;> omega) (by decide +kernel)) ok_X9_of (mW425 : Cond.methodLink RX9 161 yX9_of ∈ wsT) ⟨Nat.le_of_ble_eq_true rfl, Nat.le_of_ble_eq_true rfl⟩ hP hD hK hN hm_h0 hk_h0 (by decide) rfl rfl rfl hl.1 rfl (Nat.le_of_ble_eq_true rfl) ⟨Nat.le_of_ble_eq_true rfl, Nat.le_of_ble_eq_true rfl⟩ dX9_good_90 (fun r_88 hr_88 => ?_)
              have hOr_88 : (r_88 : Int32).toInt = yOf S d h0 (p0 : Int32).toInt.toNat 4 := by rw [hr_88, show (4 : Int32).toInt.toNat = 4 by decide +kernel]; rfl
              refine lv_icmp_lt (tgt := 110) hx hb dX9_good_93 (by decide) (fun c_89 => ?_) (fun c_89 => ?_)
              · refine lv_iinc (v := v_59 + 1) (lv' := [(4, .int (v_59 + 1)), (5, .int z_65), (0, .ref h0), (1, .int p0)]) hx hb dX9_good_110 hl (k := 1) rfl rfl (by decide) rfl (fun ls hl => ?_)
                refine lv_goto (tgt := 38) hx hb dX9_good_113 (by decide) ?_
                have T_91 := tremc ez_65 (rfl : (v_59 : Int32).toInt = (v_59 : Int32).toInt) (by decide +kernel : (1440 : Int32).toInt = 1440) (by omega) (by omega)
                have F_92 := flt (rfl : (z_65 : Int32).toInt = (z_65 : Int32).toInt) (rfl : (r_88 : Int32).toInt = (r_88 : Int32).toInt) c_89
                have T_93 : ((v_59 + 1) : Int32).toInt = (v_59 : Int32).toInt + 1 := tadd rfl (rfl : (v_59 : Int32).toInt = (v_59 : Int32).toInt) (by decide +kernel : (1 : Int32).toInt = 1) (by omega) (by omega)
                exact hnext_60 (v_59 + 1) ls (xup c_63) ⟨(show (0 ≤ (((v_59 + 1)) : Int32).toInt) from by have hq0_ : (0 : Int32).toInt = 0 := (by decide +kernel); omega), (lv_sub hl [0, 2, 3] rfl)⟩
              · refine lv_iload hx hb dX9_good_96 (lv_at hl 0 rfl) ?_
                refine lv_aload_n hx hb dX9_good_98 rfl (lv_at hl 2 rfl) ?_
                refine lv_iload_n hx hb dX9_good_99 rfl (lv_at hl 3 rfl) ?_
                refine lv_iconst (v := 5) hx hb dX9_good_100 (by decide) ?_
                have T_94 := tremc ez_65 (rfl : (v_59 : Int32).toInt = (v_59 : Int32).toInt) (by decide +kernel : (1440 : Int32).toInt = 1440) (by omega) (by omega)
                have F_95 := fnlt (rfl : (z_65 : Int32).toInt = (z_65 : Int32).toInt) (rfl : (r_88 : Int32).toInt = (r_88 : Int32).toInt) c_89
                refine yVri (As := [.int p0, .int 5]) (rest := [.int z_65]) C0 (g_X9_of l G S d h0 p0 5 hSh hm_h0 hk_h0 (by refine ⟨?_, ?_⟩ <;> omega) (by decide +kernel)) ok_X9_of (mW425 : Cond.methodLink RX9 161 yX9_of ∈ wsT) ⟨Nat.le_of_ble_eq_true rfl, Nat.le_of_ble_eq_true rfl⟩ hP hD hK hN hm_h0 hk_h0 (by decide) rfl rfl rfl hl.1 rfl (Nat.le_of_ble_eq_true rfl) ⟨Nat.le_of_ble_eq_true rfl, Nat.le_of_ble_eq_true rfl⟩ dX9_good_101 (fun r_96 hr_96 => ?_)
                have hOr_96 : (r_96 : Int32).toInt = yOf S d h0 (p0 : Int32).toInt.toNat 5 := by rw [hr_96, show (5 : Int32).toInt.toNat = 5 by decide +kernel]; rfl
                refine lv_icmp_ge (tgt := 110) hx hb dX9_good_104 (by decide) (fun c_97 => ?_) (fun c_97 => ?_)
                · refine lv_iinc (v := v_59 + 1) (lv' := [(4, .int (v_59 + 1)), (5, .int z_65), (0, .ref h0), (1, .int p0)]) hx hb dX9_good_110 hl (k := 1) rfl rfl (by decide) rfl (fun ls hl => ?_)
                  refine lv_goto (tgt := 38) hx hb dX9_good_113 (by decide) ?_
                  have F_99 := fle (rfl : (r_96 : Int32).toInt = (r_96 : Int32).toInt) (rfl : (z_65 : Int32).toInt = (z_65 : Int32).toInt) c_97
                  have T_100 : ((v_59 + 1) : Int32).toInt = (v_59 : Int32).toInt + 1 := tadd rfl (rfl : (v_59 : Int32).toInt = (v_59 : Int32).toInt) (by decide +kernel : (1 : Int32).toInt = 1) (by omega) (by omega)
                  exact hnext_60 (v_59 + 1) ls (xup c_63) ⟨(show (0 ≤ (((v_59 + 1)) : Int32).toInt) from by have hq0_ : (0 : Int32).toInt = 0 := (by decide +kernel); omega), (lv_sub hl [0, 2, 3] rfl)⟩
                · refine lv_iload hx hb dX9_good_107 (lv_at hl 1 rfl) ?_
                  have F_101 := fnle (rfl : (r_96 : Int32).toInt = (r_96 : Int32).toInt) (rfl : (z_65 : Int32).toInt = (z_65 : Int32).toInt) c_97
                  exact W.iret (v := v_59) hx hb hr (fun t ht hW => ⟨v_59, rfl, (by omega), ht⟩) (fun q hq => by cases hq) dX9_good_109
    · refine lv_iconst (v := (-1)) hx hb dX9_good_24 (by decide) ?_
      have hCC_102 := yMI.c hI
      have F_103 := fnlt (rfl : (r_1 : Int32).toInt = (r_1 : Int32).toInt) (by decide +kernel : (0 : Int32).toInt = 0) c_3
      have F_104 := fnle (by decide +kernel : (0 : Int32).toInt = 0) (rfl : (r_2 : Int32).toInt = (r_2 : Int32).toInt) c_6
      exact W.iret (v := (-1)) hx hb hr (fun t ht hW => ⟨(-1), rfl, (by have h0_ : ((-1) : Int32).toInt = (-1) := (by decide +kernel); omega), ht⟩) (fun q hq => by cases hq) dX9_good_25
theorem dX9_many_0 : decode cX9_many 0 = .ok (.iconst 0, 1) := by decide +kernel
theorem dX9_many_1 : decode cX9_many 1 = .ok (.istore_n 2, 1) := by decide +kernel
theorem dX9_many_2 : decode cX9_many 2 = .ok (.iconst 0, 1) := by decide +kernel
theorem dX9_many_3 : decode cX9_many 3 = .ok (.istore_n 3, 1) := by decide +kernel
theorem dX9_many_4 : decode cX9_many 4 = .ok (.iload_n 3, 1) := by decide +kernel
theorem dX9_many_5 : decode cX9_many 5 = .ok (.aload_n 0, 1) := by decide +kernel
theorem dX9_many_6 : decode cX9_many 6 = .ok (.getfield 180, 3) := by decide +kernel
theorem dX9_many_9 : decode cX9_many 9 = .ok (.if_icmp .ge 22, 3) := by decide +kernel
theorem dX9_many_12 : decode cX9_many 12 = .ok (.aload_n 0, 1) := by decide +kernel
theorem dX9_many_13 : decode cX9_many 13 = .ok (.getfield 51, 3) := by decide +kernel
theorem dX9_many_16 : decode cX9_many 16 = .ok (.iload_n 3, 1) := by decide +kernel
theorem dX9_many_17 : decode cX9_many 17 = .ok (.baload, 1) := by decide +kernel
theorem dX9_many_18 : decode cX9_many 18 = .ok (.iload_n 1, 1) := by decide +kernel
theorem dX9_many_19 : decode cX9_many 19 = .ok (.if_icmp .ne 6, 3) := by decide +kernel
theorem dX9_many_22 : decode cX9_many 22 = .ok (.iinc 2 1, 3) := by decide +kernel
theorem dX9_many_25 : decode cX9_many 25 = .ok (.iinc 3 1, 3) := by decide +kernel
theorem dX9_many_28 : decode cX9_many 28 = .ok (.goto (-24), 3) := by decide +kernel
theorem dX9_many_31 : decode cX9_many 31 = .ok (.iload_n 2, 1) := by decide +kernel
theorem dX9_many_32 : decode cX9_many 32 = .ok (.ireturn, 1) := by decide +kernel
set_option maxHeartbeats 4000000 in
set_option maxRecDepth 100000 in
theorem g_X9_many (l : Launch) (G : xG) (S : yS) (d : yD) (h0 : Nat) (p0 : Int32) (hSh : ySh S) (hm_h0 : h0 ∈ S.1) (hk_h0 : S.2.1 h0 = 9) (hI : yMI S d h0) : xRi l G yX9_many cX9_many 4 (some .int) 0 0 [.ref h0, .int p0] (yW G S d) (fun r => True) := by
  intro sz
  refine xstart (by decide) (Nat.le_of_ble_eq_true rfl) (fun p e s m args below meth c ls C0 hr hlocks hin hsz hP hK hD hN hl => ?_)
  obtain ⟨hx, hb, hml, hown, htl⟩ := id C0
  have hl : lv_has ls 4 [(0, .ref h0), (1, .int p0)] := hl
  refine lv_iconst (v := 0) hx hb dX9_many_0 (by decide) ?_
  refine lv_istore_n (lv' := [(2, .int 0), (0, .ref h0), (1, .int p0)]) hx hb dX9_many_1 rfl hl (by decide) rfl (fun ls hl => ?_)
  refine lv_iconst (v := 0) hx hb dX9_many_2 (by decide) ?_
  refine lv_istore_n (lv' := [(3, .int 0), (2, .int 0), (0, .ref h0), (1, .int p0)]) hx hb dX9_many_3 rfl hl (by decide) rfl (fun ls hl => ?_)
  have hCC_1 := yMI.c hI
  refine yloopR (σ := Int32 × Int32) (fun x => (2147483647 - (x.2 : Int32).toInt).toNat) 4 (fun x ls => (0 ≤ ((x.2) : Int32).toInt) ∧ lv_has ls 4 [(3, .int x.2), (2, .int x.1), (0, .ref h0), (1, .int p0)]) (fun x ls hl hnext_4 => ?_) (0, 0) ⟨(show (0 ≤ ((0) : Int32).toInt) from by have hl0_ : (0 : Int32).toInt = 0 := (by decide +kernel); have hl1_ : (0 : Int32).toInt = 0 := (by decide +kernel); have hq0_ : (0 : Int32).toInt = 0 := (by decide +kernel); omega), lv_sub hl [0, 1, 2, 3] rfl⟩
  obtain ⟨v_2, v_3⟩ := x
  obtain ⟨hex_5, hl⟩ := hl
  have hex_5 : (0 ≤ ((v_3) : Int32).toInt) := hex_5
  have hl : lv_has ls 4 [(3, .int v_3), (2, .int v_2), (0, .ref h0), (1, .int p0)] := hl
  refine lv_iload_n hx hb dX9_many_4 rfl (lv_at hl 0 rfl) ?_
  refine lv_aload_n hx hb dX9_many_5 rfl (lv_at hl 2 rfl) ?_
  refine yget (ci := 9) (k := 1) (v := .int (d.1 h0 1)) (C := RX9) (T := TX9) (N := 67) C0 hK hP hm_h0 hk_h0 (by decide) rfl inlX9 (by decide) mW364 (fun _ h9 => h9) rfl dX9_many_6 ?_
  refine lv_topi (fun z_6 ez_6 => ?_)
  refine lv_icmp_ge (tgt := 31) hx hb dX9_many_9 (by decide) (fun c_7 => ?_) (fun c_7 => ?_)
  · refine lv_iload_n hx hb dX9_many_31 rfl (lv_at hl 1 rfl) ?_
    exact W.iret (v := v_2) hx hb hr (fun t ht hW => ⟨v_2, rfl, trivial, ht⟩) (fun q hq => by cases hq) dX9_many_32
  · refine lv_aload_n hx hb dX9_many_12 rfl (lv_at hl 2 rfl) ?_
    refine yget (ci := 9) (k := 15) (v := .ref (S.2.2.1 h0 15)) (C := RX9) (T := TX9) (N := 67) C0 hK hP hm_h0 hk_h0 (by decide) rfl inlX9 (by decide) mW122 (fun _ h9 => h9) rfl dX9_many_13 ?_
    obtain ⟨hmy_8, hky_8⟩ := ySh.f9_15 hSh _ hm_h0 hk_h0
    refine lv_iload_n hx hb dX9_many_16 rfl (lv_at hl 0 rfl) ?_
    have T_9 : (z_6 : Int32).toInt = (d.1 h0 1).toInt := by rw [ez_6]
    have F_10 := fnle (rfl : (z_6 : Int32).toInt = (z_6 : Int32).toInt) (rfl : (v_3 : Int32).toInt = (v_3 : Int32).toInt) c_7
    refine yaldB C0 hK hP hmy_8 hky_8 (by decide) rfl 1 rfl (xinT 5000 rfl (by omega) (by omega)) dX9_many_17 ?_
    refine lv_topi (fun z_11 ez_11 => ?_)
    refine lv_iload_n hx hb dX9_many_18 rfl (lv_at hl 3 rfl) ?_
    refine lv_icmp_ne (tgt := 25) hx hb dX9_many_19 (by decide) (fun c_12 => ?_) (fun c_12 => ?_)
    · refine lv_iinc (v := v_3 + 1) (lv' := [(3, .int (v_3 + 1)), (2, .int v_2), (0, .ref h0), (1, .int p0)]) hx hb dX9_many_25 hl (k := 0) rfl rfl (by decide) rfl (fun ls hl => ?_)
      refine lv_goto (tgt := 4) hx hb dX9_many_28 (by decide) ?_
      have F_15 := fne (rfl : (z_11 : Int32).toInt = (z_11 : Int32).toInt) (rfl : (p0 : Int32).toInt = (p0 : Int32).toInt) c_12
      have T_16 : ((v_3 + 1) : Int32).toInt = (v_3 : Int32).toInt + 1 := tadd rfl (rfl : (v_3 : Int32).toInt = (v_3 : Int32).toInt) (by decide +kernel : (1 : Int32).toInt = 1) (by omega) (by omega)
      exact hnext_4 (v_2, v_3 + 1) ls (xup c_7) ⟨(show (0 ≤ (((v_3 + 1)) : Int32).toInt) from by have hq0_ : (0 : Int32).toInt = 0 := (by decide +kernel); omega), (lv_sub hl [0, 1, 2, 3] rfl)⟩
    · refine lv_iinc (v := v_2 + 1) (lv' := [(2, .int (v_2 + 1)), (3, .int v_3), (0, .ref h0), (1, .int p0)]) hx hb dX9_many_22 hl (k := 1) rfl rfl (by decide) rfl (fun ls hl => ?_)
      refine lv_iinc (v := v_3 + 1) (lv' := [(3, .int (v_3 + 1)), (2, .int (v_2 + 1)), (0, .ref h0), (1, .int p0)]) hx hb dX9_many_25 hl (k := 1) rfl rfl (by decide) rfl (fun ls hl => ?_)
      refine lv_goto (tgt := 4) hx hb dX9_many_28 (by decide) ?_
      have F_20 := feq (rfl : (z_11 : Int32).toInt = (z_11 : Int32).toInt) (rfl : (p0 : Int32).toInt = (p0 : Int32).toInt) c_12
      have T_21 : ((v_3 + 1) : Int32).toInt = (v_3 : Int32).toInt + 1 := tadd rfl (rfl : (v_3 : Int32).toInt = (v_3 : Int32).toInt) (by decide +kernel : (1 : Int32).toInt = 1) (by omega) (by omega)
      exact hnext_4 (v_2 + 1, v_3 + 1) ls (xup c_7) ⟨(show (0 ≤ (((v_3 + 1)) : Int32).toInt) from by have hq0_ : (0 : Int32).toInt = 0 := (by decide +kernel); omega), (lv_sub hl [0, 1, 2, 3] rfl)⟩
theorem dX9_unknown_0 : decode cX9_unknown 0 = .ok (.iconst 0, 1) := by decide +kernel
theorem dX9_unknown_1 : decode cX9_unknown 1 = .ok (.istore_n 2, 1) := by decide +kernel
theorem dX9_unknown_2 : decode cX9_unknown 2 = .ok (.iconst 0, 1) := by decide +kernel
theorem dX9_unknown_3 : decode cX9_unknown 3 = .ok (.istore_n 3, 1) := by decide +kernel
theorem dX9_unknown_4 : decode cX9_unknown 4 = .ok (.iload_n 3, 1) := by decide +kernel
theorem dX9_unknown_5 : decode cX9_unknown 5 = .ok (.aload_n 0, 1) := by decide +kernel
theorem dX9_unknown_6 : decode cX9_unknown 6 = .ok (.iload_n 1, 1) := by decide +kernel
theorem dX9_unknown_7 : decode cX9_unknown 7 = .ok (.invokevirtual 226, 3) := by decide +kernel
theorem dX9_unknown_10 : decode cX9_unknown 10 = .ok (.if_icmp .ge 21, 3) := by decide +kernel
theorem dX9_unknown_13 : decode cX9_unknown 13 = .ok (.aload_n 0, 1) := by decide +kernel
theorem dX9_unknown_14 : decode cX9_unknown 14 = .ok (.iload_n 1, 1) := by decide +kernel
theorem dX9_unknown_15 : decode cX9_unknown 15 = .ok (.iload_n 3, 1) := by decide +kernel
theorem dX9_unknown_16 : decode cX9_unknown 16 = .ok (.invokevirtual 198, 3) := by decide +kernel
theorem dX9_unknown_19 : decode cX9_unknown 19 = .ok (.ifCond .ne 6, 3) := by decide +kernel
theorem dX9_unknown_22 : decode cX9_unknown 22 = .ok (.iinc 2 1, 3) := by decide +kernel
theorem dX9_unknown_25 : decode cX9_unknown 25 = .ok (.iinc 3 1, 3) := by decide +kernel
theorem dX9_unknown_28 : decode cX9_unknown 28 = .ok (.goto (-24), 3) := by decide +kernel
theorem dX9_unknown_31 : decode cX9_unknown 31 = .ok (.iload_n 2, 1) := by decide +kernel
theorem dX9_unknown_32 : decode cX9_unknown 32 = .ok (.ireturn, 1) := by decide +kernel
set_option maxHeartbeats 4000000 in
set_option maxRecDepth 100000 in
theorem g_X9_unknown (l : Launch) (G : xG) (S : yS) (d : yD) (h0 : Nat) (p0 : Int32) (hSh : ySh S) (hm_h0 : h0 ∈ S.1) (hk_h0 : S.2.1 h0 = 9) (hI : yMI S d h0) (hr_p0 : 0 ≤ (p0 : Int32).toInt ∧ (p0 : Int32).toInt ≤ 7) : xRi l G yX9_unknown cX9_unknown 4 (some .int) 2 43 [.ref h0, .int p0] (yW G S d) (fun r => True) := by
  intro sz
  refine xstart (by decide) (Nat.le_of_ble_eq_true rfl) (fun p e s m args below meth c ls C0 hr hlocks hin hsz hP hK hD hN hl => ?_)
  obtain ⟨hx, hb, hml, hown, htl⟩ := id C0
  have hl : lv_has ls 4 [(0, .ref h0), (1, .int p0)] := hl
  refine lv_iconst (v := 0) hx hb dX9_unknown_0 (by decide) ?_
  refine lv_istore_n (lv' := [(2, .int 0), (0, .ref h0), (1, .int p0)]) hx hb dX9_unknown_1 rfl hl (by decide) rfl (fun ls hl => ?_)
  refine lv_iconst (v := 0) hx hb dX9_unknown_2 (by decide) ?_
  refine lv_istore_n (lv' := [(3, .int 0), (2, .int 0), (0, .ref h0), (1, .int p0)]) hx hb dX9_unknown_3 rfl hl (by decide) rfl (fun ls hl => ?_)
  have hCC_1 := yMI.c hI
  refine yloopR (σ := Int32 × Int32) (fun x => (2147483647 - (x.2 : Int32).toInt).toNat) 4 (fun x ls => (0 ≤ ((x.2) : Int32).toInt) ∧ lv_has ls 4 [(3, .int x.2), (2, .int x.1), (0, .ref h0), (1, .int p0)]) (fun x ls hl hnext_4 => ?_) (0, 0) ⟨(show (0 ≤ ((0) : Int32).toInt) from by have hl0_ : (0 : Int32).toInt = 0 := (by decide +kernel); have hl1_ : (0 : Int32).toInt = 0 := (by decide +kernel); have hq0_ : (0 : Int32).toInt = 0 := (by decide +kernel); omega), lv_sub hl [0, 1, 2, 3] rfl⟩
  obtain ⟨v_2, v_3⟩ := x
  obtain ⟨hex_5, hl⟩ := hl
  have hex_5 : (0 ≤ ((v_3) : Int32).toInt) := hex_5
  have hl : lv_has ls 4 [(3, .int v_3), (2, .int v_2), (0, .ref h0), (1, .int p0)] := hl
  refine lv_iload_n hx hb dX9_unknown_4 rfl (lv_at hl 0 rfl) ?_
  refine lv_aload_n hx hb dX9_unknown_5 rfl (lv_at hl 2 rfl) ?_
  refine lv_iload_n hx hb dX9_unknown_6 rfl (lv_at hl 3 rfl) ?_
  refine yVri (As := [.int p0]) (rest := [.int v_3]) C0 (g_X9_length l G S d h0 p0 hSh hm_h0 hk_h0 hI (by refine ⟨?_, ?_⟩ <;> omega)) ok_X9_length (mW635 : Cond.methodLink RX9 226 yX9_length ∈ wsT) ⟨Nat.le_of_ble_eq_true rfl, Nat.le_of_ble_eq_true rfl⟩ hP hD hK hN hm_h0 hk_h0 (by decide) rfl rfl rfl hl.1 rfl (Nat.le_of_ble_eq_true rfl) ⟨Nat.le_of_ble_eq_true rfl, Nat.le_of_ble_eq_true rfl⟩ dX9_unknown_7 (fun r_6 hr_6 => ?_)
  refine lv_icmp_ge (tgt := 31) hx hb dX9_unknown_10 (by decide) (fun c_7 => ?_) (fun c_7 => ?_)
  · refine lv_iload_n hx hb dX9_unknown_31 rfl (lv_at hl 1 rfl) ?_
    exact W.iret (v := v_2) hx hb hr (fun t ht hW => ⟨v_2, rfl, trivial, ht⟩) (fun q hq => by cases hq) dX9_unknown_32
  · refine lv_aload_n hx hb dX9_unknown_13 rfl (lv_at hl 2 rfl) ?_
    refine lv_iload_n hx hb dX9_unknown_14 rfl (lv_at hl 3 rfl) ?_
    refine lv_iload_n hx hb dX9_unknown_15 rfl (lv_at hl 0 rfl) ?_
    have F_8 := fnle (rfl : (r_6 : Int32).toInt = (r_6 : Int32).toInt) (rfl : (v_3 : Int32).toInt = (v_3 : Int32).toInt) c_7
    refine yVri (As := [.int p0, .int v_3]) (rest := []) C0 (g_X9_isKnown l G S d h0 p0 v_3 hSh hm_h0 hk_h0 (by refine ⟨?_, ?_⟩ <;> omega) (by refine ⟨?_, ?_⟩ <;> omega)) ok_X9_isKnown (mW429 : Cond.methodLink RX9 198 yX9_isKnown ∈ wsT) ⟨Nat.le_of_ble_eq_true rfl, Nat.le_of_ble_eq_true rfl⟩ hP hD hK hN hm_h0 hk_h0 (by decide) rfl rfl rfl hl.1 rfl (Nat.le_of_ble_eq_true rfl) ⟨Nat.le_of_ble_eq_true rfl, Nat.le_of_ble_eq_true rfl⟩ dX9_unknown_16 (fun r_9 hr_9 => ?_)
    refine lv_if_ne (tgt := 25) hx hb dX9_unknown_19 (by decide) (fun c_10 => ?_) (fun c_10 => ?_)
    · refine lv_iinc (v := v_3 + 1) (lv' := [(3, .int (v_3 + 1)), (2, .int v_2), (0, .ref h0), (1, .int p0)]) hx hb dX9_unknown_25 hl (k := 0) rfl rfl (by decide) rfl (fun ls hl => ?_)
      refine lv_goto (tgt := 4) hx hb dX9_unknown_28 (by decide) ?_
      have F_12 := fne (rfl : (r_9 : Int32).toInt = (r_9 : Int32).toInt) (by decide +kernel : (0 : Int32).toInt = 0) c_10
      have T_13 : ((v_3 + 1) : Int32).toInt = (v_3 : Int32).toInt + 1 := tadd rfl (rfl : (v_3 : Int32).toInt = (v_3 : Int32).toInt) (by decide +kernel : (1 : Int32).toInt = 1) (by omega) (by omega)
      exact hnext_4 (v_2, v_3 + 1) ls (xup c_7) ⟨(show (0 ≤ (((v_3 + 1)) : Int32).toInt) from by have hq0_ : (0 : Int32).toInt = 0 := (by decide +kernel); omega), (lv_sub hl [0, 1, 2, 3] rfl)⟩
    · refine lv_iinc (v := v_2 + 1) (lv' := [(2, .int (v_2 + 1)), (3, .int v_3), (0, .ref h0), (1, .int p0)]) hx hb dX9_unknown_22 hl (k := 1) rfl rfl (by decide) rfl (fun ls hl => ?_)
      refine lv_iinc (v := v_3 + 1) (lv' := [(3, .int (v_3 + 1)), (2, .int (v_2 + 1)), (0, .ref h0), (1, .int p0)]) hx hb dX9_unknown_25 hl (k := 1) rfl rfl (by decide) rfl (fun ls hl => ?_)
      refine lv_goto (tgt := 4) hx hb dX9_unknown_28 (by decide) ?_
      have F_16 := feq (rfl : (r_9 : Int32).toInt = (r_9 : Int32).toInt) (by decide +kernel : (0 : Int32).toInt = 0) c_10
      have T_17 : ((v_3 + 1) : Int32).toInt = (v_3 : Int32).toInt + 1 := tadd rfl (rfl : (v_3 : Int32).toInt = (v_3 : Int32).toInt) (by decide +kernel : (1 : Int32).toInt = 1) (by omega) (by omega)
      exact hnext_4 (v_2 + 1, v_3 + 1) ls (xup c_7) ⟨(show (0 ≤ (((v_3 + 1)) : Int32).toInt) from by have hq0_ : (0 : Int32).toInt = 0 := (by decide +kernel); omega), (lv_sub hl [0, 1, 2, 3] rfl)⟩
theorem dX9_owed_0 : decode cX9_owed 0 = .ok (.aload_n 0, 1) := by decide +kernel
theorem dX9_owed_1 : decode cX9_owed 1 = .ok (.getfield 247, 3) := by decide +kernel
theorem dX9_owed_4 : decode cX9_owed 4 = .ok (.aload_n 0, 1) := by decide +kernel
theorem dX9_owed_5 : decode cX9_owed 5 = .ok (.getfield 251, 3) := by decide +kernel
theorem dX9_owed_8 : decode cX9_owed 8 = .ok (.lcmp, 1) := by decide +kernel
theorem dX9_owed_9 : decode cX9_owed 9 = .ok (.ifCond .le 15, 3) := by decide +kernel
theorem dX9_owed_12 : decode cX9_owed 12 = .ok (.aload_n 0, 1) := by decide +kernel
theorem dX9_owed_13 : decode cX9_owed 13 = .ok (.getfield 247, 3) := by decide +kernel
theorem dX9_owed_16 : decode cX9_owed 16 = .ok (.aload_n 0, 1) := by decide +kernel
theorem dX9_owed_17 : decode cX9_owed 17 = .ok (.getfield 251, 3) := by decide +kernel
theorem dX9_owed_20 : decode cX9_owed 20 = .ok (.lsub, 1) := by decide +kernel
theorem dX9_owed_21 : decode cX9_owed 21 = .ok (.goto 4, 3) := by decide +kernel
theorem dX9_owed_24 : decode cX9_owed 24 = .ok (.lconst 0, 1) := by decide +kernel
theorem dX9_owed_25 : decode cX9_owed 25 = .ok (.lreturn, 1) := by decide +kernel
set_option maxHeartbeats 4000000 in
set_option maxRecDepth 100000 in
theorem g_X9_owed (l : Launch) (G : xG) (S : yS) (d : yD) (h0 : Nat) (hSh : ySh S) (hm_h0 : h0 ∈ S.1) (hk_h0 : S.2.1 h0 = 9) : yRl l G yX9_owed cX9_owed 1 (some .long) 0 0 [.ref h0] (yW G S d) (fun r => True) := by
  intro sz
  refine xstart (by decide) (Nat.le_of_ble_eq_true rfl) (fun p e s m args below meth c ls C0 hr hlocks hin hsz hP hK hD hN hl => ?_)
  obtain ⟨hx, hb, hml, hown, htl⟩ := id C0
  have hl : lv_has ls 1 [(0, .ref h0)] := hl
  refine lv_aload_n hx hb dX9_owed_0 rfl (lv_at hl 0 rfl) ?_
  refine yget (ci := 9) (k := 58) (v := .long (d.2.1 h0 58)) (C := RX9) (T := TX9) (N := 67) C0 hK hP hm_h0 hk_h0 (by decide) rfl inlX9 (by decide) mW873 (fun _ h9 => h9) rfl dX9_owed_1 ?_
  refine lv_topl (fun z_1 ez_1 => ?_)
  refine lv_aload_n hx hb dX9_owed_4 rfl (lv_at hl 0 rfl) ?_
  refine yget (ci := 9) (k := 59) (v := .long (d.2.1 h0 59)) (C := RX9) (T := TX9) (N := 67) C0 hK hP hm_h0 hk_h0 (by decide) rfl inlX9 (by decide) mW874 (fun _ h9 => h9) rfl dX9_owed_5 ?_
  refine lv_topl (fun z_2 ez_2 => ?_)
  refine W.lcmp hx hb dX9_owed_8 ?_
  refine lv_topi (fun z_3 ez_3 => ?_)
  refine lv_if_le (tgt := 24) hx hb dX9_owed_9 (by decide) (fun c_4 => ?_) (fun c_4 => ?_)
  · refine lv_lconst (v := 0) hx hb dX9_owed_24 (by decide) ?_
    exact W.lret (v := 0) hx hb hr (fun t ht hW => ⟨0, rfl, trivial, ht⟩) (fun q hq => by cases hq) dX9_owed_25
  · refine lv_aload_n hx hb dX9_owed_12 rfl (lv_at hl 0 rfl) ?_
    refine yget (ci := 9) (k := 58) (v := .long (d.2.1 h0 58)) (C := RX9) (T := TX9) (N := 67) C0 hK hP hm_h0 hk_h0 (by decide) rfl inlX9 (by decide) mW873 (fun _ h9 => h9) rfl dX9_owed_13 ?_
    refine lv_topl (fun z_5 ez_5 => ?_)
    refine lv_aload_n hx hb dX9_owed_16 rfl (lv_at hl 0 rfl) ?_
    refine yget (ci := 9) (k := 59) (v := .long (d.2.1 h0 59)) (C := RX9) (T := TX9) (N := 67) C0 hK hP hm_h0 hk_h0 (by decide) rfl inlX9 (by decide) mW874 (fun _ h9 => h9) rfl dX9_owed_17 ?_
    refine lv_topl (fun z_6 ez_6 => ?_)
    refine lv_lsub hx hb dX9_owed_20 ?_
    refine lv_topl (fun z_7 ez_7 => ?_)
    refine lv_goto (tgt := 25) hx hb dX9_owed_21 (by decide) ?_
    exact W.lret (v := z_7) hx hb hr (fun t ht hW => ⟨z_7, rfl, trivial, ht⟩) (fun q hq => by cases hq) dX9_owed_25
theorem dX9_leastPort_0 : decode cX9_leastPort 0 = .ok (.iconst 0, 1) := by decide +kernel
theorem dX9_leastPort_1 : decode cX9_leastPort 1 = .ok (.istore_n 2, 1) := by decide +kernel
theorem dX9_leastPort_2 : decode cX9_leastPort 2 = .ok (.iload_n 2, 1) := by decide +kernel
theorem dX9_leastPort_3 : decode cX9_leastPort 3 = .ok (.bipush 8, 2) := by decide +kernel
theorem dX9_leastPort_5 : decode cX9_leastPort 5 = .ok (.if_icmp .ge 32, 3) := by decide +kernel
theorem dX9_leastPort_8 : decode cX9_leastPort 8 = .ok (.aload_n 0, 1) := by decide +kernel
theorem dX9_leastPort_9 : decode cX9_leastPort 9 = .ok (.getfield 36, 3) := by decide +kernel
theorem dX9_leastPort_12 : decode cX9_leastPort 12 = .ok (.bipush 12, 2) := by decide +kernel
theorem dX9_leastPort_14 : decode cX9_leastPort 14 = .ok (.iload_n 1, 1) := by decide +kernel
theorem dX9_leastPort_15 : decode cX9_leastPort 15 = .ok (.imul, 1) := by decide +kernel
theorem dX9_leastPort_16 : decode cX9_leastPort 16 = .ok (.bipush 10, 2) := by decide +kernel
theorem dX9_leastPort_18 : decode cX9_leastPort 18 = .ok (.iadd, 1) := by decide +kernel
theorem dX9_leastPort_19 : decode cX9_leastPort 19 = .ok (.laload, 1) := by decide +kernel
theorem dX9_leastPort_20 : decode cX9_leastPort 20 = .ok (.iload_n 2, 1) := by decide +kernel
theorem dX9_leastPort_21 : decode cX9_leastPort 21 = .ok (.lshr, 1) := by decide +kernel
theorem dX9_leastPort_22 : decode cX9_leastPort 22 = .ok (.lconst 1, 1) := by decide +kernel
theorem dX9_leastPort_23 : decode cX9_leastPort 23 = .ok (.land, 1) := by decide +kernel
theorem dX9_leastPort_24 : decode cX9_leastPort 24 = .ok (.lconst 1, 1) := by decide +kernel
theorem dX9_leastPort_25 : decode cX9_leastPort 25 = .ok (.lcmp, 1) := by decide +kernel
theorem dX9_leastPort_26 : decode cX9_leastPort 26 = .ok (.ifCond .ne 5, 3) := by decide +kernel
theorem dX9_leastPort_29 : decode cX9_leastPort 29 = .ok (.iload_n 2, 1) := by decide +kernel
theorem dX9_leastPort_30 : decode cX9_leastPort 30 = .ok (.ireturn, 1) := by decide +kernel
theorem dX9_leastPort_31 : decode cX9_leastPort 31 = .ok (.iinc 2 1, 3) := by decide +kernel
theorem dX9_leastPort_34 : decode cX9_leastPort 34 = .ok (.goto (-32), 3) := by decide +kernel
theorem dX9_leastPort_37 : decode cX9_leastPort 37 = .ok (.iload_n 1, 1) := by decide +kernel
theorem dX9_leastPort_38 : decode cX9_leastPort 38 = .ok (.ireturn, 1) := by decide +kernel
set_option maxHeartbeats 4000000 in
set_option maxRecDepth 100000 in
theorem g_X9_leastPort (l : Launch) (G : xG) (S : yS) (d : yD) (h0 : Nat) (p0 : Int32) (hSh : ySh S) (hm_h0 : h0 ∈ S.1) (hk_h0 : S.2.1 h0 = 9) (hI : yMI S d h0) (hr_p0 : 0 ≤ (p0 : Int32).toInt ∧ (p0 : Int32).toInt ≤ 7) : xRi l G yX9_leastPort cX9_leastPort 3 (some .int) 0 0 [.ref h0, .int p0] (yW G S d) (fun r => 0 ≤ r.toInt ∧ r.toInt ≤ 7) := by
  intro sz
  refine xstart (by decide) (Nat.le_of_ble_eq_true rfl) (fun p e s m args below meth c ls C0 hr hlocks hin hsz hP hK hD hN hl => ?_)
  obtain ⟨hx, hb, hml, hown, htl⟩ := id C0
  have hl : lv_has ls 3 [(0, .ref h0), (1, .int p0)] := hl
  refine lv_iconst (v := 0) hx hb dX9_leastPort_0 (by decide) ?_
  refine lv_istore_n (lv' := [(2, .int 0), (0, .ref h0), (1, .int p0)]) hx hb dX9_leastPort_1 rfl hl (by decide) rfl (fun ls hl => ?_)
  have hCC_1 := yMI.c hI
  refine yloopR (σ := Int32) (fun x => (2147483647 - (x : Int32).toInt).toNat) 2 (fun x ls => (0 ≤ ((x) : Int32).toInt) ∧ lv_has ls 3 [(2, .int x), (0, .ref h0), (1, .int p0)]) (fun x ls hl hnext_3 => ?_) 0 ⟨(show (0 ≤ ((0) : Int32).toInt) from by have hl0_ : (0 : Int32).toInt = 0 := (by decide +kernel); have hq0_ : (0 : Int32).toInt = 0 := (by decide +kernel); omega), lv_sub hl [0, 1, 2] rfl⟩
  obtain ⟨v_2, rfl⟩ : ∃ z, z = x := ⟨_, rfl⟩
  obtain ⟨hex_4, hl⟩ := hl
  have hex_4 : (0 ≤ ((v_2) : Int32).toInt) := hex_4
  have hl : lv_has ls 3 [(2, .int v_2), (0, .ref h0), (1, .int p0)] := hl
  refine lv_iload_n hx hb dX9_leastPort_2 rfl (lv_at hl 0 rfl) ?_
  refine lv_bipush (v := 8) hx hb dX9_leastPort_3 (by decide) ?_
  refine lv_icmp_ge (tgt := 37) hx hb dX9_leastPort_5 (by decide) (fun c_5 => ?_) (fun c_5 => ?_)
  · refine lv_iload_n hx hb dX9_leastPort_37 rfl (lv_at hl 2 rfl) ?_
    have F_6 := fle (by decide +kernel : (8 : Int32).toInt = 8) (rfl : (v_2 : Int32).toInt = (v_2 : Int32).toInt) c_5
    exact W.iret (v := p0) hx hb hr (fun t ht hW => ⟨p0, rfl, (by omega), ht⟩) (fun q hq => by cases hq) dX9_leastPort_38
  · refine lv_aload_n hx hb dX9_leastPort_8 rfl (lv_at hl 1 rfl) ?_
    refine yget (ci := 9) (k := 11) (v := .ref (S.2.2.1 h0 11)) (C := RX9) (T := TX9) (N := 67) C0 hK hP hm_h0 hk_h0 (by decide) rfl inlX9 (by decide) mW116 (fun _ h9 => h9) rfl dX9_leastPort_9 ?_
    obtain ⟨hmy_7, hky_7⟩ := ySh.f9_11 hSh _ hm_h0 hk_h0
    refine lv_bipush (v := 12) hx hb dX9_leastPort_12 (by decide) ?_
    refine lv_iload_n hx hb dX9_leastPort_14 rfl (lv_at hl 2 rfl) ?_
    refine lv_imul hx hb dX9_leastPort_15 ?_
    refine lv_topi (fun z_8 ez_8 => ?_)
    refine lv_bipush (v := 10) hx hb dX9_leastPort_16 (by decide) ?_
    refine lv_iadd hx hb dX9_leastPort_18 ?_
    refine lv_topi (fun z_9 ez_9 => ?_)
    have F_10 := fnle (by decide +kernel : (8 : Int32).toInt = 8) (rfl : (v_2 : Int32).toInt = (v_2 : Int32).toInt) c_5
    have T_12 : (z_8 : Int32).toInt = 12 * (p0 : Int32).toInt := tmul ez_8 (by decide +kernel : (12 : Int32).toInt = 12) (rfl : (p0 : Int32).toInt = (p0 : Int32).toInt) (by omega) (by omega)
    have T_11 : (z_9 : Int32).toInt = (z_8 : Int32).toInt + 10 := tadd ez_9 (rfl : (z_8 : Int32).toInt = (z_8 : Int32).toInt) (by decide +kernel : (10 : Int32).toInt = 10) (by omega) (by omega)
    refine yaldJ C0 hK hP hmy_7 hky_7 (by decide) rfl 4 rfl (xinT 96 rfl (by omega) (by omega)) dX9_leastPort_19 ?_
    refine lv_topl (fun z_13 ez_13 => ?_)
    refine lv_iload_n hx hb dX9_leastPort_20 rfl (lv_at hl 0 rfl) ?_
    refine lv_lshr hx hb dX9_leastPort_21 rfl ?_
    refine lv_topl (fun z_14 ez_14 => ?_)
    refine lv_lconst (v := 1) hx hb dX9_leastPort_22 (by decide) ?_
    refine lv_land hx hb dX9_leastPort_23 ?_
    refine lv_topl (fun z_15 ez_15 => ?_)
    refine lv_lconst (v := 1) hx hb dX9_leastPort_24 (by decide) ?_
    refine W.lcmp hx hb dX9_leastPort_25 ?_
    refine lv_topi (fun z_16 ez_16 => ?_)
    refine lv_if_ne (tgt := 31) hx hb dX9_leastPort_26 (by decide) (fun c_17 => ?_) (fun c_17 => ?_)
    · refine lv_iinc (v := v_2 + 1) (lv' := [(2, .int (v_2 + 1)), (0, .ref h0), (1, .int p0)]) hx hb dX9_leastPort_31 hl (k := 0) rfl rfl (by decide) rfl (fun ls hl => ?_)
      refine lv_goto (tgt := 2) hx hb dX9_leastPort_34 (by decide) ?_
      have T_19 : ((v_2 + 1) : Int32).toInt = (v_2 : Int32).toInt + 1 := tadd rfl (rfl : (v_2 : Int32).toInt = (v_2 : Int32).toInt) (by decide +kernel : (1 : Int32).toInt = 1) (by omega) (by omega)
      exact hnext_3 (v_2 + 1) ls (xup c_5) ⟨(show (0 ≤ (((v_2 + 1)) : Int32).toInt) from by have hq0_ : (0 : Int32).toInt = 0 := (by decide +kernel); omega), (lv_sub hl [0, 1, 2] rfl)⟩
    · refine lv_iload_n hx hb dX9_leastPort_29 rfl (lv_at hl 0 rfl) ?_
      exact W.iret (v := v_2) hx hb hr (fun t ht hW => ⟨v_2, rfl, (by omega), ht⟩) (fun q hq => by cases hq) dX9_leastPort_30
theorem dX9_begin_0 : decode cX9_begin 0 = .ok (.aload_n 0, 1) := by decide +kernel
theorem dX9_begin_1 : decode cX9_begin 1 = .ok (.iload_n 1, 1) := by decide +kernel
theorem dX9_begin_2 : decode cX9_begin 2 = .ok (.invokevirtual 229, 3) := by decide +kernel
theorem dX9_begin_5 : decode cX9_begin 5 = .ok (.istore_n 2, 1) := by decide +kernel
theorem dX9_begin_6 : decode cX9_begin 6 = .ok (.iload_n 2, 1) := by decide +kernel
theorem dX9_begin_7 : decode cX9_begin 7 = .ok (.ifCond .ge 7, 3) := by decide +kernel
theorem dX9_begin_10 : decode cX9_begin 10 = .ok (.iconst (-1), 1) := by decide +kernel
theorem dX9_begin_11 : decode cX9_begin 11 = .ok (.goto 12, 3) := by decide +kernel
theorem dX9_begin_14 : decode cX9_begin 14 = .ok (.iload_n 2, 1) := by decide +kernel
theorem dX9_begin_15 : decode cX9_begin 15 = .ok (.aload_n 0, 1) := by decide +kernel
theorem dX9_begin_16 : decode cX9_begin 16 = .ok (.iload_n 1, 1) := by decide +kernel
theorem dX9_begin_17 : decode cX9_begin 17 = .ok (.bipush 6, 2) := by decide +kernel
theorem dX9_begin_19 : decode cX9_begin 19 = .ok (.invokevirtual 161, 3) := by decide +kernel
theorem dX9_begin_22 : decode cX9_begin 22 = .ok (.iadd, 1) := by decide +kernel
theorem dX9_begin_23 : decode cX9_begin 23 = .ok (.ireturn, 1) := by decide +kernel
set_option maxHeartbeats 4000000 in
set_option maxRecDepth 100000 in
theorem g_X9_begin (l : Launch) (G : xG) (S : yS) (d : yD) (h0 : Nat) (p0 : Int32) (hSh : ySh S) (hm_h0 : h0 ∈ S.1) (hk_h0 : S.2.1 h0 = 9) (hI : yMI S d h0) (hr_p0 : 0 ≤ (p0 : Int32).toInt ∧ (p0 : Int32).toInt ≤ 7) : xRi l G yX9_begin cX9_begin 3 (some .int) 3 68 [.ref h0, .int p0] (yW G S d) (fun r => -1 ≤ r.toInt ∧ r.toInt ≤ 229599) := by
  intro sz
  refine xstart (by decide) (Nat.le_of_ble_eq_true rfl) (fun p e s m args below meth c ls C0 hr hlocks hin hsz hP hK hD hN hl => ?_)
  obtain ⟨hx, hb, hml, hown, htl⟩ := id C0
  have hl : lv_has ls 3 [(0, .ref h0), (1, .int p0)] := hl
  refine lv_aload_n hx hb dX9_begin_0 rfl (lv_at hl 0 rfl) ?_
  refine lv_iload_n hx hb dX9_begin_1 rfl (lv_at hl 1 rfl) ?_
  refine yVri (As := [.int p0]) (rest := []) C0 (g_X9_good l G S d h0 p0 hSh hm_h0 hk_h0 hI (by refine ⟨?_, ?_⟩ <;> omega)) ok_X9_good (mW627 : Cond.methodLink RX9 229 yX9_good ∈ wsT) ⟨Nat.le_of_ble_eq_true rfl, Nat.le_of_ble_eq_true rfl⟩ hP hD hK hN hm_h0 hk_h0 (by decide) rfl rfl rfl hl.1 rfl (Nat.le_of_ble_eq_true rfl) ⟨Nat.le_of_ble_eq_true rfl, Nat.le_of_ble_eq_true rfl⟩ dX9_begin_2 (fun r_1 hr_1 => ?_)
  refine lv_istore_n (lv' := [(2, .int r_1), (0, .ref h0), (1, .int p0)]) hx hb dX9_begin_5 rfl hl (by decide) rfl (fun ls hl => ?_)
  refine lv_iload_n hx hb dX9_begin_6 rfl (lv_at hl 0 rfl) ?_
  refine lv_if_ge (tgt := 14) hx hb dX9_begin_7 (by decide) (fun c_2 => ?_) (fun c_2 => ?_)
  · refine lv_iload_n hx hb dX9_begin_14 rfl (lv_at hl 0 rfl) ?_
    refine lv_aload_n hx hb dX9_begin_15 rfl (lv_at hl 1 rfl) ?_
    refine lv_iload_n hx hb dX9_begin_16 rfl (lv_at hl 2 rfl) ?_
    refine lv_bipush (v := 6) hx hb dX9_begin_17 (by decide) ?_
    have F_3 := fle (by decide +kernel : (0 : Int32).toInt = 0) (rfl : (r_1 : Int32).toInt = (r_1 : Int32).toInt) c_2
    refine yVri (As := [.int p0, .int 6]) (rest := [.int r_1]) C0 (g_X9_of l G S d h0 p0 6 hSh hm_h0 hk_h0 (by refine ⟨?_, ?_⟩ <;> omega) (by decide +kernel)) ok_X9_of (mW425 : Cond.methodLink RX9 161 yX9_of ∈ wsT) ⟨Nat.le_of_ble_eq_true rfl, Nat.le_of_ble_eq_true rfl⟩ hP hD hK hN hm_h0 hk_h0 (by decide) rfl rfl rfl hl.1 rfl (Nat.le_of_ble_eq_true rfl) ⟨Nat.le_of_ble_eq_true rfl, Nat.le_of_ble_eq_true rfl⟩ dX9_begin_19 (fun r_4 hr_4 => ?_)
    have hOr_4 : (r_4 : Int32).toInt = yOf S d h0 (p0 : Int32).toInt.toNat 6 := by rw [hr_4, show (6 : Int32).toInt.toNat = 6 by decide +kernel]; rfl
    have hCC_5 := yMI.c hI
    have hbr_4 := xof6 hI (p := p0) (by refine ⟨?_, ?_⟩ <;> omega) hr_4
    refine lv_iadd hx hb dX9_begin_22 ?_
    refine lv_topi (fun z_6 ez_6 => ?_)
    have T_7 : (z_6 : Int32).toInt = (r_1 : Int32).toInt + (r_4 : Int32).toInt := tadd ez_6 (rfl : (r_1 : Int32).toInt = (r_1 : Int32).toInt) (rfl : (r_4 : Int32).toInt = (r_4 : Int32).toInt) (by omega) (by omega)
    exact W.iret (v := z_6) hx hb hr (fun t ht hW => ⟨z_6, rfl, (by omega), ht⟩) (fun q hq => by cases hq) dX9_begin_23
  · refine lv_iconst (v := (-1)) hx hb dX9_begin_10 (by decide) ?_
    refine lv_goto (tgt := 23) hx hb dX9_begin_11 (by decide) ?_
    have hCC_8 := yMI.c hI
    have F_9 := fnle (by decide +kernel : (0 : Int32).toInt = 0) (rfl : (r_1 : Int32).toInt = (r_1 : Int32).toInt) c_2
    exact W.iret (v := (-1)) hx hb hr (fun t ht hW => ⟨(-1), rfl, (by have h0_ : ((-1) : Int32).toInt = (-1) := (by decide +kernel); omega), ht⟩) (fun q hq => by cases hq) dX9_begin_23
theorem dX9_doesCount_0 : decode cX9_doesCount 0 = .ok (.aload_n 0, 1) := by decide +kernel
theorem dX9_doesCount_1 : decode cX9_doesCount 1 = .ok (.iload_n 1, 1) := by decide +kernel
theorem dX9_doesCount_2 : decode cX9_doesCount 2 = .ok (.invokevirtual 232, 3) := by decide +kernel
theorem dX9_doesCount_5 : decode cX9_doesCount 5 = .ok (.istore_n 2, 1) := by decide +kernel
theorem dX9_doesCount_6 : decode cX9_doesCount 6 = .ok (.iload_n 2, 1) := by decide +kernel
theorem dX9_doesCount_7 : decode cX9_doesCount 7 = .ok (.ifCond .lt 16, 3) := by decide +kernel
theorem dX9_doesCount_10 : decode cX9_doesCount 10 = .ok (.iload_n 2, 1) := by decide +kernel
theorem dX9_doesCount_11 : decode cX9_doesCount 11 = .ok (.aload_n 0, 1) := by decide +kernel
theorem dX9_doesCount_12 : decode cX9_doesCount 12 = .ok (.iload_n 1, 1) := by decide +kernel
theorem dX9_doesCount_13 : decode cX9_doesCount 13 = .ok (.invokevirtual 226, 3) := by decide +kernel
theorem dX9_doesCount_16 : decode cX9_doesCount 16 = .ok (.if_icmp .ge 7, 3) := by decide +kernel
theorem dX9_doesCount_19 : decode cX9_doesCount 19 = .ok (.iconst 1, 1) := by decide +kernel
theorem dX9_doesCount_20 : decode cX9_doesCount 20 = .ok (.goto 4, 3) := by decide +kernel
theorem dX9_doesCount_23 : decode cX9_doesCount 23 = .ok (.iconst 0, 1) := by decide +kernel
theorem dX9_doesCount_24 : decode cX9_doesCount 24 = .ok (.ireturn, 1) := by decide +kernel
set_option maxHeartbeats 4000000 in
set_option maxRecDepth 100000 in
theorem g_X9_doesCount (l : Launch) (G : xG) (S : yS) (d : yD) (h0 : Nat) (p0 : Int32) (hSh : ySh S) (hm_h0 : h0 ∈ S.1) (hk_h0 : S.2.1 h0 = 9) (hI : yMI S d h0) (hr_p0 : 0 ≤ (p0 : Int32).toInt ∧ (p0 : Int32).toInt ≤ 7) : xRi l G yX9_doesCount cX9_doesCount 3 (some .boolean) 4 90 [.ref h0, .int p0] (yW G S d) (fun r => r = 0 ∨ r = 1) := by
  intro sz
  refine xstart (by decide) (Nat.le_of_ble_eq_true rfl) (fun p e s m args below meth c ls C0 hr hlocks hin hsz hP hK hD hN hl => ?_)
  obtain ⟨hx, hb, hml, hown, htl⟩ := id C0
  have hl : lv_has ls 3 [(0, .ref h0), (1, .int p0)] := hl
  refine lv_aload_n hx hb dX9_doesCount_0 rfl (lv_at hl 0 rfl) ?_
  refine lv_iload_n hx hb dX9_doesCount_1 rfl (lv_at hl 1 rfl) ?_
  refine yVri (As := [.int p0]) (rest := []) C0 (g_X9_begin l G S d h0 p0 hSh hm_h0 hk_h0 hI (by refine ⟨?_, ?_⟩ <;> omega)) ok_X9_begin (mW639 : Cond.methodLink RX9 232 yX9_begin ∈ wsT) ⟨Nat.le_of_ble_eq_true rfl, Nat.le_of_ble_eq_true rfl⟩ hP hD hK hN hm_h0 hk_h0 (by decide) rfl rfl rfl hl.1 rfl (Nat.le_of_ble_eq_true rfl) ⟨Nat.le_of_ble_eq_true rfl, Nat.le_of_ble_eq_true rfl⟩ dX9_doesCount_2 (fun r_1 hr_1 => ?_)
  refine lv_istore_n (lv' := [(2, .int r_1), (0, .ref h0), (1, .int p0)]) hx hb dX9_doesCount_5 rfl hl (by decide) rfl (fun ls hl => ?_)
  refine lv_iload_n hx hb dX9_doesCount_6 rfl (lv_at hl 0 rfl) ?_
  refine lv_if_lt (tgt := 23) hx hb dX9_doesCount_7 (by decide) (fun c_2 => ?_) (fun c_2 => ?_)
  · refine lv_iconst (v := 0) hx hb dX9_doesCount_23 (by decide) ?_
    exact W.zret (v := 0) (ty := .boolean) hx hb hr rfl (fun t ht hW => ⟨0, rfl, Or.inl rfl, ht⟩) (fun q hq => by cases hq) dX9_doesCount_24
  · refine lv_iload_n hx hb dX9_doesCount_10 rfl (lv_at hl 0 rfl) ?_
    refine lv_aload_n hx hb dX9_doesCount_11 rfl (lv_at hl 1 rfl) ?_
    refine lv_iload_n hx hb dX9_doesCount_12 rfl (lv_at hl 2 rfl) ?_
    have F_3 := fnlt (rfl : (r_1 : Int32).toInt = (r_1 : Int32).toInt) (by decide +kernel : (0 : Int32).toInt = 0) c_2
    refine yVri (As := [.int p0]) (rest := [.int r_1]) C0 (g_X9_length l G S d h0 p0 hSh hm_h0 hk_h0 hI (by refine ⟨?_, ?_⟩ <;> omega)) ok_X9_length (mW635 : Cond.methodLink RX9 226 yX9_length ∈ wsT) ⟨Nat.le_of_ble_eq_true rfl, Nat.le_of_ble_eq_true rfl⟩ hP hD hK hN hm_h0 hk_h0 (by decide) rfl rfl rfl hl.1 rfl (Nat.le_of_ble_eq_true rfl) ⟨Nat.le_of_ble_eq_true rfl, Nat.le_of_ble_eq_true rfl⟩ dX9_doesCount_13 (fun r_4 hr_4 => ?_)
    refine lv_icmp_ge (tgt := 23) hx hb dX9_doesCount_16 (by decide) (fun c_5 => ?_) (fun c_5 => ?_)
    · refine lv_iconst (v := 0) hx hb dX9_doesCount_23 (by decide) ?_
      exact W.zret (v := 0) (ty := .boolean) hx hb hr rfl (fun t ht hW => ⟨0, rfl, Or.inl rfl, ht⟩) (fun q hq => by cases hq) dX9_doesCount_24
    · refine lv_iconst (v := 1) hx hb dX9_doesCount_19 (by decide) ?_
      refine lv_goto (tgt := 24) hx hb dX9_doesCount_20 (by decide) ?_
      exact W.zret (v := 1) (ty := .boolean) hx hb hr rfl (fun t ht hW => ⟨1, rfl, Or.inr rfl, ht⟩) (fun q hq => by cases hq) dX9_doesCount_24
theorem dX9_hasEnd_0 : decode cX9_hasEnd 0 = .ok (.aload_n 0, 1) := by decide +kernel
theorem dX9_hasEnd_1 : decode cX9_hasEnd 1 = .ok (.iload_n 1, 1) := by decide +kernel
theorem dX9_hasEnd_2 : decode cX9_hasEnd 2 = .ok (.bipush 7, 2) := by decide +kernel
theorem dX9_hasEnd_4 : decode cX9_hasEnd 4 = .ok (.aload_n 0, 1) := by decide +kernel
theorem dX9_hasEnd_5 : decode cX9_hasEnd 5 = .ok (.iload_n 1, 1) := by decide +kernel
theorem dX9_hasEnd_6 : decode cX9_hasEnd 6 = .ok (.invokevirtual 232, 3) := by decide +kernel
theorem dX9_hasEnd_9 : decode cX9_hasEnd 9 = .ok (.invokevirtual 223, 3) := by decide +kernel
theorem dX9_hasEnd_12 : decode cX9_hasEnd 12 = .ok (.ifCond .lt 7, 3) := by decide +kernel
theorem dX9_hasEnd_15 : decode cX9_hasEnd 15 = .ok (.iconst 1, 1) := by decide +kernel
theorem dX9_hasEnd_16 : decode cX9_hasEnd 16 = .ok (.goto 4, 3) := by decide +kernel
theorem dX9_hasEnd_19 : decode cX9_hasEnd 19 = .ok (.iconst 0, 1) := by decide +kernel
theorem dX9_hasEnd_20 : decode cX9_hasEnd 20 = .ok (.ireturn, 1) := by decide +kernel
set_option maxHeartbeats 4000000 in
set_option maxRecDepth 100000 in
theorem g_X9_hasEnd (l : Launch) (G : xG) (S : yS) (d : yD) (h0 : Nat) (p0 : Int32) (hSh : ySh S) (hm_h0 : h0 ∈ S.1) (hk_h0 : S.2.1 h0 = 9) (hI : yMI S d h0) (hr_p0 : 0 ≤ (p0 : Int32).toInt ∧ (p0 : Int32).toInt ≤ 7) : xRi l G yX9_hasEnd cX9_hasEnd 2 (some .boolean) 4 90 [.ref h0, .int p0] (yW G S d) (fun r => r = 0 ∨ r = 1) := by
  intro sz
  refine xstart (by decide) (Nat.le_of_ble_eq_true rfl) (fun p e s m args below meth c ls C0 hr hlocks hin hsz hP hK hD hN hl => ?_)
  obtain ⟨hx, hb, hml, hown, htl⟩ := id C0
  have hl : lv_has ls 2 [(0, .ref h0), (1, .int p0)] := hl
  refine lv_aload_n hx hb dX9_hasEnd_0 rfl (lv_at hl 0 rfl) ?_
  refine lv_iload_n hx hb dX9_hasEnd_1 rfl (lv_at hl 1 rfl) ?_
  refine lv_bipush (v := 7) hx hb dX9_hasEnd_2 (by decide) ?_
  refine lv_aload_n hx hb dX9_hasEnd_4 rfl (lv_at hl 0 rfl) ?_
  refine lv_iload_n hx hb dX9_hasEnd_5 rfl (lv_at hl 1 rfl) ?_
  refine yVri (As := [.int p0]) (rest := [.int 7, .int p0, .ref h0]) C0 (g_X9_begin l G S d h0 p0 hSh hm_h0 hk_h0 hI (by refine ⟨?_, ?_⟩ <;> omega)) ok_X9_begin (mW639 : Cond.methodLink RX9 232 yX9_begin ∈ wsT) ⟨Nat.le_of_ble_eq_true rfl, Nat.le_of_ble_eq_true rfl⟩ hP hD hK hN hm_h0 hk_h0 (by decide) rfl rfl rfl hl.1 rfl (Nat.le_of_ble_eq_true rfl) ⟨Nat.le_of_ble_eq_true rfl, Nat.le_of_ble_eq_true rfl⟩ dX9_hasEnd_6 (fun r_1 hr_1 => ?_)
  refine yVri (As := [.int p0, .int 7, .int r_1]) (rest := []) C0 (g_X9_first l G S d h0 p0 7 r_1 hSh hm_h0 hk_h0 hI) ok_X9_first (mW631 : Cond.methodLink RX9 223 yX9_first ∈ wsT) ⟨Nat.le_of_ble_eq_true rfl, Nat.le_of_ble_eq_true rfl⟩ hP hD hK hN hm_h0 hk_h0 (by decide) rfl rfl rfl hl.1 rfl (Nat.le_of_ble_eq_true rfl) ⟨Nat.le_of_ble_eq_true rfl, Nat.le_of_ble_eq_true rfl⟩ dX9_hasEnd_9 (fun r_2 hr_2 => ?_)
  refine lv_if_lt (tgt := 19) hx hb dX9_hasEnd_12 (by decide) (fun c_3 => ?_) (fun c_3 => ?_)
  · refine lv_iconst (v := 0) hx hb dX9_hasEnd_19 (by decide) ?_
    exact W.zret (v := 0) (ty := .boolean) hx hb hr rfl (fun t ht hW => ⟨0, rfl, Or.inl rfl, ht⟩) (fun q hq => by cases hq) dX9_hasEnd_20
  · refine lv_iconst (v := 1) hx hb dX9_hasEnd_15 (by decide) ?_
    refine lv_goto (tgt := 20) hx hb dX9_hasEnd_16 (by decide) ?_
    exact W.zret (v := 1) (ty := .boolean) hx hb hr rfl (fun t ht hW => ⟨1, rfl, Or.inr rfl, ht⟩) (fun q hq => by cases hq) dX9_hasEnd_20
theorem dX9_end_0 : decode cX9_end 0 = .ok (.aload_n 0, 1) := by decide +kernel
theorem dX9_end_1 : decode cX9_end 1 = .ok (.iload_n 1, 1) := by decide +kernel
theorem dX9_end_2 : decode cX9_end 2 = .ok (.bipush 7, 2) := by decide +kernel
theorem dX9_end_4 : decode cX9_end 4 = .ok (.aload_n 0, 1) := by decide +kernel
theorem dX9_end_5 : decode cX9_end 5 = .ok (.iload_n 1, 1) := by decide +kernel
theorem dX9_end_6 : decode cX9_end 6 = .ok (.invokevirtual 232, 3) := by decide +kernel
theorem dX9_end_9 : decode cX9_end 9 = .ok (.invokevirtual 223, 3) := by decide +kernel
theorem dX9_end_12 : decode cX9_end 12 = .ok (.istore_n 2, 1) := by decide +kernel
theorem dX9_end_13 : decode cX9_end 13 = .ok (.iload_n 2, 1) := by decide +kernel
theorem dX9_end_14 : decode cX9_end 14 = .ok (.ifCond .ge 11, 3) := by decide +kernel
theorem dX9_end_17 : decode cX9_end 17 = .ok (.aload_n 0, 1) := by decide +kernel
theorem dX9_end_18 : decode cX9_end 18 = .ok (.iload_n 1, 1) := by decide +kernel
theorem dX9_end_19 : decode cX9_end 19 = .ok (.invokevirtual 226, 3) := by decide +kernel
theorem dX9_end_22 : decode cX9_end 22 = .ok (.goto 4, 3) := by decide +kernel
theorem dX9_end_25 : decode cX9_end 25 = .ok (.iload_n 2, 1) := by decide +kernel
theorem dX9_end_26 : decode cX9_end 26 = .ok (.ireturn, 1) := by decide +kernel
set_option maxHeartbeats 4000000 in
set_option maxRecDepth 100000 in
theorem g_X9_end (l : Launch) (G : xG) (S : yS) (d : yD) (h0 : Nat) (p0 : Int32) (hSh : ySh S) (hm_h0 : h0 ∈ S.1) (hk_h0 : S.2.1 h0 = 9) (hI : yMI S d h0) (hr_p0 : 0 ≤ (p0 : Int32).toInt ∧ (p0 : Int32).toInt ≤ 7) : xRi l G yX9_end cX9_end 3 (some .int) 4 90 [.ref h0, .int p0] (yW G S d) (fun r => 0 ≤ r.toInt ∧ r.toInt ≤ 129600) := by
  intro sz
  refine xstart (by decide) (Nat.le_of_ble_eq_true rfl) (fun p e s m args below meth c ls C0 hr hlocks hin hsz hP hK hD hN hl => ?_)
  obtain ⟨hx, hb, hml, hown, htl⟩ := id C0
  have hl : lv_has ls 3 [(0, .ref h0), (1, .int p0)] := hl
  refine lv_aload_n hx hb dX9_end_0 rfl (lv_at hl 0 rfl) ?_
  refine lv_iload_n hx hb dX9_end_1 rfl (lv_at hl 1 rfl) ?_
  refine lv_bipush (v := 7) hx hb dX9_end_2 (by decide) ?_
  refine lv_aload_n hx hb dX9_end_4 rfl (lv_at hl 0 rfl) ?_
  refine lv_iload_n hx hb dX9_end_5 rfl (lv_at hl 1 rfl) ?_
  refine yVri (As := [.int p0]) (rest := [.int 7, .int p0, .ref h0]) C0 (g_X9_begin l G S d h0 p0 hSh hm_h0 hk_h0 hI (by refine ⟨?_, ?_⟩ <;> omega)) ok_X9_begin (mW639 : Cond.methodLink RX9 232 yX9_begin ∈ wsT) ⟨Nat.le_of_ble_eq_true rfl, Nat.le_of_ble_eq_true rfl⟩ hP hD hK hN hm_h0 hk_h0 (by decide) rfl rfl rfl hl.1 rfl (Nat.le_of_ble_eq_true rfl) ⟨Nat.le_of_ble_eq_true rfl, Nat.le_of_ble_eq_true rfl⟩ dX9_end_6 (fun r_1 hr_1 => ?_)
  refine yVri (As := [.int p0, .int 7, .int r_1]) (rest := []) C0 (g_X9_first l G S d h0 p0 7 r_1 hSh hm_h0 hk_h0 hI) ok_X9_first (mW631 : Cond.methodLink RX9 223 yX9_first ∈ wsT) ⟨Nat.le_of_ble_eq_true rfl, Nat.le_of_ble_eq_true rfl⟩ hP hD hK hN hm_h0 hk_h0 (by decide) rfl rfl rfl hl.1 rfl (Nat.le_of_ble_eq_true rfl) ⟨Nat.le_of_ble_eq_true rfl, Nat.le_of_ble_eq_true rfl⟩ dX9_end_9 (fun r_2 hr_2 => ?_)
  refine lv_istore_n (lv' := [(2, .int r_2), (0, .ref h0), (1, .int p0)]) hx hb dX9_end_12 rfl hl (by decide) rfl (fun ls hl => ?_)
  refine lv_iload_n hx hb dX9_end_13 rfl (lv_at hl 0 rfl) ?_
  refine lv_if_ge (tgt := 25) hx hb dX9_end_14 (by decide) (fun c_3 => ?_) (fun c_3 => ?_)
  · refine lv_iload_n hx hb dX9_end_25 rfl (lv_at hl 0 rfl) ?_
    have hCC_4 := yMI.c hI
    have F_5 := fle (by decide +kernel : (0 : Int32).toInt = 0) (rfl : (r_2 : Int32).toInt = (r_2 : Int32).toInt) c_3
    exact W.iret (v := r_2) hx hb hr (fun t ht hW => ⟨r_2, rfl, (by omega), ht⟩) (fun q hq => by cases hq) dX9_end_26
  · refine lv_aload_n hx hb dX9_end_17 rfl (lv_at hl 1 rfl) ?_
    refine lv_iload_n hx hb dX9_end_18 rfl (lv_at hl 2 rfl) ?_
    have F_6 := fnle (by decide +kernel : (0 : Int32).toInt = 0) (rfl : (r_2 : Int32).toInt = (r_2 : Int32).toInt) c_3
    refine yVri (As := [.int p0]) (rest := []) C0 (g_X9_length l G S d h0 p0 hSh hm_h0 hk_h0 hI (by refine ⟨?_, ?_⟩ <;> omega)) ok_X9_length (mW635 : Cond.methodLink RX9 226 yX9_length ∈ wsT) ⟨Nat.le_of_ble_eq_true rfl, Nat.le_of_ble_eq_true rfl⟩ hP hD hK hN hm_h0 hk_h0 (by decide) rfl rfl rfl hl.1 rfl (Nat.le_of_ble_eq_true rfl) ⟨Nat.le_of_ble_eq_true rfl, Nat.le_of_ble_eq_true rfl⟩ dX9_end_19 (fun r_7 hr_7 => ?_)
    refine lv_goto (tgt := 26) hx hb dX9_end_22 (by decide) ?_
    have hCC_8 := yMI.c hI
    exact W.iret (v := r_7) hx hb hr (fun t ht hW => ⟨r_7, rfl, (by omega), ht⟩) (fun q hq => by cases hq) dX9_end_26
