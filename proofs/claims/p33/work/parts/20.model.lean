theorem dX9_no_0 : decode cX9_no 0 = .ok (.aload_n 0, 1) := by decide +kernel
theorem dX9_no_1 : decode cX9_no 1 = .ok (.iload_n 1, 1) := by decide +kernel
theorem dX9_no_2 : decode cX9_no 2 = .ok (.putfield 147, 3) := by decide +kernel
theorem dX9_no_5 : decode cX9_no 5 = .ok (.aload_n 0, 1) := by decide +kernel
theorem dX9_no_6 : decode cX9_no 6 = .ok (.getfield 117, 3) := by decide +kernel
theorem dX9_no_9 : decode cX9_no 9 = .ok (.iload_n 1, 1) := by decide +kernel
theorem dX9_no_10 : decode cX9_no 10 = .ok (.dup2, 1) := by decide +kernel
theorem dX9_no_11 : decode cX9_no 11 = .ok (.iaload, 1) := by decide +kernel
theorem dX9_no_12 : decode cX9_no 12 = .ok (.iconst 1, 1) := by decide +kernel
theorem dX9_no_13 : decode cX9_no 13 = .ok (.iadd, 1) := by decide +kernel
theorem dX9_no_14 : decode cX9_no 14 = .ok (.iastore, 1) := by decide +kernel
theorem dX9_no_15 : decode cX9_no 15 = .ok (.iconst (-1), 1) := by decide +kernel
theorem dX9_no_16 : decode cX9_no 16 = .ok (.ireturn, 1) := by decide +kernel
set_option maxHeartbeats 4000000 in
set_option maxRecDepth 100000 in
theorem g_X9_no (l : Launch) (G : xG) (S : yS) (d : yD) (h0 : Nat) (p0 : Int32) (hSh : ySh S) (hPo : yPo S d) (hm_h0 : h0 ∈ S.1) (hk_h0 : S.2.1 h0 = 9) (hr_p0 : 0 ≤ (p0 : Int32).toInt ∧ (p0 : Int32).toInt ≤ 5) : xWi l G yX9_no cX9_no 2 (some .int) 0 0 0 0 [.ref h0, .int p0] (yW G S d) (fun r (u : yD) => yAg S [9, 69] d u ∧ (yPo S d → yPo S u) ∧ yK [38] d u h0 ∧ (r = -1)) (fun u => yW G S u) := by
  intro sz
  refine xstart (by decide) (Nat.le_of_ble_eq_true rfl) (fun p e s m args below meth c ls C0 hr hlocks hin hsz hP hK hD hN hl => ?_)
  obtain ⟨hx, hb, hml, hown, htl⟩ := id C0
  subst hsz
  have hD := hD.self (sz := s.heap.size)
  generalize hAe : va_A (yW G S d) s.heap.size = A at hD ⊢
  have hA : ∀ q : Nat, s.heap.size ≤ q → A q := fun q h => by rw [← hAe]; exact Or.inr h
  have hS : va_S A s.heap s.heap [] := va_S.rf
  have hg0 : yAg S [9, 69] d d := yAg.rf
  have hl : lv_has ls 2 [(0, .ref h0), (1, .int p0)] := hl
  refine lv_aload_n hx hb dX9_no_0 rfl (lv_at hl 0 rfl) ?_
  refine lv_iload_n hx hb dX9_no_1 rfl (lv_at hl 1 rfl) ?_
  refine yputI (ci := 9) (k := 38) (ty := .int) (C := RX9) (T := TX9) (N := 67) C0 hK hP hD hS hm_h0 hk_h0 (by decide) rfl inlX9 tyX9 tyX9_ok nmX9 (by decide) mW175 (fun _ h9 => h9) rfl (by decide +kernel) rfl rfl (Nat.le_of_ble_eq_true rfl) ysi_9_38 dX9_no_2 (fun H locs hP hD hS => ?_)
  obtain ⟨d_1, ed_1⟩ : ∃ z : yD, z = yi d h0 38 p0 := ⟨_, rfl⟩
  rw [← ed_1] at hP hD
  have hgd_1 : yAg S [9, 69] d d_1 := by rw [ed_1]; exact yAg.i hg0 (by rw [hk_h0]; decide)
  have hPod_1 : yPo S d_1 := by rw [ed_1]; exact yPo.i hPo hk_h0 (Or.inl rfl)
  have hfd_1 : yK [38] d d_1 h0 := by rw [ed_1]; exact yK.i yK.rf (by decide)
  refine lv_aload_n hx hb dX9_no_5 rfl (lv_at hl 0 rfl) ?_
  refine yget (ci := 9) (k := 39) (v := .ref (S.2.2.1 h0 39)) (C := RX9) (T := TX9) (N := 67) C0 hK hP hm_h0 hk_h0 (by decide) rfl inlX9 (by decide) mW144 (fun _ h9 => h9) rfl dX9_no_6 ?_
  obtain ⟨hmy_2, hky_2⟩ := ySh.f9_39 hSh _ hm_h0 hk_h0
  refine lv_iload_n hx hb dX9_no_9 rfl (lv_at hl 1 rfl) ?_
  refine lv_dup2_11 hx hb dX9_no_10 rfl rfl ?_
  refine yald C0 hK hP hmy_2 hky_2 (by decide) rfl 0 rfl (xinT 6 rfl (by omega) (by omega)) dX9_no_11 ?_
  refine lv_topi (fun z_3 ez_3 => ?_)
  refine lv_iconst (v := 1) hx hb dX9_no_12 (by decide) ?_
  refine lv_iadd hx hb dX9_no_13 ?_
  refine lv_topi (fun z_4 ez_4 => ?_)
  refine yast C0 hK hP hD hS hmy_2 hky_2 (by decide) rfl 0 rfl (xinT 6 rfl (by omega) (by omega)) dX9_no_14 (fun H locs hP hD hS => ?_)
  obtain ⟨d_5, ed_5⟩ : ∃ z : yD, z = ycs d_1 (S.2.2.1 h0 39) (upd (d_1.2.2.2.1 (S.2.2.1 h0 39)) (p0 : Int32).toNatClampNeg z_4) := ⟨_, rfl⟩
  rw [← ed_5] at hP hD
  have hgd_5 : yAg S [9, 69] d d_5 := by rw [ed_5]; exact yAg.cs hgd_1 (by rw [hky_2]; decide)
  have hPod_5 : yPo S d_5 := by rw [ed_5]; exact hPod_1
  have hfd_5 : yK [38] d d_5 h0 := yK.ag hfd_1 (show yAg S [69] d_1 d_5 from by rw [ed_5]; exact yAg.cs yAg.rf (by rw [hky_2]; decide)) (by rw [hk_h0]; decide)
  refine lv_iconst (v := (-1)) hx hb dX9_no_15 (by decide) ?_
  exact W.iret (v := (-1)) hx hb hr (fun t ht hW => ⟨⟨(-1), d_5, rfl, ⟨hgd_5, (fun _ => hPod_5), hfd_5, rfl⟩, by rw [ht]; exact hP, hD⟩, hS.F ht⟩) hS.2.2 dX9_no_16
theorem dX9_lesser_0 : decode cX9_lesser 0 = .ok (.iload_n 1, 1) := by decide +kernel
theorem dX9_lesser_1 : decode cX9_lesser 1 = .ok (.ifCond .ne 7, 3) := by decide +kernel
theorem dX9_lesser_4 : decode cX9_lesser 4 = .ok (.iload_n 2, 1) := by decide +kernel
theorem dX9_lesser_5 : decode cX9_lesser 5 = .ok (.goto 21, 3) := by decide +kernel
theorem dX9_lesser_8 : decode cX9_lesser 8 = .ok (.iload_n 2, 1) := by decide +kernel
theorem dX9_lesser_9 : decode cX9_lesser 9 = .ok (.ifCond .ne 7, 3) := by decide +kernel
theorem dX9_lesser_12 : decode cX9_lesser 12 = .ok (.iload_n 1, 1) := by decide +kernel
theorem dX9_lesser_13 : decode cX9_lesser 13 = .ok (.goto 13, 3) := by decide +kernel
theorem dX9_lesser_16 : decode cX9_lesser 16 = .ok (.iload_n 1, 1) := by decide +kernel
theorem dX9_lesser_17 : decode cX9_lesser 17 = .ok (.iload_n 2, 1) := by decide +kernel
theorem dX9_lesser_18 : decode cX9_lesser 18 = .ok (.if_icmp .ge 7, 3) := by decide +kernel
theorem dX9_lesser_21 : decode cX9_lesser 21 = .ok (.iload_n 1, 1) := by decide +kernel
theorem dX9_lesser_22 : decode cX9_lesser 22 = .ok (.goto 4, 3) := by decide +kernel
theorem dX9_lesser_25 : decode cX9_lesser 25 = .ok (.iload_n 2, 1) := by decide +kernel
theorem dX9_lesser_26 : decode cX9_lesser 26 = .ok (.ireturn, 1) := by decide +kernel
set_option maxHeartbeats 4000000 in
set_option maxRecDepth 100000 in
theorem g_X9_lesser (l : Launch) (G : xG) (S : yS) (d : yD) (h0 : Nat) (p0 : Int32) (p1 : Int32) (hSh : ySh S) (hm_h0 : h0 ∈ S.1) (hk_h0 : S.2.1 h0 = 9) (hr_p0 : 0 ≤ (p0 : Int32).toInt ∧ (p0 : Int32).toInt ≤ 5) (hr_p1 : 0 ≤ (p1 : Int32).toInt ∧ (p1 : Int32).toInt ≤ 5) : xRi l G yX9_lesser cX9_lesser 3 (some .int) 0 0 [.ref h0, .int p0, .int p1] (yW G S d) (fun r => 0 ≤ r.toInt ∧ r.toInt ≤ 5 ∧ (r.toInt = 0 → p0.toInt = 0 ∧ p1.toInt = 0)) := by
  intro sz
  refine xstart (by decide) (Nat.le_of_ble_eq_true rfl) (fun p e s m args below meth c ls C0 hr hlocks hin hsz hP hK hD hN hl => ?_)
  obtain ⟨hx, hb, hml, hown, htl⟩ := id C0
  have hl : lv_has ls 3 [(0, .ref h0), (1, .int p0), (2, .int p1)] := hl
  refine lv_iload_n hx hb dX9_lesser_0 rfl (lv_at hl 1 rfl) ?_
  refine lv_if_ne (tgt := 8) hx hb dX9_lesser_1 (by decide) (fun c_1 => ?_) (fun c_1 => ?_)
  · refine lv_iload_n hx hb dX9_lesser_8 rfl (lv_at hl 2 rfl) ?_
    refine lv_if_ne (tgt := 16) hx hb dX9_lesser_9 (by decide) (fun c_2 => ?_) (fun c_2 => ?_)
    · refine lv_iload_n hx hb dX9_lesser_16 rfl (lv_at hl 1 rfl) ?_
      refine lv_iload_n hx hb dX9_lesser_17 rfl (lv_at hl 2 rfl) ?_
      refine lv_icmp_ge (tgt := 25) hx hb dX9_lesser_18 (by decide) (fun c_3 => ?_) (fun c_3 => ?_)
      · refine lv_iload_n hx hb dX9_lesser_25 rfl (lv_at hl 2 rfl) ?_
        have F_4 := fne (rfl : (p0 : Int32).toInt = (p0 : Int32).toInt) (by decide +kernel : (0 : Int32).toInt = 0) c_1
        have F_5 := fne (rfl : (p1 : Int32).toInt = (p1 : Int32).toInt) (by decide +kernel : (0 : Int32).toInt = 0) c_2
        have F_6 := fle (rfl : (p1 : Int32).toInt = (p1 : Int32).toInt) (rfl : (p0 : Int32).toInt = (p0 : Int32).toInt) c_3
        exact W.iret (v := p1) hx hb hr (fun t ht hW => ⟨p1, rfl, (by omega), ht⟩) (fun q hq => by cases hq) dX9_lesser_26
      · refine lv_iload_n hx hb dX9_lesser_21 rfl (lv_at hl 1 rfl) ?_
        refine lv_goto (tgt := 26) hx hb dX9_lesser_22 (by decide) ?_
        have F_7 := fne (rfl : (p0 : Int32).toInt = (p0 : Int32).toInt) (by decide +kernel : (0 : Int32).toInt = 0) c_1
        have F_8 := fne (rfl : (p1 : Int32).toInt = (p1 : Int32).toInt) (by decide +kernel : (0 : Int32).toInt = 0) c_2
        have F_9 := fnle (rfl : (p1 : Int32).toInt = (p1 : Int32).toInt) (rfl : (p0 : Int32).toInt = (p0 : Int32).toInt) c_3
        exact W.iret (v := p0) hx hb hr (fun t ht hW => ⟨p0, rfl, (by omega), ht⟩) (fun q hq => by cases hq) dX9_lesser_26
    · refine lv_iload_n hx hb dX9_lesser_12 rfl (lv_at hl 1 rfl) ?_
      refine lv_goto (tgt := 26) hx hb dX9_lesser_13 (by decide) ?_
      have F_10 := fne (rfl : (p0 : Int32).toInt = (p0 : Int32).toInt) (by decide +kernel : (0 : Int32).toInt = 0) c_1
      have F_11 := feq (rfl : (p1 : Int32).toInt = (p1 : Int32).toInt) (by decide +kernel : (0 : Int32).toInt = 0) c_2
      exact W.iret (v := p0) hx hb hr (fun t ht hW => ⟨p0, rfl, (by omega), ht⟩) (fun q hq => by cases hq) dX9_lesser_26
  · refine lv_iload_n hx hb dX9_lesser_4 rfl (lv_at hl 2 rfl) ?_
    refine lv_goto (tgt := 26) hx hb dX9_lesser_5 (by decide) ?_
    have F_12 := feq (rfl : (p0 : Int32).toInt = (p0 : Int32).toInt) (by decide +kernel : (0 : Int32).toInt = 0) c_1
    exact W.iret (v := p1) hx hb hr (fun t ht hW => ⟨p1, rfl, (by omega), ht⟩) (fun q hq => by cases hq) dX9_lesser_26
theorem dX9_contractWhy_0 : decode cX9_contractWhy 0 = .ok (.iload_n 1, 1) := by decide +kernel
theorem dX9_contractWhy_1 : decode cX9_contractWhy 1 = .ok (.ifCond .lt 9, 3) := by decide +kernel
theorem dX9_contractWhy_4 : decode cX9_contractWhy 4 = .ok (.iload_n 1, 1) := by decide +kernel
theorem dX9_contractWhy_5 : decode cX9_contractWhy 5 = .ok (.bipush 40, 2) := by decide +kernel
theorem dX9_contractWhy_7 : decode cX9_contractWhy 7 = .ok (.if_icmp .lt 7, 3) := by decide +kernel
theorem dX9_contractWhy_10 : decode cX9_contractWhy 10 = .ok (.iconst 1, 1) := by decide +kernel
theorem dX9_contractWhy_11 : decode cX9_contractWhy 11 = .ok (.goto 16, 3) := by decide +kernel
theorem dX9_contractWhy_14 : decode cX9_contractWhy 14 = .ok (.iload_n 1, 1) := by decide +kernel
theorem dX9_contractWhy_15 : decode cX9_contractWhy 15 = .ok (.aload_n 0, 1) := by decide +kernel
theorem dX9_contractWhy_16 : decode cX9_contractWhy 16 = .ok (.getfield 150, 3) := by decide +kernel
theorem dX9_contractWhy_19 : decode cX9_contractWhy 19 = .ok (.if_icmp .lt 7, 3) := by decide +kernel
theorem dX9_contractWhy_22 : decode cX9_contractWhy 22 = .ok (.iconst 2, 1) := by decide +kernel
theorem dX9_contractWhy_23 : decode cX9_contractWhy 23 = .ok (.goto 4, 3) := by decide +kernel
theorem dX9_contractWhy_26 : decode cX9_contractWhy 26 = .ok (.iconst 0, 1) := by decide +kernel
theorem dX9_contractWhy_27 : decode cX9_contractWhy 27 = .ok (.ireturn, 1) := by decide +kernel
set_option maxHeartbeats 4000000 in
set_option maxRecDepth 100000 in
theorem g_X9_contractWhy (l : Launch) (G : xG) (S : yS) (d : yD) (h0 : Nat) (p0 : Int32) (hSh : ySh S) (hm_h0 : h0 ∈ S.1) (hk_h0 : S.2.1 h0 = 9) : xRi l G yX9_contractWhy cX9_contractWhy 2 (some .int) 0 0 [.ref h0, .int p0] (yW G S d) (fun r => 0 ≤ r.toInt ∧ r.toInt ≤ 2 ∧ (r.toInt = 0 → 0 ≤ p0.toInt ∧ p0.toInt ≤ 39 ∧ p0.toInt < (d.1 h0 0).toInt) ∧ (r.toInt ≠ 0 → ¬ (0 ≤ p0.toInt ∧ p0.toInt ≤ 39 ∧ p0.toInt < (d.1 h0 0).toInt))) := by
  intro sz
  refine xstart (by decide) (Nat.le_of_ble_eq_true rfl) (fun p e s m args below meth c ls C0 hr hlocks hin hsz hP hK hD hN hl => ?_)
  obtain ⟨hx, hb, hml, hown, htl⟩ := id C0
  have hl : lv_has ls 2 [(0, .ref h0), (1, .int p0)] := hl
  refine lv_iload_n hx hb dX9_contractWhy_0 rfl (lv_at hl 1 rfl) ?_
  refine lv_if_lt (tgt := 10) hx hb dX9_contractWhy_1 (by decide) (fun c_1 => ?_) (fun c_1 => ?_)
  · refine lv_iconst (v := 1) hx hb dX9_contractWhy_10 (by decide) ?_
    refine lv_goto (tgt := 27) hx hb dX9_contractWhy_11 (by decide) ?_
    have F_2 := flt (rfl : (p0 : Int32).toInt = (p0 : Int32).toInt) (by decide +kernel : (0 : Int32).toInt = 0) c_1
    exact W.iret (v := 1) hx hb hr (fun t ht hW => ⟨1, rfl, (by have h0_ : (1 : Int32).toInt = 1 := (by decide +kernel); omega), ht⟩) (fun q hq => by cases hq) dX9_contractWhy_27
  · refine lv_iload_n hx hb dX9_contractWhy_4 rfl (lv_at hl 1 rfl) ?_
    refine lv_bipush (v := 40) hx hb dX9_contractWhy_5 (by decide) ?_
    refine lv_icmp_lt (tgt := 14) hx hb dX9_contractWhy_7 (by decide) (fun c_3 => ?_) (fun c_3 => ?_)
    · refine lv_iload_n hx hb dX9_contractWhy_14 rfl (lv_at hl 1 rfl) ?_
      refine lv_aload_n hx hb dX9_contractWhy_15 rfl (lv_at hl 0 rfl) ?_
      refine yget (ci := 9) (k := 0) (v := .int (d.1 h0 0)) (C := RX9) (T := TX9) (N := 67) C0 hK hP hm_h0 hk_h0 (by decide) rfl inlX9 (by decide) mW176 (fun _ h9 => h9) rfl dX9_contractWhy_16 ?_
      refine lv_topi (fun z_4 ez_4 => ?_)
      refine lv_icmp_lt (tgt := 26) hx hb dX9_contractWhy_19 (by decide) (fun c_5 => ?_) (fun c_5 => ?_)
      · refine lv_iconst (v := 0) hx hb dX9_contractWhy_26 (by decide) ?_
        have F_6 := fnlt (rfl : (p0 : Int32).toInt = (p0 : Int32).toInt) (by decide +kernel : (0 : Int32).toInt = 0) c_1
        have F_7 := flt (rfl : (p0 : Int32).toInt = (p0 : Int32).toInt) (by decide +kernel : (40 : Int32).toInt = 40) c_3
        have T_8 : (z_4 : Int32).toInt = (d.1 h0 0).toInt := by rw [ez_4]
        have F_9 := flt (rfl : (p0 : Int32).toInt = (p0 : Int32).toInt) (rfl : (z_4 : Int32).toInt = (z_4 : Int32).toInt) c_5
        exact W.iret (v := 0) hx hb hr (fun t ht hW => ⟨0, rfl, (by have h0_ : (0 : Int32).toInt = 0 := (by decide +kernel); omega), ht⟩) (fun q hq => by cases hq) dX9_contractWhy_27
      · refine lv_iconst (v := 2) hx hb dX9_contractWhy_22 (by decide) ?_
        refine lv_goto (tgt := 27) hx hb dX9_contractWhy_23 (by decide) ?_
        have F_10 := fnlt (rfl : (p0 : Int32).toInt = (p0 : Int32).toInt) (by decide +kernel : (0 : Int32).toInt = 0) c_1
        have F_11 := flt (rfl : (p0 : Int32).toInt = (p0 : Int32).toInt) (by decide +kernel : (40 : Int32).toInt = 40) c_3
        have T_12 : (z_4 : Int32).toInt = (d.1 h0 0).toInt := by rw [ez_4]
        have F_13 := fnlt (rfl : (p0 : Int32).toInt = (p0 : Int32).toInt) (rfl : (z_4 : Int32).toInt = (z_4 : Int32).toInt) c_5
        exact W.iret (v := 2) hx hb hr (fun t ht hW => ⟨2, rfl, (by have h0_ : (2 : Int32).toInt = 2 := (by decide +kernel); omega), ht⟩) (fun q hq => by cases hq) dX9_contractWhy_27
    · refine lv_iconst (v := 1) hx hb dX9_contractWhy_10 (by decide) ?_
      refine lv_goto (tgt := 27) hx hb dX9_contractWhy_11 (by decide) ?_
      have F_14 := fnlt (rfl : (p0 : Int32).toInt = (p0 : Int32).toInt) (by decide +kernel : (0 : Int32).toInt = 0) c_1
      have F_15 := fnlt (rfl : (p0 : Int32).toInt = (p0 : Int32).toInt) (by decide +kernel : (40 : Int32).toInt = 40) c_3
      exact W.iret (v := 1) hx hb hr (fun t ht hW => ⟨1, rfl, (by have h0_ : (1 : Int32).toInt = 1 := (by decide +kernel); omega), ht⟩) (fun q hq => by cases hq) dX9_contractWhy_27
theorem dX9_placeWhy_0 : decode cX9_placeWhy 0 = .ok (.iload_n 2, 1) := by decide +kernel
theorem dX9_placeWhy_1 : decode cX9_placeWhy 1 = .ok (.ifCond .lt 9, 3) := by decide +kernel
theorem dX9_placeWhy_4 : decode cX9_placeWhy 4 = .ok (.iload_n 2, 1) := by decide +kernel
theorem dX9_placeWhy_5 : decode cX9_placeWhy 5 = .ok (.bipush 60, 2) := by decide +kernel
theorem dX9_placeWhy_7 : decode cX9_placeWhy 7 = .ok (.if_icmp .lt 7, 3) := by decide +kernel
theorem dX9_placeWhy_10 : decode cX9_placeWhy 10 = .ok (.iconst 1, 1) := by decide +kernel
theorem dX9_placeWhy_11 : decode cX9_placeWhy 11 = .ok (.goto 8, 3) := by decide +kernel
theorem dX9_placeWhy_14 : decode cX9_placeWhy 14 = .ok (.aload_n 0, 1) := by decide +kernel
theorem dX9_placeWhy_15 : decode cX9_placeWhy 15 = .ok (.iload_n 1, 1) := by decide +kernel
theorem dX9_placeWhy_16 : decode cX9_placeWhy 16 = .ok (.invokevirtual 153, 3) := by decide +kernel
theorem dX9_placeWhy_19 : decode cX9_placeWhy 19 = .ok (.ireturn, 1) := by decide +kernel
set_option maxHeartbeats 4000000 in
set_option maxRecDepth 100000 in
theorem g_X9_placeWhy (l : Launch) (G : xG) (S : yS) (d : yD) (h0 : Nat) (p0 : Int32) (p1 : Int32) (hSh : ySh S) (hm_h0 : h0 ∈ S.1) (hk_h0 : S.2.1 h0 = 9) : xRi l G yX9_placeWhy cX9_placeWhy 3 (some .int) 1 21 [.ref h0, .int p0, .int p1] (yW G S d) (fun r => 0 ≤ r.toInt ∧ r.toInt ≤ 2 ∧ (r.toInt = 0 → (0 ≤ p0.toInt ∧ p0.toInt ≤ 39 ∧ p0.toInt < (d.1 h0 0).toInt) ∧ 0 ≤ p1.toInt ∧ p1.toInt ≤ 59) ∧ (r.toInt ≠ 0 → ¬ ((0 ≤ p0.toInt ∧ p0.toInt ≤ 39 ∧ p0.toInt < (d.1 h0 0).toInt) ∧ 0 ≤ p1.toInt ∧ p1.toInt ≤ 59))) := by
  intro sz
  refine xstart (by decide) (Nat.le_of_ble_eq_true rfl) (fun p e s m args below meth c ls C0 hr hlocks hin hsz hP hK hD hN hl => ?_)
  obtain ⟨hx, hb, hml, hown, htl⟩ := id C0
  have hl : lv_has ls 3 [(0, .ref h0), (1, .int p0), (2, .int p1)] := hl
  refine lv_iload_n hx hb dX9_placeWhy_0 rfl (lv_at hl 2 rfl) ?_
  refine lv_if_lt (tgt := 10) hx hb dX9_placeWhy_1 (by decide) (fun c_1 => ?_) (fun c_1 => ?_)
  · refine lv_iconst (v := 1) hx hb dX9_placeWhy_10 (by decide) ?_
    refine lv_goto (tgt := 19) hx hb dX9_placeWhy_11 (by decide) ?_
    have F_2 := flt (rfl : (p1 : Int32).toInt = (p1 : Int32).toInt) (by decide +kernel : (0 : Int32).toInt = 0) c_1
    exact W.iret (v := 1) hx hb hr (fun t ht hW => ⟨1, rfl, (by have h0_ : (1 : Int32).toInt = 1 := (by decide +kernel); omega), ht⟩) (fun q hq => by cases hq) dX9_placeWhy_19
  · refine lv_iload_n hx hb dX9_placeWhy_4 rfl (lv_at hl 2 rfl) ?_
    refine lv_bipush (v := 60) hx hb dX9_placeWhy_5 (by decide) ?_
    refine lv_icmp_lt (tgt := 14) hx hb dX9_placeWhy_7 (by decide) (fun c_3 => ?_) (fun c_3 => ?_)
    · refine lv_aload_n hx hb dX9_placeWhy_14 rfl (lv_at hl 0 rfl) ?_
      refine lv_iload_n hx hb dX9_placeWhy_15 rfl (lv_at hl 1 rfl) ?_
      refine yVri (As := [.int p0]) (rest := []) C0 (g_X9_contractWhy l G S d h0 p0 hSh hm_h0 hk_h0) ok_X9_contractWhy (mW226 : Cond.methodLink RX9 153 yX9_contractWhy ∈ wsT) ⟨Nat.le_of_ble_eq_true rfl, Nat.le_of_ble_eq_true rfl⟩ hP hD hK hN hm_h0 hk_h0 (by decide) rfl rfl rfl hl.1 rfl (Nat.le_of_ble_eq_true rfl) ⟨Nat.le_of_ble_eq_true rfl, Nat.le_of_ble_eq_true rfl⟩ dX9_placeWhy_16 (fun r_4 hr_4 => ?_)
      have F_5 := fnlt (rfl : (p1 : Int32).toInt = (p1 : Int32).toInt) (by decide +kernel : (0 : Int32).toInt = 0) c_1
      have F_6 := flt (rfl : (p1 : Int32).toInt = (p1 : Int32).toInt) (by decide +kernel : (60 : Int32).toInt = 60) c_3
      exact W.iret (v := r_4) hx hb hr (fun t ht hW => ⟨r_4, rfl, (by omega), ht⟩) (fun q hq => by cases hq) dX9_placeWhy_19
    · refine lv_iconst (v := 1) hx hb dX9_placeWhy_10 (by decide) ?_
      refine lv_goto (tgt := 19) hx hb dX9_placeWhy_11 (by decide) ?_
      have F_7 := fnlt (rfl : (p1 : Int32).toInt = (p1 : Int32).toInt) (by decide +kernel : (0 : Int32).toInt = 0) c_1
      have F_8 := fnlt (rfl : (p1 : Int32).toInt = (p1 : Int32).toInt) (by decide +kernel : (60 : Int32).toInt = 60) c_3
      exact W.iret (v := 1) hx hb hr (fun t ht hW => ⟨1, rfl, (by have h0_ : (1 : Int32).toInt = 1 := (by decide +kernel); omega), ht⟩) (fun q hq => by cases hq) dX9_placeWhy_19
theorem dX9_isOpen_0 : decode cX9_isOpen 0 = .ok (.iload_n 1, 1) := by decide +kernel
theorem dX9_isOpen_1 : decode cX9_isOpen 1 = .ok (.ifCond .lt 27, 3) := by decide +kernel
theorem dX9_isOpen_4 : decode cX9_isOpen 4 = .ok (.iload_n 1, 1) := by decide +kernel
theorem dX9_isOpen_5 : decode cX9_isOpen 5 = .ok (.bipush 8, 2) := by decide +kernel
theorem dX9_isOpen_7 : decode cX9_isOpen 7 = .ok (.if_icmp .ge 21, 3) := by decide +kernel
theorem dX9_isOpen_10 : decode cX9_isOpen 10 = .ok (.aload_n 0, 1) := by decide +kernel
theorem dX9_isOpen_11 : decode cX9_isOpen 11 = .ok (.getfield 36, 3) := by decide +kernel
theorem dX9_isOpen_14 : decode cX9_isOpen 14 = .ok (.bipush 12, 2) := by decide +kernel
theorem dX9_isOpen_16 : decode cX9_isOpen 16 = .ok (.iload_n 1, 1) := by decide +kernel
theorem dX9_isOpen_17 : decode cX9_isOpen 17 = .ok (.imul, 1) := by decide +kernel
theorem dX9_isOpen_18 : decode cX9_isOpen 18 = .ok (.laload, 1) := by decide +kernel
theorem dX9_isOpen_19 : decode cX9_isOpen 19 = .ok (.lconst 1, 1) := by decide +kernel
theorem dX9_isOpen_20 : decode cX9_isOpen 20 = .ok (.lcmp, 1) := by decide +kernel
theorem dX9_isOpen_21 : decode cX9_isOpen 21 = .ok (.ifCond .ne 7, 3) := by decide +kernel
theorem dX9_isOpen_24 : decode cX9_isOpen 24 = .ok (.iconst 1, 1) := by decide +kernel
theorem dX9_isOpen_25 : decode cX9_isOpen 25 = .ok (.goto 4, 3) := by decide +kernel
theorem dX9_isOpen_28 : decode cX9_isOpen 28 = .ok (.iconst 0, 1) := by decide +kernel
theorem dX9_isOpen_29 : decode cX9_isOpen 29 = .ok (.ireturn, 1) := by decide +kernel
set_option maxHeartbeats 4000000 in
set_option maxRecDepth 100000 in
theorem g_X9_isOpen (l : Launch) (G : xG) (S : yS) (d : yD) (h0 : Nat) (p0 : Int32) (hSh : ySh S) (hm_h0 : h0 ∈ S.1) (hk_h0 : S.2.1 h0 = 9) : xRi l G yX9_isOpen cX9_isOpen 2 (some .boolean) 0 0 [.ref h0, .int p0] (yW G S d) (fun r => (r.toInt = 0 ∨ r.toInt = 1) ∧ (r.toInt = 1 → 0 ≤ p0.toInt ∧ p0.toInt ≤ 7 ∧ yOI S d h0 p0.toInt.toNat = 1) ∧ (r.toInt = 0 → ¬ (0 ≤ p0.toInt ∧ p0.toInt ≤ 7 ∧ yOI S d h0 p0.toInt.toNat = 1))) := by
  intro sz
  refine xstart (by decide) (Nat.le_of_ble_eq_true rfl) (fun p e s m args below meth c ls C0 hr hlocks hin hsz hP hK hD hN hl => ?_)
  obtain ⟨hx, hb, hml, hown, htl⟩ := id C0
  have hl : lv_has ls 2 [(0, .ref h0), (1, .int p0)] := hl
  refine lv_iload_n hx hb dX9_isOpen_0 rfl (lv_at hl 1 rfl) ?_
  refine lv_if_lt (tgt := 28) hx hb dX9_isOpen_1 (by decide) (fun c_1 => ?_) (fun c_1 => ?_)
  · refine lv_iconst (v := 0) hx hb dX9_isOpen_28 (by decide) ?_
    have F_2 := flt (rfl : (p0 : Int32).toInt = (p0 : Int32).toInt) (by decide +kernel : (0 : Int32).toInt = 0) c_1
    exact W.zret (v := 0) (ty := .boolean) hx hb hr rfl (fun t ht hW => ⟨0, rfl, (by have h0_ : (0 : Int32).toInt = 0 := (by decide +kernel); omega), ht⟩) (fun q hq => by cases hq) dX9_isOpen_29
  · refine lv_iload_n hx hb dX9_isOpen_4 rfl (lv_at hl 1 rfl) ?_
    refine lv_bipush (v := 8) hx hb dX9_isOpen_5 (by decide) ?_
    refine lv_icmp_ge (tgt := 28) hx hb dX9_isOpen_7 (by decide) (fun c_3 => ?_) (fun c_3 => ?_)
    · refine lv_iconst (v := 0) hx hb dX9_isOpen_28 (by decide) ?_
      have F_4 := fnlt (rfl : (p0 : Int32).toInt = (p0 : Int32).toInt) (by decide +kernel : (0 : Int32).toInt = 0) c_1
      have F_5 := fle (by decide +kernel : (8 : Int32).toInt = 8) (rfl : (p0 : Int32).toInt = (p0 : Int32).toInt) c_3
      exact W.zret (v := 0) (ty := .boolean) hx hb hr rfl (fun t ht hW => ⟨0, rfl, (by have h0_ : (0 : Int32).toInt = 0 := (by decide +kernel); omega), ht⟩) (fun q hq => by cases hq) dX9_isOpen_29
    · refine lv_aload_n hx hb dX9_isOpen_10 rfl (lv_at hl 0 rfl) ?_
      refine yget (ci := 9) (k := 11) (v := .ref (S.2.2.1 h0 11)) (C := RX9) (T := TX9) (N := 67) C0 hK hP hm_h0 hk_h0 (by decide) rfl inlX9 (by decide) mW116 (fun _ h9 => h9) rfl dX9_isOpen_11 ?_
      obtain ⟨hmy_6, hky_6⟩ := ySh.f9_11 hSh _ hm_h0 hk_h0
      refine lv_bipush (v := 12) hx hb dX9_isOpen_14 (by decide) ?_
      refine lv_iload_n hx hb dX9_isOpen_16 rfl (lv_at hl 1 rfl) ?_
      refine lv_imul hx hb dX9_isOpen_17 ?_
      refine lv_topi (fun z_7 ez_7 => ?_)
      have F_8 := fnlt (rfl : (p0 : Int32).toInt = (p0 : Int32).toInt) (by decide +kernel : (0 : Int32).toInt = 0) c_1
      have F_9 := fnle (by decide +kernel : (8 : Int32).toInt = 8) (rfl : (p0 : Int32).toInt = (p0 : Int32).toInt) c_3
      have T_10 : (z_7 : Int32).toInt = 12 * (p0 : Int32).toInt := tmul ez_7 (by decide +kernel : (12 : Int32).toInt = 12) (rfl : (p0 : Int32).toInt = (p0 : Int32).toInt) (by omega) (by omega)
      refine yaldJ C0 hK hP hmy_6 hky_6 (by decide) rfl 4 rfl (xinT 96 rfl (by omega) (by omega)) dX9_isOpen_18 ?_
      refine lv_topl (fun z_11 ez_11 => ?_)
      refine lv_lconst (v := 1) hx hb dX9_isOpen_19 (by decide) ?_
      refine W.lcmp hx hb dX9_isOpen_20 ?_
      refine lv_topi (fun z_12 ez_12 => ?_)
      refine lv_if_ne (tgt := 28) hx hb dX9_isOpen_21 (by decide) (fun c_13 => ?_) (fun c_13 => ?_)
      · refine lv_iconst (v := 0) hx hb dX9_isOpen_28 (by decide) ?_
        have T_14 : (1 : Int64).toInt = 1 := by decide +kernel
        have F_15 := jne ez_12 c_13
        have hoiz_11 := yOI_of (p := p0) (by omega) (by omega) (show (z_7 : Int32).toInt = 12 * p0.toInt by omega) ez_11
        exact W.zret (v := 0) (ty := .boolean) hx hb hr rfl (fun t ht hW => ⟨0, rfl, (by have h0_ : (0 : Int32).toInt = 0 := (by decide +kernel); omega), ht⟩) (fun q hq => by cases hq) dX9_isOpen_29
      · refine lv_iconst (v := 1) hx hb dX9_isOpen_24 (by decide) ?_
        refine lv_goto (tgt := 29) hx hb dX9_isOpen_25 (by decide) ?_
        have T_16 : (1 : Int64).toInt = 1 := by decide +kernel
        have F_17 := jeq ez_12 c_13
        have hoiz_11 := yOI_of (p := p0) (by omega) (by omega) (show (z_7 : Int32).toInt = 12 * p0.toInt by omega) ez_11
        exact W.zret (v := 1) (ty := .boolean) hx hb hr rfl (fun t ht hW => ⟨1, rfl, (by have h0_ : (1 : Int32).toInt = 1 := (by decide +kernel); omega), ht⟩) (fun q hq => by cases hq) dX9_isOpen_29
theorem dX9_portWhy_0 : decode cX9_portWhy 0 = .ok (.iload_n 1, 1) := by decide +kernel
theorem dX9_portWhy_1 : decode cX9_portWhy 1 = .ok (.ifCond .lt 9, 3) := by decide +kernel
theorem dX9_portWhy_4 : decode cX9_portWhy 4 = .ok (.iload_n 1, 1) := by decide +kernel
theorem dX9_portWhy_5 : decode cX9_portWhy 5 = .ok (.bipush 8, 2) := by decide +kernel
theorem dX9_portWhy_7 : decode cX9_portWhy 7 = .ok (.if_icmp .lt 7, 3) := by decide +kernel
theorem dX9_portWhy_10 : decode cX9_portWhy 10 = .ok (.iconst 1, 1) := by decide +kernel
theorem dX9_portWhy_11 : decode cX9_portWhy 11 = .ok (.goto 16, 3) := by decide +kernel
theorem dX9_portWhy_14 : decode cX9_portWhy 14 = .ok (.aload_n 0, 1) := by decide +kernel
theorem dX9_portWhy_15 : decode cX9_portWhy 15 = .ok (.iload_n 1, 1) := by decide +kernel
theorem dX9_portWhy_16 : decode cX9_portWhy 16 = .ok (.invokevirtual 157, 3) := by decide +kernel
theorem dX9_portWhy_19 : decode cX9_portWhy 19 = .ok (.ifCond .eq 7, 3) := by decide +kernel
theorem dX9_portWhy_22 : decode cX9_portWhy 22 = .ok (.iconst 0, 1) := by decide +kernel
theorem dX9_portWhy_23 : decode cX9_portWhy 23 = .ok (.goto 4, 3) := by decide +kernel
theorem dX9_portWhy_26 : decode cX9_portWhy 26 = .ok (.iconst 2, 1) := by decide +kernel
theorem dX9_portWhy_27 : decode cX9_portWhy 27 = .ok (.ireturn, 1) := by decide +kernel
set_option maxHeartbeats 4000000 in
set_option maxRecDepth 100000 in
theorem g_X9_portWhy (l : Launch) (G : xG) (S : yS) (d : yD) (h0 : Nat) (p0 : Int32) (hSh : ySh S) (hm_h0 : h0 ∈ S.1) (hk_h0 : S.2.1 h0 = 9) : xRi l G yX9_portWhy cX9_portWhy 2 (some .int) 1 21 [.ref h0, .int p0] (yW G S d) (fun r => 0 ≤ r.toInt ∧ r.toInt ≤ 2 ∧ (r.toInt = 0 → 0 ≤ p0.toInt ∧ p0.toInt ≤ 7 ∧ yOI S d h0 p0.toInt.toNat = 1) ∧ (r.toInt ≠ 0 → ¬ (0 ≤ p0.toInt ∧ p0.toInt ≤ 7 ∧ yOI S d h0 p0.toInt.toNat = 1))) := by
  intro sz
  refine xstart (by decide) (Nat.le_of_ble_eq_true rfl) (fun p e s m args below meth c ls C0 hr hlocks hin hsz hP hK hD hN hl => ?_)
  obtain ⟨hx, hb, hml, hown, htl⟩ := id C0
  have hl : lv_has ls 2 [(0, .ref h0), (1, .int p0)] := hl
  refine lv_iload_n hx hb dX9_portWhy_0 rfl (lv_at hl 1 rfl) ?_
  refine lv_if_lt (tgt := 10) hx hb dX9_portWhy_1 (by decide) (fun c_1 => ?_) (fun c_1 => ?_)
  · refine lv_iconst (v := 1) hx hb dX9_portWhy_10 (by decide) ?_
    refine lv_goto (tgt := 27) hx hb dX9_portWhy_11 (by decide) ?_
    have F_2 := flt (rfl : (p0 : Int32).toInt = (p0 : Int32).toInt) (by decide +kernel : (0 : Int32).toInt = 0) c_1
    exact W.iret (v := 1) hx hb hr (fun t ht hW => ⟨1, rfl, (by have h0_ : (1 : Int32).toInt = 1 := (by decide +kernel); omega), ht⟩) (fun q hq => by cases hq) dX9_portWhy_27
  · refine lv_iload_n hx hb dX9_portWhy_4 rfl (lv_at hl 1 rfl) ?_
    refine lv_bipush (v := 8) hx hb dX9_portWhy_5 (by decide) ?_
    refine lv_icmp_lt (tgt := 14) hx hb dX9_portWhy_7 (by decide) (fun c_3 => ?_) (fun c_3 => ?_)
    · refine lv_aload_n hx hb dX9_portWhy_14 rfl (lv_at hl 0 rfl) ?_
      refine lv_iload_n hx hb dX9_portWhy_15 rfl (lv_at hl 1 rfl) ?_
      refine yVri (As := [.int p0]) (rest := []) C0 (g_X9_isOpen l G S d h0 p0 hSh hm_h0 hk_h0) ok_X9_isOpen (mW391 : Cond.methodLink RX9 157 yX9_isOpen ∈ wsT) ⟨Nat.le_of_ble_eq_true rfl, Nat.le_of_ble_eq_true rfl⟩ hP hD hK hN hm_h0 hk_h0 (by decide) rfl rfl rfl hl.1 rfl (Nat.le_of_ble_eq_true rfl) ⟨Nat.le_of_ble_eq_true rfl, Nat.le_of_ble_eq_true rfl⟩ dX9_portWhy_16 (fun r_4 hr_4 => ?_)
      refine lv_if_eq (tgt := 26) hx hb dX9_portWhy_19 (by decide) (fun c_5 => ?_) (fun c_5 => ?_)
      · refine lv_iconst (v := 2) hx hb dX9_portWhy_26 (by decide) ?_
        have F_6 := fnlt (rfl : (p0 : Int32).toInt = (p0 : Int32).toInt) (by decide +kernel : (0 : Int32).toInt = 0) c_1
        have F_7 := flt (rfl : (p0 : Int32).toInt = (p0 : Int32).toInt) (by decide +kernel : (8 : Int32).toInt = 8) c_3
        have F_8 := feq (rfl : (r_4 : Int32).toInt = (r_4 : Int32).toInt) (by decide +kernel : (0 : Int32).toInt = 0) c_5
        exact W.iret (v := 2) hx hb hr (fun t ht hW => ⟨2, rfl, (by have h0_ : (2 : Int32).toInt = 2 := (by decide +kernel); omega), ht⟩) (fun q hq => by cases hq) dX9_portWhy_27
      · refine lv_iconst (v := 0) hx hb dX9_portWhy_22 (by decide) ?_
        refine lv_goto (tgt := 27) hx hb dX9_portWhy_23 (by decide) ?_
        have F_9 := fnlt (rfl : (p0 : Int32).toInt = (p0 : Int32).toInt) (by decide +kernel : (0 : Int32).toInt = 0) c_1
        have F_10 := flt (rfl : (p0 : Int32).toInt = (p0 : Int32).toInt) (by decide +kernel : (8 : Int32).toInt = 8) c_3
        have F_11 := fne (rfl : (r_4 : Int32).toInt = (r_4 : Int32).toInt) (by decide +kernel : (0 : Int32).toInt = 0) c_5
        exact W.iret (v := 0) hx hb hr (fun t ht hW => ⟨0, rfl, (by have h0_ : (0 : Int32).toInt = 0 := (by decide +kernel); omega), ht⟩) (fun q hq => by cases hq) dX9_portWhy_27
    · refine lv_iconst (v := 1) hx hb dX9_portWhy_10 (by decide) ?_
      refine lv_goto (tgt := 27) hx hb dX9_portWhy_11 (by decide) ?_
      have F_12 := fnlt (rfl : (p0 : Int32).toInt = (p0 : Int32).toInt) (by decide +kernel : (0 : Int32).toInt = 0) c_1
      have F_13 := fnlt (rfl : (p0 : Int32).toInt = (p0 : Int32).toInt) (by decide +kernel : (8 : Int32).toInt = 8) c_3
      exact W.iret (v := 1) hx hb hr (fun t ht hW => ⟨1, rfl, (by have h0_ : (1 : Int32).toInt = 1 := (by decide +kernel); omega), ht⟩) (fun q hq => by cases hq) dX9_portWhy_27
theorem dX9_of_0 : decode cX9_of 0 = .ok (.aload_n 0, 1) := by decide +kernel
theorem dX9_of_1 : decode cX9_of 1 = .ok (.getfield 36, 3) := by decide +kernel
theorem dX9_of_4 : decode cX9_of 4 = .ok (.bipush 12, 2) := by decide +kernel
theorem dX9_of_6 : decode cX9_of 6 = .ok (.iload_n 1, 1) := by decide +kernel
theorem dX9_of_7 : decode cX9_of 7 = .ok (.imul, 1) := by decide +kernel
theorem dX9_of_8 : decode cX9_of 8 = .ok (.iload_n 2, 1) := by decide +kernel
theorem dX9_of_9 : decode cX9_of 9 = .ok (.iadd, 1) := by decide +kernel
theorem dX9_of_10 : decode cX9_of 10 = .ok (.laload, 1) := by decide +kernel
theorem dX9_of_11 : decode cX9_of 11 = .ok (.l2i, 1) := by decide +kernel
theorem dX9_of_12 : decode cX9_of 12 = .ok (.ireturn, 1) := by decide +kernel
set_option maxHeartbeats 4000000 in
set_option maxRecDepth 100000 in
theorem g_X9_of (l : Launch) (G : xG) (S : yS) (d : yD) (h0 : Nat) (p0 : Int32) (p1 : Int32) (hSh : ySh S) (hm_h0 : h0 ∈ S.1) (hk_h0 : S.2.1 h0 = 9) (hr_p0 : 0 ≤ (p0 : Int32).toInt ∧ (p0 : Int32).toInt ≤ 7) (hr_p1 : 0 ≤ (p1 : Int32).toInt ∧ (p1 : Int32).toInt ≤ 11) : xRi l G yX9_of cX9_of 3 (some .int) 0 0 [.ref h0, .int p0, .int p1] (yW G S d) (fun r => r = (d.2.2.2.2 (S.2.2.1 h0 11) (12 * p0.toInt.toNat + p1.toInt.toNat)).toInt32) := by
  intro sz
  refine xstart (by decide) (Nat.le_of_ble_eq_true rfl) (fun p e s m args below meth c ls C0 hr hlocks hin hsz hP hK hD hN hl => ?_)
  obtain ⟨hx, hb, hml, hown, htl⟩ := id C0
  have hl : lv_has ls 3 [(0, .ref h0), (1, .int p0), (2, .int p1)] := hl
  refine lv_aload_n hx hb dX9_of_0 rfl (lv_at hl 0 rfl) ?_
  refine yget (ci := 9) (k := 11) (v := .ref (S.2.2.1 h0 11)) (C := RX9) (T := TX9) (N := 67) C0 hK hP hm_h0 hk_h0 (by decide) rfl inlX9 (by decide) mW116 (fun _ h9 => h9) rfl dX9_of_1 ?_
  obtain ⟨hmy_1, hky_1⟩ := ySh.f9_11 hSh _ hm_h0 hk_h0
  refine lv_bipush (v := 12) hx hb dX9_of_4 (by decide) ?_
  refine lv_iload_n hx hb dX9_of_6 rfl (lv_at hl 1 rfl) ?_
  refine lv_imul hx hb dX9_of_7 ?_
  refine lv_topi (fun z_2 ez_2 => ?_)
  refine lv_iload_n hx hb dX9_of_8 rfl (lv_at hl 2 rfl) ?_
  refine lv_iadd hx hb dX9_of_9 ?_
  refine lv_topi (fun z_3 ez_3 => ?_)
  have T_5 : (z_2 : Int32).toInt = 12 * (p0 : Int32).toInt := tmul ez_2 (by decide +kernel : (12 : Int32).toInt = 12) (rfl : (p0 : Int32).toInt = (p0 : Int32).toInt) (by omega) (by omega)
  have T_4 : (z_3 : Int32).toInt = (z_2 : Int32).toInt + (p1 : Int32).toInt := tadd ez_3 (rfl : (z_2 : Int32).toInt = (z_2 : Int32).toInt) (rfl : (p1 : Int32).toInt = (p1 : Int32).toInt) (by omega) (by omega)
  refine yaldJ C0 hK hP hmy_1 hky_1 (by decide) rfl 4 rfl (xinT 96 rfl (by omega) (by omega)) dX9_of_10 ?_
  refine lv_topl (fun z_6 ez_6 => ?_)
  refine lv_l2i hx hb dX9_of_11 rfl ?_
  refine lv_topi (fun z_7 ez_7 => ?_)
  exact W.iret (v := z_7) hx hb hr (fun t ht hW => ⟨z_7, rfl, (by rw [ez_7, ez_6, show (z_3 : Int32).toNatClampNeg = 12 * p0.toInt.toNat + p1.toInt.toNat from (show (z_3 : Int32).toInt.toNat = _ by omega)]), ht⟩) (fun q hq => by cases hq) dX9_of_12
theorem dX9_dayWhy_0 : decode cX9_dayWhy 0 = .ok (.aload_n 0, 1) := by decide +kernel
theorem dX9_dayWhy_1 : decode cX9_dayWhy 1 = .ok (.iload_n 1, 1) := by decide +kernel
theorem dX9_dayWhy_2 : decode cX9_dayWhy 2 = .ok (.invokevirtual 157, 3) := by decide +kernel
theorem dX9_dayWhy_5 : decode cX9_dayWhy 5 = .ok (.ifCond .eq 12, 3) := by decide +kernel
theorem dX9_dayWhy_8 : decode cX9_dayWhy 8 = .ok (.aload_n 0, 1) := by decide +kernel
theorem dX9_dayWhy_9 : decode cX9_dayWhy 9 = .ok (.iload_n 1, 1) := by decide +kernel
theorem dX9_dayWhy_10 : decode cX9_dayWhy 10 = .ok (.iconst 2, 1) := by decide +kernel
theorem dX9_dayWhy_11 : decode cX9_dayWhy 11 = .ok (.invokevirtual 161, 3) := by decide +kernel
theorem dX9_dayWhy_14 : decode cX9_dayWhy 14 = .ok (.goto 5, 3) := by decide +kernel
theorem dX9_dayWhy_17 : decode cX9_dayWhy 17 = .ok (.bipush 90, 2) := by decide +kernel
theorem dX9_dayWhy_19 : decode cX9_dayWhy 19 = .ok (.istore_n 3, 1) := by decide +kernel
theorem dX9_dayWhy_20 : decode cX9_dayWhy 20 = .ok (.iload_n 2, 1) := by decide +kernel
theorem dX9_dayWhy_21 : decode cX9_dayWhy 21 = .ok (.ifCond .lt 8, 3) := by decide +kernel
theorem dX9_dayWhy_24 : decode cX9_dayWhy 24 = .ok (.iload_n 2, 1) := by decide +kernel
theorem dX9_dayWhy_25 : decode cX9_dayWhy 25 = .ok (.iload_n 3, 1) := by decide +kernel
theorem dX9_dayWhy_26 : decode cX9_dayWhy 26 = .ok (.if_icmp .lt 7, 3) := by decide +kernel
theorem dX9_dayWhy_29 : decode cX9_dayWhy 29 = .ok (.iconst 1, 1) := by decide +kernel
theorem dX9_dayWhy_30 : decode cX9_dayWhy 30 = .ok (.goto 8, 3) := by decide +kernel
theorem dX9_dayWhy_33 : decode cX9_dayWhy 33 = .ok (.aload_n 0, 1) := by decide +kernel
theorem dX9_dayWhy_34 : decode cX9_dayWhy 34 = .ok (.iload_n 1, 1) := by decide +kernel
theorem dX9_dayWhy_35 : decode cX9_dayWhy 35 = .ok (.invokevirtual 165, 3) := by decide +kernel
theorem dX9_dayWhy_38 : decode cX9_dayWhy 38 = .ok (.ireturn, 1) := by decide +kernel
set_option maxHeartbeats 4000000 in
set_option maxRecDepth 100000 in
theorem g_X9_dayWhy (l : Launch) (G : xG) (S : yS) (d : yD) (h0 : Nat) (p0 : Int32) (p1 : Int32) (hSh : ySh S) (hm_h0 : h0 ∈ S.1) (hk_h0 : S.2.1 h0 = 9) (hI : yMI S d h0) : xRi l G yX9_dayWhy cX9_dayWhy 4 (some .int) 2 42 [.ref h0, .int p0, .int p1] (yW G S d) (fun r => 0 ≤ r.toInt ∧ r.toInt ≤ 2 ∧ (r.toInt = 0 → (0 ≤ p0.toInt ∧ p0.toInt ≤ 7 ∧ yOI S d h0 p0.toInt.toNat = 1 ∧ 0 ≤ p1.toInt ∧ p1.toInt < yOf S d h0 p0.toInt.toNat 2) ∧ p1.toInt ≤ 89) ∧ (r.toInt ≠ 0 → ¬ (0 ≤ p0.toInt ∧ p0.toInt ≤ 7 ∧ yOI S d h0 p0.toInt.toNat = 1 ∧ 0 ≤ p1.toInt ∧ p1.toInt < yOf S d h0 p0.toInt.toNat 2))) := by
  intro sz
  refine xstart (by decide) (Nat.le_of_ble_eq_true rfl) (fun p e s m args below meth c ls C0 hr hlocks hin hsz hP hK hD hN hl => ?_)
  obtain ⟨hx, hb, hml, hown, htl⟩ := id C0
  have hl : lv_has ls 4 [(0, .ref h0), (1, .int p0), (2, .int p1)] := hl
  refine lv_aload_n hx hb dX9_dayWhy_0 rfl (lv_at hl 0 rfl) ?_
  refine lv_iload_n hx hb dX9_dayWhy_1 rfl (lv_at hl 1 rfl) ?_
  refine yVri (As := [.int p0]) (rest := []) C0 (g_X9_isOpen l G S d h0 p0 hSh hm_h0 hk_h0) ok_X9_isOpen (mW391 : Cond.methodLink RX9 157 yX9_isOpen ∈ wsT) ⟨Nat.le_of_ble_eq_true rfl, Nat.le_of_ble_eq_true rfl⟩ hP hD hK hN hm_h0 hk_h0 (by decide) rfl rfl rfl hl.1 rfl (Nat.le_of_ble_eq_true rfl) ⟨Nat.le_of_ble_eq_true rfl, Nat.le_of_ble_eq_true rfl⟩ dX9_dayWhy_2 (fun r_1 hr_1 => ?_)
  refine lv_if_eq (tgt := 17) hx hb dX9_dayWhy_5 (by decide) (fun c_2 => ?_) (fun c_2 => ?_)
  · refine lv_bipush (v := 90) hx hb dX9_dayWhy_17 (by decide) ?_
    refine lv_istore_n (lv' := [(3, .int 90), (0, .ref h0), (1, .int p0), (2, .int p1)]) hx hb dX9_dayWhy_19 rfl hl (by decide) rfl (fun ls hl => ?_)
    refine lv_iload_n hx hb dX9_dayWhy_20 rfl (lv_at hl 3 rfl) ?_
    refine lv_if_lt (tgt := 29) hx hb dX9_dayWhy_21 (by decide) (fun c_3 => ?_) (fun c_3 => ?_)
    · refine lv_iconst (v := 1) hx hb dX9_dayWhy_29 (by decide) ?_
      refine lv_goto (tgt := 38) hx hb dX9_dayWhy_30 (by decide) ?_
      have hCC_4 := yMI.c hI
      have F_5 := feq (rfl : (r_1 : Int32).toInt = (r_1 : Int32).toInt) (by decide +kernel : (0 : Int32).toInt = 0) c_2
      have F_6 := flt (rfl : (p1 : Int32).toInt = (p1 : Int32).toInt) (by decide +kernel : (0 : Int32).toInt = 0) c_3
      exact W.iret (v := 1) hx hb hr (fun t ht hW => ⟨1, rfl, (by have h0_ : (1 : Int32).toInt = 1 := (by decide +kernel); omega), ht⟩) (fun q hq => by cases hq) dX9_dayWhy_38
    · refine lv_iload_n hx hb dX9_dayWhy_24 rfl (lv_at hl 3 rfl) ?_
      refine lv_iload_n hx hb dX9_dayWhy_25 rfl (lv_at hl 0 rfl) ?_
      refine lv_icmp_lt (tgt := 33) hx hb dX9_dayWhy_26 (by decide) (fun c_7 => ?_) (fun c_7 => ?_)
      · refine lv_aload_n hx hb dX9_dayWhy_33 rfl (lv_at hl 1 rfl) ?_
        refine lv_iload_n hx hb dX9_dayWhy_34 rfl (lv_at hl 2 rfl) ?_
        refine yVri (As := [.int p0]) (rest := []) C0 (g_X9_portWhy l G S d h0 p0 hSh hm_h0 hk_h0) ok_X9_portWhy (mW387 : Cond.methodLink RX9 165 yX9_portWhy ∈ wsT) ⟨Nat.le_of_ble_eq_true rfl, Nat.le_of_ble_eq_true rfl⟩ hP hD hK hN hm_h0 hk_h0 (by decide) rfl rfl rfl hl.1 rfl (Nat.le_of_ble_eq_true rfl) ⟨Nat.le_of_ble_eq_true rfl, Nat.le_of_ble_eq_true rfl⟩ dX9_dayWhy_35 (fun r_8 hr_8 => ?_)
        have hCC_9 := yMI.c hI
        have F_10 := feq (rfl : (r_1 : Int32).toInt = (r_1 : Int32).toInt) (by decide +kernel : (0 : Int32).toInt = 0) c_2
        have F_11 := fnlt (rfl : (p1 : Int32).toInt = (p1 : Int32).toInt) (by decide +kernel : (0 : Int32).toInt = 0) c_3
        have F_12 := flt (rfl : (p1 : Int32).toInt = (p1 : Int32).toInt) (by decide +kernel : (90 : Int32).toInt = 90) c_7
        exact W.iret (v := r_8) hx hb hr (fun t ht hW => ⟨r_8, rfl, (by omega), ht⟩) (fun q hq => by cases hq) dX9_dayWhy_38
      · refine lv_iconst (v := 1) hx hb dX9_dayWhy_29 (by decide) ?_
        refine lv_goto (tgt := 38) hx hb dX9_dayWhy_30 (by decide) ?_
        have hCC_13 := yMI.c hI
        have F_14 := feq (rfl : (r_1 : Int32).toInt = (r_1 : Int32).toInt) (by decide +kernel : (0 : Int32).toInt = 0) c_2
        have F_15 := fnlt (rfl : (p1 : Int32).toInt = (p1 : Int32).toInt) (by decide +kernel : (0 : Int32).toInt = 0) c_3
        have F_16 := fnlt (rfl : (p1 : Int32).toInt = (p1 : Int32).toInt) (by decide +kernel : (90 : Int32).toInt = 90) c_7
        exact W.iret (v := 1) hx hb hr (fun t ht hW => ⟨1, rfl, (by have h0_ : (1 : Int32).toInt = 1 := (by decide +kernel); omega), ht⟩) (fun q hq => by cases hq) dX9_dayWhy_38
  · refine lv_aload_n hx hb dX9_dayWhy_8 rfl (lv_at hl 0 rfl) ?_
    refine lv_iload_n hx hb dX9_dayWhy_9 rfl (lv_at hl 1 rfl) ?_
    refine lv_iconst (v := 2) hx hb dX9_dayWhy_10 (by decide) ?_
    have F_17 := fne (rfl : (r_1 : Int32).toInt = (r_1 : Int32).toInt) (by decide +kernel : (0 : Int32).toInt = 0) c_2
    refine yVri (As := [.int p0, .int 2]) (rest := []) C0 (g_X9_of l G S d h0 p0 2 hSh hm_h0 hk_h0 (by refine ⟨?_, ?_⟩ <;> omega) (by decide +kernel)) ok_X9_of (mW425 : Cond.methodLink RX9 161 yX9_of ∈ wsT) ⟨Nat.le_of_ble_eq_true rfl, Nat.le_of_ble_eq_true rfl⟩ hP hD hK hN hm_h0 hk_h0 (by decide) rfl rfl rfl hl.1 rfl (Nat.le_of_ble_eq_true rfl) ⟨Nat.le_of_ble_eq_true rfl, Nat.le_of_ble_eq_true rfl⟩ dX9_dayWhy_11 (fun r_18 hr_18 => ?_)
    have hOr_18 : (r_18 : Int32).toInt = yOf S d h0 (p0 : Int32).toInt.toNat 2 := by rw [hr_18, show (2 : Int32).toInt.toNat = 2 by decide +kernel]; rfl
    have hCC_19 := yMI.c hI
    have hbr_18 := xof2 hI (p := p0) (by refine ⟨?_, ?_⟩ <;> omega) hr_18
    refine lv_goto (tgt := 19) hx hb dX9_dayWhy_14 (by decide) ?_
    refine lv_istore_n (lv' := [(3, .int r_18), (0, .ref h0), (1, .int p0), (2, .int p1)]) hx hb dX9_dayWhy_19 rfl hl (by decide) rfl (fun ls hl => ?_)
    refine lv_iload_n hx hb dX9_dayWhy_20 rfl (lv_at hl 3 rfl) ?_
    refine lv_if_lt (tgt := 29) hx hb dX9_dayWhy_21 (by decide) (fun c_20 => ?_) (fun c_20 => ?_)
    · refine lv_iconst (v := 1) hx hb dX9_dayWhy_29 (by decide) ?_
      refine lv_goto (tgt := 38) hx hb dX9_dayWhy_30 (by decide) ?_
      have F_21 := flt (rfl : (p1 : Int32).toInt = (p1 : Int32).toInt) (by decide +kernel : (0 : Int32).toInt = 0) c_20
      exact W.iret (v := 1) hx hb hr (fun t ht hW => ⟨1, rfl, (by have h0_ : (1 : Int32).toInt = 1 := (by decide +kernel); omega), ht⟩) (fun q hq => by cases hq) dX9_dayWhy_38
    · refine lv_iload_n hx hb dX9_dayWhy_24 rfl (lv_at hl 3 rfl) ?_
      refine lv_iload_n hx hb dX9_dayWhy_25 rfl (lv_at hl 0 rfl) ?_
      refine lv_icmp_lt (tgt := 33) hx hb dX9_dayWhy_26 (by decide) (fun c_22 => ?_) (fun c_22 => ?_)
      · refine lv_aload_n hx hb dX9_dayWhy_33 rfl (lv_at hl 1 rfl) ?_
        refine lv_iload_n hx hb dX9_dayWhy_34 rfl (lv_at hl 2 rfl) ?_
        refine yVri (As := [.int p0]) (rest := []) C0 (g_X9_portWhy l G S d h0 p0 hSh hm_h0 hk_h0) ok_X9_portWhy (mW387 : Cond.methodLink RX9 165 yX9_portWhy ∈ wsT) ⟨Nat.le_of_ble_eq_true rfl, Nat.le_of_ble_eq_true rfl⟩ hP hD hK hN hm_h0 hk_h0 (by decide) rfl rfl rfl hl.1 rfl (Nat.le_of_ble_eq_true rfl) ⟨Nat.le_of_ble_eq_true rfl, Nat.le_of_ble_eq_true rfl⟩ dX9_dayWhy_35 (fun r_23 hr_23 => ?_)
        have F_24 := fnlt (rfl : (p1 : Int32).toInt = (p1 : Int32).toInt) (by decide +kernel : (0 : Int32).toInt = 0) c_20
        have F_25 := flt (rfl : (p1 : Int32).toInt = (p1 : Int32).toInt) (rfl : (r_18 : Int32).toInt = (r_18 : Int32).toInt) c_22
        exact W.iret (v := r_23) hx hb hr (fun t ht hW => ⟨r_23, rfl, (by omega), ht⟩) (fun q hq => by cases hq) dX9_dayWhy_38
      · refine lv_iconst (v := 1) hx hb dX9_dayWhy_29 (by decide) ?_
        refine lv_goto (tgt := 38) hx hb dX9_dayWhy_30 (by decide) ?_
        have F_26 := fnlt (rfl : (p1 : Int32).toInt = (p1 : Int32).toInt) (by decide +kernel : (0 : Int32).toInt = 0) c_20
        have F_27 := fnlt (rfl : (p1 : Int32).toInt = (p1 : Int32).toInt) (rfl : (r_18 : Int32).toInt = (r_18 : Int32).toInt) c_22
        exact W.iret (v := 1) hx hb hr (fun t ht hW => ⟨1, rfl, (by have h0_ : (1 : Int32).toInt = 1 := (by decide +kernel); omega), ht⟩) (fun q hq => by cases hq) dX9_dayWhy_38
theorem dX9_minuteWhy_0 : decode cX9_minuteWhy 0 = .ok (.aload_n 0, 1) := by decide +kernel
theorem dX9_minuteWhy_1 : decode cX9_minuteWhy 1 = .ok (.iload_n 1, 1) := by decide +kernel
theorem dX9_minuteWhy_2 : decode cX9_minuteWhy 2 = .ok (.invokevirtual 157, 3) := by decide +kernel
theorem dX9_minuteWhy_5 : decode cX9_minuteWhy 5 = .ok (.ifCond .eq 12, 3) := by decide +kernel
theorem dX9_minuteWhy_8 : decode cX9_minuteWhy 8 = .ok (.aload_n 0, 1) := by decide +kernel
theorem dX9_minuteWhy_9 : decode cX9_minuteWhy 9 = .ok (.iload_n 1, 1) := by decide +kernel
theorem dX9_minuteWhy_10 : decode cX9_minuteWhy 10 = .ok (.iconst 2, 1) := by decide +kernel
theorem dX9_minuteWhy_11 : decode cX9_minuteWhy 11 = .ok (.invokevirtual 161, 3) := by decide +kernel
theorem dX9_minuteWhy_14 : decode cX9_minuteWhy 14 = .ok (.goto 5, 3) := by decide +kernel
theorem dX9_minuteWhy_17 : decode cX9_minuteWhy 17 = .ok (.bipush 90, 2) := by decide +kernel
theorem dX9_minuteWhy_19 : decode cX9_minuteWhy 19 = .ok (.istore_n 3, 1) := by decide +kernel
theorem dX9_minuteWhy_20 : decode cX9_minuteWhy 20 = .ok (.iload_n 2, 1) := by decide +kernel
theorem dX9_minuteWhy_21 : decode cX9_minuteWhy 21 = .ok (.ifCond .lt 12, 3) := by decide +kernel
theorem dX9_minuteWhy_24 : decode cX9_minuteWhy 24 = .ok (.iload_n 2, 1) := by decide +kernel
theorem dX9_minuteWhy_25 : decode cX9_minuteWhy 25 = .ok (.sipush 1440, 3) := by decide +kernel
theorem dX9_minuteWhy_28 : decode cX9_minuteWhy 28 = .ok (.iload_n 3, 1) := by decide +kernel
theorem dX9_minuteWhy_29 : decode cX9_minuteWhy 29 = .ok (.imul, 1) := by decide +kernel
theorem dX9_minuteWhy_30 : decode cX9_minuteWhy 30 = .ok (.if_icmp .lt 7, 3) := by decide +kernel
theorem dX9_minuteWhy_33 : decode cX9_minuteWhy 33 = .ok (.iconst 1, 1) := by decide +kernel
theorem dX9_minuteWhy_34 : decode cX9_minuteWhy 34 = .ok (.goto 8, 3) := by decide +kernel
theorem dX9_minuteWhy_37 : decode cX9_minuteWhy 37 = .ok (.aload_n 0, 1) := by decide +kernel
theorem dX9_minuteWhy_38 : decode cX9_minuteWhy 38 = .ok (.iload_n 1, 1) := by decide +kernel
theorem dX9_minuteWhy_39 : decode cX9_minuteWhy 39 = .ok (.invokevirtual 165, 3) := by decide +kernel
theorem dX9_minuteWhy_42 : decode cX9_minuteWhy 42 = .ok (.ireturn, 1) := by decide +kernel
set_option maxHeartbeats 4000000 in
set_option maxRecDepth 100000 in
theorem g_X9_minuteWhy (l : Launch) (G : xG) (S : yS) (d : yD) (h0 : Nat) (p0 : Int32) (p1 : Int32) (hSh : ySh S) (hm_h0 : h0 ∈ S.1) (hk_h0 : S.2.1 h0 = 9) (hI : yMI S d h0) : xRi l G yX9_minuteWhy cX9_minuteWhy 4 (some .int) 2 42 [.ref h0, .int p0, .int p1] (yW G S d) (fun r => 0 ≤ r.toInt ∧ r.toInt ≤ 2 ∧ (r.toInt = 0 → (0 ≤ p0.toInt ∧ p0.toInt ≤ 7) ∧ 0 ≤ p1.toInt ∧ p1.toInt ≤ 129599)) := by
  intro sz
  refine xstart (by decide) (Nat.le_of_ble_eq_true rfl) (fun p e s m args below meth c ls C0 hr hlocks hin hsz hP hK hD hN hl => ?_)
  obtain ⟨hx, hb, hml, hown, htl⟩ := id C0
  have hl : lv_has ls 4 [(0, .ref h0), (1, .int p0), (2, .int p1)] := hl
  refine lv_aload_n hx hb dX9_minuteWhy_0 rfl (lv_at hl 0 rfl) ?_
  refine lv_iload_n hx hb dX9_minuteWhy_1 rfl (lv_at hl 1 rfl) ?_
  refine yVri (As := [.int p0]) (rest := []) C0 (g_X9_isOpen l G S d h0 p0 hSh hm_h0 hk_h0) ok_X9_isOpen (mW391 : Cond.methodLink RX9 157 yX9_isOpen ∈ wsT) ⟨Nat.le_of_ble_eq_true rfl, Nat.le_of_ble_eq_true rfl⟩ hP hD hK hN hm_h0 hk_h0 (by decide) rfl rfl rfl hl.1 rfl (Nat.le_of_ble_eq_true rfl) ⟨Nat.le_of_ble_eq_true rfl, Nat.le_of_ble_eq_true rfl⟩ dX9_minuteWhy_2 (fun r_1 hr_1 => ?_)
  refine lv_if_eq (tgt := 17) hx hb dX9_minuteWhy_5 (by decide) (fun c_2 => ?_) (fun c_2 => ?_)
  · refine lv_bipush (v := 90) hx hb dX9_minuteWhy_17 (by decide) ?_
    refine lv_istore_n (lv' := [(3, .int 90), (0, .ref h0), (1, .int p0), (2, .int p1)]) hx hb dX9_minuteWhy_19 rfl hl (by decide) rfl (fun ls hl => ?_)
    refine lv_iload_n hx hb dX9_minuteWhy_20 rfl (lv_at hl 3 rfl) ?_
    refine lv_if_lt (tgt := 33) hx hb dX9_minuteWhy_21 (by decide) (fun c_3 => ?_) (fun c_3 => ?_)
    · refine lv_iconst (v := 1) hx hb dX9_minuteWhy_33 (by decide) ?_
      refine lv_goto (tgt := 42) hx hb dX9_minuteWhy_34 (by decide) ?_
      have hCC_4 := yMI.c hI
      have F_5 := feq (rfl : (r_1 : Int32).toInt = (r_1 : Int32).toInt) (by decide +kernel : (0 : Int32).toInt = 0) c_2
      have F_6 := flt (rfl : (p1 : Int32).toInt = (p1 : Int32).toInt) (by decide +kernel : (0 : Int32).toInt = 0) c_3
      exact W.iret (v := 1) hx hb hr (fun t ht hW => ⟨1, rfl, (by have h0_ : (1 : Int32).toInt = 1 := (by decide +kernel); omega), ht⟩) (fun q hq => by cases hq) dX9_minuteWhy_42
    · refine lv_iload_n hx hb dX9_minuteWhy_24 rfl (lv_at hl 3 rfl) ?_
      refine lv_sipush (v := 1440) hx hb dX9_minuteWhy_25 (by decide) ?_
      refine lv_iload_n hx hb dX9_minuteWhy_28 rfl (lv_at hl 0 rfl) ?_
      refine lv_imul hx hb dX9_minuteWhy_29 ?_
      refine lv_topi (fun z_7 ez_7 => ?_)
      obtain rfl : z_7 = 129600 := ez_7.trans (by first | rfl | decide +kernel)
      refine lv_icmp_lt (tgt := 37) hx hb dX9_minuteWhy_30 (by decide) (fun c_8 => ?_) (fun c_8 => ?_)
      · refine lv_aload_n hx hb dX9_minuteWhy_37 rfl (lv_at hl 1 rfl) ?_
        refine lv_iload_n hx hb dX9_minuteWhy_38 rfl (lv_at hl 2 rfl) ?_
        refine yVri (As := [.int p0]) (rest := []) C0 (g_X9_portWhy l G S d h0 p0 hSh hm_h0 hk_h0) ok_X9_portWhy (mW387 : Cond.methodLink RX9 165 yX9_portWhy ∈ wsT) ⟨Nat.le_of_ble_eq_true rfl, Nat.le_of_ble_eq_true rfl⟩ hP hD hK hN hm_h0 hk_h0 (by decide) rfl rfl rfl hl.1 rfl (Nat.le_of_ble_eq_true rfl) ⟨Nat.le_of_ble_eq_true rfl, Nat.le_of_ble_eq_true rfl⟩ dX9_minuteWhy_39 (fun r_9 hr_9 => ?_)
        have hCC_10 := yMI.c hI
        have F_11 := feq (rfl : (r_1 : Int32).toInt = (r_1 : Int32).toInt) (by decide +kernel : (0 : Int32).toInt = 0) c_2
        have F_12 := fnlt (rfl : (p1 : Int32).toInt = (p1 : Int32).toInt) (by decide +kernel : (0 : Int32).toInt = 0) c_3
        have F_13 := flt (rfl : (p1 : Int32).toInt = (p1 : Int32).toInt) (by decide +kernel : (129600 : Int32).toInt = 129600) c_8
        exact W.iret (v := r_9) hx hb hr (fun t ht hW => ⟨r_9, rfl, (by omega), ht⟩) (fun q hq => by cases hq) dX9_minuteWhy_42
      · refine lv_iconst (v := 1) hx hb dX9_minuteWhy_33 (by decide) ?_
        refine lv_goto (tgt := 42) hx hb dX9_minuteWhy_34 (by decide) ?_
        have hCC_14 := yMI.c hI
        have F_15 := feq (rfl : (r_1 : Int32).toInt = (r_1 : Int32).toInt) (by decide +kernel : (0 : Int32).toInt = 0) c_2
        have F_16 := fnlt (rfl : (p1 : Int32).toInt = (p1 : Int32).toInt) (by decide +kernel : (0 : Int32).toInt = 0) c_3
        have F_17 := fnlt (rfl : (p1 : Int32).toInt = (p1 : Int32).toInt) (by decide +kernel : (129600 : Int32).toInt = 129600) c_8
        exact W.iret (v := 1) hx hb hr (fun t ht hW => ⟨1, rfl, (by have h0_ : (1 : Int32).toInt = 1 := (by decide +kernel); omega), ht⟩) (fun q hq => by cases hq) dX9_minuteWhy_42
  · refine lv_aload_n hx hb dX9_minuteWhy_8 rfl (lv_at hl 0 rfl) ?_
    refine lv_iload_n hx hb dX9_minuteWhy_9 rfl (lv_at hl 1 rfl) ?_
    refine lv_iconst (v := 2) hx hb dX9_minuteWhy_10 (by decide) ?_
    have F_18 := fne (rfl : (r_1 : Int32).toInt = (r_1 : Int32).toInt) (by decide +kernel : (0 : Int32).toInt = 0) c_2
    refine yVri (As := [.int p0, .int 2]) (rest := []) C0 (g_X9_of l G S d h0 p0 2 hSh hm_h0 hk_h0 (by refine ⟨?_, ?_⟩ <;> omega) (by decide +kernel)) ok_X9_of (mW425 : Cond.methodLink RX9 161 yX9_of ∈ wsT) ⟨Nat.le_of_ble_eq_true rfl, Nat.le_of_ble_eq_true rfl⟩ hP hD hK hN hm_h0 hk_h0 (by decide) rfl rfl rfl hl.1 rfl (Nat.le_of_ble_eq_true rfl) ⟨Nat.le_of_ble_eq_true rfl, Nat.le_of_ble_eq_true rfl⟩ dX9_minuteWhy_11 (fun r_19 hr_19 => ?_)
    have hOr_19 : (r_19 : Int32).toInt = yOf S d h0 (p0 : Int32).toInt.toNat 2 := by rw [hr_19, show (2 : Int32).toInt.toNat = 2 by decide +kernel]; rfl
    have hCC_20 := yMI.c hI
    have hbr_19 := xof2 hI (p := p0) (by refine ⟨?_, ?_⟩ <;> omega) hr_19
    refine lv_goto (tgt := 19) hx hb dX9_minuteWhy_14 (by decide) ?_
    refine lv_istore_n (lv' := [(3, .int r_19), (0, .ref h0), (1, .int p0), (2, .int p1)]) hx hb dX9_minuteWhy_19 rfl hl (by decide) rfl (fun ls hl => ?_)
    refine lv_iload_n hx hb dX9_minuteWhy_20 rfl (lv_at hl 3 rfl) ?_
    refine lv_if_lt (tgt := 33) hx hb dX9_minuteWhy_21 (by decide) (fun c_21 => ?_) (fun c_21 => ?_)
    · refine lv_iconst (v := 1) hx hb dX9_minuteWhy_33 (by decide) ?_
      refine lv_goto (tgt := 42) hx hb dX9_minuteWhy_34 (by decide) ?_
      have F_22 := flt (rfl : (p1 : Int32).toInt = (p1 : Int32).toInt) (by decide +kernel : (0 : Int32).toInt = 0) c_21
      exact W.iret (v := 1) hx hb hr (fun t ht hW => ⟨1, rfl, (by have h0_ : (1 : Int32).toInt = 1 := (by decide +kernel); omega), ht⟩) (fun q hq => by cases hq) dX9_minuteWhy_42
    · refine lv_iload_n hx hb dX9_minuteWhy_24 rfl (lv_at hl 3 rfl) ?_
      refine lv_sipush (v := 1440) hx hb dX9_minuteWhy_25 (by decide) ?_
      refine lv_iload_n hx hb dX9_minuteWhy_28 rfl (lv_at hl 0 rfl) ?_
      refine lv_imul hx hb dX9_minuteWhy_29 ?_
      refine lv_topi (fun z_23 ez_23 => ?_)
      refine lv_icmp_lt (tgt := 37) hx hb dX9_minuteWhy_30 (by decide) (fun c_24 => ?_) (fun c_24 => ?_)
      · refine lv_aload_n hx hb dX9_minuteWhy_37 rfl (lv_at hl 1 rfl) ?_
        refine lv_iload_n hx hb dX9_minuteWhy_38 rfl (lv_at hl 2 rfl) ?_
        refine yVri (As := [.int p0]) (rest := []) C0 (g_X9_portWhy l G S d h0 p0 hSh hm_h0 hk_h0) ok_X9_portWhy (mW387 : Cond.methodLink RX9 165 yX9_portWhy ∈ wsT) ⟨Nat.le_of_ble_eq_true rfl, Nat.le_of_ble_eq_true rfl⟩ hP hD hK hN hm_h0 hk_h0 (by decide) rfl rfl rfl hl.1 rfl (Nat.le_of_ble_eq_true rfl) ⟨Nat.le_of_ble_eq_true rfl, Nat.le_of_ble_eq_true rfl⟩ dX9_minuteWhy_39 (fun r_25 hr_25 => ?_)
        have F_26 := fnlt (rfl : (p1 : Int32).toInt = (p1 : Int32).toInt) (by decide +kernel : (0 : Int32).toInt = 0) c_21
        have T_27 : (z_23 : Int32).toInt = 1440 * (r_19 : Int32).toInt := tmul ez_23 (by decide +kernel : (1440 : Int32).toInt = 1440) (rfl : (r_19 : Int32).toInt = (r_19 : Int32).toInt) (by omega) (by omega)
        have F_28 := flt (rfl : (p1 : Int32).toInt = (p1 : Int32).toInt) (rfl : (z_23 : Int32).toInt = (z_23 : Int32).toInt) c_24
        exact W.iret (v := r_25) hx hb hr (fun t ht hW => ⟨r_25, rfl, (by omega), ht⟩) (fun q hq => by cases hq) dX9_minuteWhy_42
      · refine lv_iconst (v := 1) hx hb dX9_minuteWhy_33 (by decide) ?_
        refine lv_goto (tgt := 42) hx hb dX9_minuteWhy_34 (by decide) ?_
        have F_29 := fnlt (rfl : (p1 : Int32).toInt = (p1 : Int32).toInt) (by decide +kernel : (0 : Int32).toInt = 0) c_21
        have T_30 : (z_23 : Int32).toInt = 1440 * (r_19 : Int32).toInt := tmul ez_23 (by decide +kernel : (1440 : Int32).toInt = 1440) (rfl : (r_19 : Int32).toInt = (r_19 : Int32).toInt) (by omega) (by omega)
        have F_31 := fnlt (rfl : (p1 : Int32).toInt = (p1 : Int32).toInt) (rfl : (z_23 : Int32).toInt = (z_23 : Int32).toInt) c_24
        exact W.iret (v := 1) hx hb hr (fun t ht hW => ⟨1, rfl, (by have h0_ : (1 : Int32).toInt = 1 := (by decide +kernel); omega), ht⟩) (fun q hq => by cases hq) dX9_minuteWhy_42
theorem dX9_termWhy_0 : decode cX9_termWhy 0 = .ok (.aload_n 0, 1) := by decide +kernel
theorem dX9_termWhy_1 : decode cX9_termWhy 1 = .ok (.iload_n 1, 1) := by decide +kernel
theorem dX9_termWhy_2 : decode cX9_termWhy 2 = .ok (.iload_n 2, 1) := by decide +kernel
theorem dX9_termWhy_3 : decode cX9_termWhy 3 = .ok (.invokevirtual 171, 3) := by decide +kernel
theorem dX9_termWhy_6 : decode cX9_termWhy 6 = .ok (.istore_n 3, 1) := by decide +kernel
theorem dX9_termWhy_7 : decode cX9_termWhy 7 = .ok (.iload_n 3, 1) := by decide +kernel
theorem dX9_termWhy_8 : decode cX9_termWhy 8 = .ok (.ifCond .eq 7, 3) := by decide +kernel
theorem dX9_termWhy_11 : decode cX9_termWhy 11 = .ok (.iload_n 3, 1) := by decide +kernel
theorem dX9_termWhy_12 : decode cX9_termWhy 12 = .ok (.goto 41, 3) := by decide +kernel
theorem dX9_termWhy_15 : decode cX9_termWhy 15 = .ok (.aload_n 0, 1) := by decide +kernel
theorem dX9_termWhy_16 : decode cX9_termWhy 16 = .ok (.getfield 13, 3) := by decide +kernel
theorem dX9_termWhy_19 : decode cX9_termWhy 19 = .ok (.bipush 60, 2) := by decide +kernel
theorem dX9_termWhy_21 : decode cX9_termWhy 21 = .ok (.iload_n 1, 1) := by decide +kernel
theorem dX9_termWhy_22 : decode cX9_termWhy 22 = .ok (.imul, 1) := by decide +kernel
theorem dX9_termWhy_23 : decode cX9_termWhy 23 = .ok (.iload_n 2, 1) := by decide +kernel
theorem dX9_termWhy_24 : decode cX9_termWhy 24 = .ok (.iadd, 1) := by decide +kernel
theorem dX9_termWhy_25 : decode cX9_termWhy 25 = .ok (.baload, 1) := by decide +kernel
theorem dX9_termWhy_26 : decode cX9_termWhy 26 = .ok (.ifCond .ne 7, 3) := by decide +kernel
theorem dX9_termWhy_29 : decode cX9_termWhy 29 = .ok (.iconst 2, 1) := by decide +kernel
theorem dX9_termWhy_30 : decode cX9_termWhy 30 = .ok (.goto 23, 3) := by decide +kernel
theorem dX9_termWhy_33 : decode cX9_termWhy 33 = .ok (.aload_n 0, 1) := by decide +kernel
theorem dX9_termWhy_34 : decode cX9_termWhy 34 = .ok (.getfield 13, 3) := by decide +kernel
theorem dX9_termWhy_37 : decode cX9_termWhy 37 = .ok (.bipush 60, 2) := by decide +kernel
theorem dX9_termWhy_39 : decode cX9_termWhy 39 = .ok (.iload_n 1, 1) := by decide +kernel
theorem dX9_termWhy_40 : decode cX9_termWhy 40 = .ok (.imul, 1) := by decide +kernel
theorem dX9_termWhy_41 : decode cX9_termWhy 41 = .ok (.iload_n 2, 1) := by decide +kernel
theorem dX9_termWhy_42 : decode cX9_termWhy 42 = .ok (.iadd, 1) := by decide +kernel
theorem dX9_termWhy_43 : decode cX9_termWhy 43 = .ok (.baload, 1) := by decide +kernel
theorem dX9_termWhy_44 : decode cX9_termWhy 44 = .ok (.iconst 1, 1) := by decide +kernel
theorem dX9_termWhy_45 : decode cX9_termWhy 45 = .ok (.if_icmp .ne 7, 3) := by decide +kernel
theorem dX9_termWhy_48 : decode cX9_termWhy 48 = .ok (.iconst 3, 1) := by decide +kernel
theorem dX9_termWhy_49 : decode cX9_termWhy 49 = .ok (.goto 4, 3) := by decide +kernel
theorem dX9_termWhy_52 : decode cX9_termWhy 52 = .ok (.iconst 0, 1) := by decide +kernel
theorem dX9_termWhy_53 : decode cX9_termWhy 53 = .ok (.ireturn, 1) := by decide +kernel
set_option maxHeartbeats 4000000 in
set_option maxRecDepth 100000 in
theorem g_X9_termWhy (l : Launch) (G : xG) (S : yS) (d : yD) (h0 : Nat) (p0 : Int32) (p1 : Int32) (hSh : ySh S) (hm_h0 : h0 ∈ S.1) (hk_h0 : S.2.1 h0 = 9) : xRi l G yX9_termWhy cX9_termWhy 4 (some .int) 2 43 [.ref h0, .int p0, .int p1] (yW G S d) (fun r => 0 ≤ r.toInt ∧ r.toInt ≤ 3 ∧ (r.toInt = 0 → ((0 ≤ p0.toInt ∧ p0.toInt ≤ 39 ∧ p0.toInt < (d.1 h0 0).toInt) ∧ 0 ≤ p1.toInt ∧ p1.toInt ≤ 59) ∧ (yCe S d h0 4 p0 p1).toInt ≠ 0 ∧ (yCe S d h0 4 p0 p1).toInt ≠ 1) ∧ (r.toInt ≠ 0 → ¬ (((0 ≤ p0.toInt ∧ p0.toInt ≤ 39 ∧ p0.toInt < (d.1 h0 0).toInt) ∧ 0 ≤ p1.toInt ∧ p1.toInt ≤ 59) ∧ (yCe S d h0 4 p0 p1).toInt ≠ 0 ∧ (yCe S d h0 4 p0 p1).toInt ≠ 1))) := by
  intro sz
  refine xstart (by decide) (Nat.le_of_ble_eq_true rfl) (fun p e s m args below meth c ls C0 hr hlocks hin hsz hP hK hD hN hl => ?_)
  obtain ⟨hx, hb, hml, hown, htl⟩ := id C0
  have hl : lv_has ls 4 [(0, .ref h0), (1, .int p0), (2, .int p1)] := hl
  refine lv_aload_n hx hb dX9_termWhy_0 rfl (lv_at hl 0 rfl) ?_
  refine lv_iload_n hx hb dX9_termWhy_1 rfl (lv_at hl 1 rfl) ?_
  refine lv_iload_n hx hb dX9_termWhy_2 rfl (lv_at hl 2 rfl) ?_
  refine yVri (As := [.int p0, .int p1]) (rest := []) C0 (g_X9_placeWhy l G S d h0 p0 p1 hSh hm_h0 hk_h0) ok_X9_placeWhy (mW222 : Cond.methodLink RX9 171 yX9_placeWhy ∈ wsT) ⟨Nat.le_of_ble_eq_true rfl, Nat.le_of_ble_eq_true rfl⟩ hP hD hK hN hm_h0 hk_h0 (by decide) rfl rfl rfl hl.1 rfl (Nat.le_of_ble_eq_true rfl) ⟨Nat.le_of_ble_eq_true rfl, Nat.le_of_ble_eq_true rfl⟩ dX9_termWhy_3 (fun r_1 hr_1 => ?_)
  refine lv_istore_n (lv' := [(3, .int r_1), (0, .ref h0), (1, .int p0), (2, .int p1)]) hx hb dX9_termWhy_6 rfl hl (by decide) rfl (fun ls hl => ?_)
  refine lv_iload_n hx hb dX9_termWhy_7 rfl (lv_at hl 0 rfl) ?_
  refine lv_if_eq (tgt := 15) hx hb dX9_termWhy_8 (by decide) (fun c_2 => ?_) (fun c_2 => ?_)
  · refine lv_aload_n hx hb dX9_termWhy_15 rfl (lv_at hl 1 rfl) ?_
    refine yget (ci := 9) (k := 4) (v := .ref (S.2.2.1 h0 4)) (C := RX9) (T := TX9) (N := 67) C0 hK hP hm_h0 hk_h0 (by decide) rfl inlX9 (by decide) mW108 (fun _ h9 => h9) rfl dX9_termWhy_16 ?_
    obtain ⟨hmy_3, hky_3⟩ := ySh.f9_4 hSh _ hm_h0 hk_h0
    refine lv_bipush (v := 60) hx hb dX9_termWhy_19 (by decide) ?_
    refine lv_iload_n hx hb dX9_termWhy_21 rfl (lv_at hl 2 rfl) ?_
    refine lv_imul hx hb dX9_termWhy_22 ?_
    refine lv_topi (fun z_4 ez_4 => ?_)
    refine lv_iload_n hx hb dX9_termWhy_23 rfl (lv_at hl 3 rfl) ?_
    refine lv_iadd hx hb dX9_termWhy_24 ?_
    refine lv_topi (fun z_5 ez_5 => ?_)
    have F_6 := feq (rfl : (r_1 : Int32).toInt = (r_1 : Int32).toInt) (by decide +kernel : (0 : Int32).toInt = 0) c_2
    have T_8 : (z_4 : Int32).toInt = 60 * (p0 : Int32).toInt := tmul ez_4 (by decide +kernel : (60 : Int32).toInt = 60) (rfl : (p0 : Int32).toInt = (p0 : Int32).toInt) (by omega) (by omega)
    have T_7 : (z_5 : Int32).toInt = (z_4 : Int32).toInt + (p1 : Int32).toInt := tadd ez_5 (rfl : (z_4 : Int32).toInt = (z_4 : Int32).toInt) (rfl : (p1 : Int32).toInt = (p1 : Int32).toInt) (by omega) (by omega)
    refine yaldB C0 hK hP hmy_3 hky_3 (by decide) rfl 1 rfl (xinT 2400 rfl (by omega) (by omega)) dX9_termWhy_25 ?_
    refine lv_topi (fun z_9 ez_9 => ?_)
    refine lv_if_ne (tgt := 33) hx hb dX9_termWhy_26 (by decide) (fun c_10 => ?_) (fun c_10 => ?_)
    · refine lv_aload_n hx hb dX9_termWhy_33 rfl (lv_at hl 1 rfl) ?_
      refine yget (ci := 9) (k := 4) (v := .ref (S.2.2.1 h0 4)) (C := RX9) (T := TX9) (N := 67) C0 hK hP hm_h0 hk_h0 (by decide) rfl inlX9 (by decide) mW108 (fun _ h9 => h9) rfl dX9_termWhy_34 ?_
      refine lv_bipush (v := 60) hx hb dX9_termWhy_37 (by decide) ?_
      refine lv_iload_n hx hb dX9_termWhy_39 rfl (lv_at hl 2 rfl) ?_
      refine lv_imul hx hb dX9_termWhy_40 ?_
      refine lv_topi (fun z_11 ez_11 => ?_)
      refine lv_iload_n hx hb dX9_termWhy_41 rfl (lv_at hl 3 rfl) ?_
      refine lv_iadd hx hb dX9_termWhy_42 ?_
      refine lv_topi (fun z_12 ez_12 => ?_)
      have F_14 := fne (rfl : (z_9 : Int32).toInt = (z_9 : Int32).toInt) (by decide +kernel : (0 : Int32).toInt = 0) c_10
      have T_16 : (z_11 : Int32).toInt = 60 * (p0 : Int32).toInt := tmul ez_11 (by decide +kernel : (60 : Int32).toInt = 60) (rfl : (p0 : Int32).toInt = (p0 : Int32).toInt) (by omega) (by omega)
      have T_15 : (z_12 : Int32).toInt = (z_11 : Int32).toInt + (p1 : Int32).toInt := tadd ez_12 (rfl : (z_11 : Int32).toInt = (z_11 : Int32).toInt) (rfl : (p1 : Int32).toInt = (p1 : Int32).toInt) (by omega) (by omega)
      refine yaldB C0 hK hP hmy_3 hky_3 (by decide) rfl 1 rfl (xinT 2400 rfl (by omega) (by omega)) dX9_termWhy_43 ?_
      refine lv_topi (fun z_17 ez_17 => ?_)
      refine lv_iconst (v := 1) hx hb dX9_termWhy_44 (by decide) ?_
      refine lv_icmp_ne (tgt := 52) hx hb dX9_termWhy_45 (by decide) (fun c_18 => ?_) (fun c_18 => ?_)
      · refine lv_iconst (v := 0) hx hb dX9_termWhy_52 (by decide) ?_
        have F_20 := fne (rfl : (z_17 : Int32).toInt = (z_17 : Int32).toInt) (by decide +kernel : (1 : Int32).toInt = 1) c_18
        have hcez_9 : z_9 = yCe S d h0 4 p0 p1 := yCe_of (by omega) (by omega) (by omega) ez_9
        have hctz_9 : (z_9 : Int32).toInt = (yCe S d h0 4 p0 p1).toInt := congrArg Int32.toInt (hcez_9)
        have hcez_17 : z_17 = yCe S d h0 4 p0 p1 := yCe_of (by omega) (by omega) (by omega) ez_17
        have hctz_17 : (z_17 : Int32).toInt = (yCe S d h0 4 p0 p1).toInt := congrArg Int32.toInt (hcez_17)
        exact W.iret (v := 0) hx hb hr (fun t ht hW => ⟨0, rfl, (by have h0_ : (0 : Int32).toInt = 0 := (by decide +kernel); omega), ht⟩) (fun q hq => by cases hq) dX9_termWhy_53
      · refine lv_iconst (v := 3) hx hb dX9_termWhy_48 (by decide) ?_
        refine lv_goto (tgt := 53) hx hb dX9_termWhy_49 (by decide) ?_
        have F_22 := feq (rfl : (z_17 : Int32).toInt = (z_17 : Int32).toInt) (by decide +kernel : (1 : Int32).toInt = 1) c_18
        have hcez_9 : z_9 = yCe S d h0 4 p0 p1 := yCe_of (by omega) (by omega) (by omega) ez_9
        have hctz_9 : (z_9 : Int32).toInt = (yCe S d h0 4 p0 p1).toInt := congrArg Int32.toInt (hcez_9)
        have hcez_17 : z_17 = yCe S d h0 4 p0 p1 := yCe_of (by omega) (by omega) (by omega) ez_17
        have hctz_17 : (z_17 : Int32).toInt = (yCe S d h0 4 p0 p1).toInt := congrArg Int32.toInt (hcez_17)
        exact W.iret (v := 3) hx hb hr (fun t ht hW => ⟨3, rfl, (by have h0_ : (3 : Int32).toInt = 3 := (by decide +kernel); omega), ht⟩) (fun q hq => by cases hq) dX9_termWhy_53
    · refine lv_iconst (v := 2) hx hb dX9_termWhy_29 (by decide) ?_
      refine lv_goto (tgt := 53) hx hb dX9_termWhy_30 (by decide) ?_
      have F_24 := feq (rfl : (z_9 : Int32).toInt = (z_9 : Int32).toInt) (by decide +kernel : (0 : Int32).toInt = 0) c_10
      have hcez_9 : z_9 = yCe S d h0 4 p0 p1 := yCe_of (by omega) (by omega) (by omega) ez_9
      have hctz_9 : (z_9 : Int32).toInt = (yCe S d h0 4 p0 p1).toInt := congrArg Int32.toInt (hcez_9)
      exact W.iret (v := 2) hx hb hr (fun t ht hW => ⟨2, rfl, (by have h0_ : (2 : Int32).toInt = 2 := (by decide +kernel); omega), ht⟩) (fun q hq => by cases hq) dX9_termWhy_53
  · refine lv_iload_n hx hb dX9_termWhy_11 rfl (lv_at hl 0 rfl) ?_
    refine lv_goto (tgt := 53) hx hb dX9_termWhy_12 (by decide) ?_
    have F_25 := fne (rfl : (r_1 : Int32).toInt = (r_1 : Int32).toInt) (by decide +kernel : (0 : Int32).toInt = 0) c_2
    exact W.iret (v := r_1) hx hb hr (fun t ht hW => ⟨r_1, rfl, (by omega), ht⟩) (fun q hq => by cases hq) dX9_termWhy_53
theorem dX9_isKnown_0 : decode cX9_isKnown 0 = .ok (.iload_n 2, 1) := by decide +kernel
theorem dX9_isKnown_1 : decode cX9_isKnown 1 = .ok (.sipush 1440, 3) := by decide +kernel
theorem dX9_isKnown_4 : decode cX9_isKnown 4 = .ok (.irem, 1) := by decide +kernel
theorem dX9_isKnown_5 : decode cX9_isKnown 5 = .ok (.aload_n 0, 1) := by decide +kernel
theorem dX9_isKnown_6 : decode cX9_isKnown 6 = .ok (.getfield 40, 3) := by decide +kernel
theorem dX9_isKnown_9 : decode cX9_isKnown 9 = .ok (.bipush 90, 2) := by decide +kernel
theorem dX9_isKnown_11 : decode cX9_isKnown 11 = .ok (.iload_n 1, 1) := by decide +kernel
theorem dX9_isKnown_12 : decode cX9_isKnown 12 = .ok (.imul, 1) := by decide +kernel
theorem dX9_isKnown_13 : decode cX9_isKnown 13 = .ok (.iload_n 2, 1) := by decide +kernel
theorem dX9_isKnown_14 : decode cX9_isKnown 14 = .ok (.sipush 1440, 3) := by decide +kernel
theorem dX9_isKnown_17 : decode cX9_isKnown 17 = .ok (.idiv, 1) := by decide +kernel
theorem dX9_isKnown_18 : decode cX9_isKnown 18 = .ok (.iadd, 1) := by decide +kernel
theorem dX9_isKnown_19 : decode cX9_isKnown 19 = .ok (.saload, 1) := by decide +kernel
theorem dX9_isKnown_20 : decode cX9_isKnown 20 = .ok (.if_icmp .ge 25, 3) := by decide +kernel
theorem dX9_isKnown_23 : decode cX9_isKnown 23 = .ok (.aload_n 0, 1) := by decide +kernel
theorem dX9_isKnown_24 : decode cX9_isKnown 24 = .ok (.getfield 44, 3) := by decide +kernel
theorem dX9_isKnown_27 : decode cX9_isKnown 27 = .ok (.bipush 90, 2) := by decide +kernel
theorem dX9_isKnown_29 : decode cX9_isKnown 29 = .ok (.iload_n 1, 1) := by decide +kernel
theorem dX9_isKnown_30 : decode cX9_isKnown 30 = .ok (.imul, 1) := by decide +kernel
theorem dX9_isKnown_31 : decode cX9_isKnown 31 = .ok (.iload_n 2, 1) := by decide +kernel
theorem dX9_isKnown_32 : decode cX9_isKnown 32 = .ok (.sipush 1440, 3) := by decide +kernel
theorem dX9_isKnown_35 : decode cX9_isKnown 35 = .ok (.idiv, 1) := by decide +kernel
theorem dX9_isKnown_36 : decode cX9_isKnown 36 = .ok (.iadd, 1) := by decide +kernel
theorem dX9_isKnown_37 : decode cX9_isKnown 37 = .ok (.baload, 1) := by decide +kernel
theorem dX9_isKnown_38 : decode cX9_isKnown 38 = .ok (.ifCond .ne 7, 3) := by decide +kernel
theorem dX9_isKnown_41 : decode cX9_isKnown 41 = .ok (.iconst 1, 1) := by decide +kernel
theorem dX9_isKnown_42 : decode cX9_isKnown 42 = .ok (.goto 4, 3) := by decide +kernel
theorem dX9_isKnown_45 : decode cX9_isKnown 45 = .ok (.iconst 0, 1) := by decide +kernel
theorem dX9_isKnown_46 : decode cX9_isKnown 46 = .ok (.ireturn, 1) := by decide +kernel
set_option maxHeartbeats 4000000 in
set_option maxRecDepth 100000 in
theorem g_X9_isKnown (l : Launch) (G : xG) (S : yS) (d : yD) (h0 : Nat) (p0 : Int32) (p1 : Int32) (hSh : ySh S) (hm_h0 : h0 ∈ S.1) (hk_h0 : S.2.1 h0 = 9) (hr_p0 : 0 ≤ (p0 : Int32).toInt ∧ (p0 : Int32).toInt ≤ 7) (hr_p1 : -1 ≤ (p1 : Int32).toInt ∧ (p1 : Int32).toInt ≤ 129599) : xRi l G yX9_isKnown cX9_isKnown 3 (some .boolean) 0 0 [.ref h0, .int p0, .int p1] (yW G S d) (fun r => True) := by
  intro sz
  refine xstart (by decide) (Nat.le_of_ble_eq_true rfl) (fun p e s m args below meth c ls C0 hr hlocks hin hsz hP hK hD hN hl => ?_)
  obtain ⟨hx, hb, hml, hown, htl⟩ := id C0
  have hl : lv_has ls 3 [(0, .ref h0), (1, .int p0), (2, .int p1)] := hl
  refine lv_iload_n hx hb dX9_isKnown_0 rfl (lv_at hl 2 rfl) ?_
  refine lv_sipush (v := 1440) hx hb dX9_isKnown_1 (by decide) ?_
  refine lv_irem hx hb dX9_isKnown_4 (by decide) ?_
  refine lv_topi (fun z_1 ez_1 => ?_)
  refine lv_aload_n hx hb dX9_isKnown_5 rfl (lv_at hl 0 rfl) ?_
  refine yget (ci := 9) (k := 12) (v := .ref (S.2.2.1 h0 12)) (C := RX9) (T := TX9) (N := 67) C0 hK hP hm_h0 hk_h0 (by decide) rfl inlX9 (by decide) mW118 (fun _ h9 => h9) rfl dX9_isKnown_6 ?_
  obtain ⟨hmy_2, hky_2⟩ := ySh.f9_12 hSh _ hm_h0 hk_h0
  refine lv_bipush (v := 90) hx hb dX9_isKnown_9 (by decide) ?_
  refine lv_iload_n hx hb dX9_isKnown_11 rfl (lv_at hl 1 rfl) ?_
  refine lv_imul hx hb dX9_isKnown_12 ?_
  refine lv_topi (fun z_3 ez_3 => ?_)
  refine lv_iload_n hx hb dX9_isKnown_13 rfl (lv_at hl 2 rfl) ?_
  refine lv_sipush (v := 1440) hx hb dX9_isKnown_14 (by decide) ?_
  refine lv_idiv hx hb dX9_isKnown_17 (by decide) ?_
  refine lv_topi (fun z_4 ez_4 => ?_)
  refine lv_iadd hx hb dX9_isKnown_18 ?_
  refine lv_topi (fun z_5 ez_5 => ?_)
  have T_7 : (z_3 : Int32).toInt = 90 * (p0 : Int32).toInt := tmul ez_3 (by decide +kernel : (90 : Int32).toInt = 90) (rfl : (p0 : Int32).toInt = (p0 : Int32).toInt) (by omega) (by omega)
  have T_8 := tdivc ez_4 (rfl : (p1 : Int32).toInt = (p1 : Int32).toInt) (by decide +kernel : (1440 : Int32).toInt = 1440) (by omega) (by omega)
  have T_6 : (z_5 : Int32).toInt = (z_3 : Int32).toInt + (z_4 : Int32).toInt := tadd ez_5 (rfl : (z_3 : Int32).toInt = (z_3 : Int32).toInt) (rfl : (z_4 : Int32).toInt = (z_4 : Int32).toInt) (by omega) (by omega)
  refine yaldS C0 hK hP hmy_2 hky_2 (by decide) rfl 2 rfl (xinT 720 rfl (by omega) (by omega)) dX9_isKnown_19 ?_
  refine lv_topi (fun z_9 ez_9 => ?_)
  refine lv_icmp_ge (tgt := 45) hx hb dX9_isKnown_20 (by decide) (fun c_10 => ?_) (fun c_10 => ?_)
  · refine lv_iconst (v := 0) hx hb dX9_isKnown_45 (by decide) ?_
    exact W.zret (v := 0) (ty := .boolean) hx hb hr rfl (fun t ht hW => ⟨0, rfl, trivial, ht⟩) (fun q hq => by cases hq) dX9_isKnown_46
  · refine lv_aload_n hx hb dX9_isKnown_23 rfl (lv_at hl 0 rfl) ?_
    refine yget (ci := 9) (k := 13) (v := .ref (S.2.2.1 h0 13)) (C := RX9) (T := TX9) (N := 67) C0 hK hP hm_h0 hk_h0 (by decide) rfl inlX9 (by decide) mW120 (fun _ h9 => h9) rfl dX9_isKnown_24 ?_
    obtain ⟨hmy_11, hky_11⟩ := ySh.f9_13 hSh _ hm_h0 hk_h0
    refine lv_bipush (v := 90) hx hb dX9_isKnown_27 (by decide) ?_
    refine lv_iload_n hx hb dX9_isKnown_29 rfl (lv_at hl 1 rfl) ?_
    refine lv_imul hx hb dX9_isKnown_30 ?_
    refine lv_topi (fun z_12 ez_12 => ?_)
    refine lv_iload_n hx hb dX9_isKnown_31 rfl (lv_at hl 2 rfl) ?_
    refine lv_sipush (v := 1440) hx hb dX9_isKnown_32 (by decide) ?_
    refine lv_idiv hx hb dX9_isKnown_35 (by decide) ?_
    refine lv_topi (fun z_13 ez_13 => ?_)
    refine lv_iadd hx hb dX9_isKnown_36 ?_
    refine lv_topi (fun z_14 ez_14 => ?_)
    have T_15 := tremc ez_1 (rfl : (p1 : Int32).toInt = (p1 : Int32).toInt) (by decide +kernel : (1440 : Int32).toInt = 1440) (by omega) (by omega)
    have F_17 := fnle (rfl : (z_9 : Int32).toInt = (z_9 : Int32).toInt) (rfl : (z_1 : Int32).toInt = (z_1 : Int32).toInt) c_10
    have T_19 : (z_12 : Int32).toInt = 90 * (p0 : Int32).toInt := tmul ez_12 (by decide +kernel : (90 : Int32).toInt = 90) (rfl : (p0 : Int32).toInt = (p0 : Int32).toInt) (by omega) (by omega)
    have T_20 := tdivc ez_13 (rfl : (p1 : Int32).toInt = (p1 : Int32).toInt) (by decide +kernel : (1440 : Int32).toInt = 1440) (by omega) (by omega)
    have T_18 : (z_14 : Int32).toInt = (z_12 : Int32).toInt + (z_13 : Int32).toInt := tadd ez_14 (rfl : (z_12 : Int32).toInt = (z_12 : Int32).toInt) (rfl : (z_13 : Int32).toInt = (z_13 : Int32).toInt) (by omega) (by omega)
    refine yaldZ C0 hK hP hmy_11 hky_11 (by decide) rfl 3 rfl (xinT 720 rfl (by omega) (by omega)) dX9_isKnown_37 ?_
    refine lv_topi (fun z_21 ez_21 => ?_)
    refine lv_if_ne (tgt := 45) hx hb dX9_isKnown_38 (by decide) (fun c_22 => ?_) (fun c_22 => ?_)
    · refine lv_iconst (v := 0) hx hb dX9_isKnown_45 (by decide) ?_
      exact W.zret (v := 0) (ty := .boolean) hx hb hr rfl (fun t ht hW => ⟨0, rfl, trivial, ht⟩) (fun q hq => by cases hq) dX9_isKnown_46
    · refine lv_iconst (v := 1) hx hb dX9_isKnown_41 (by decide) ?_
      refine lv_goto (tgt := 46) hx hb dX9_isKnown_42 (by decide) ?_
      exact W.zret (v := 1) (ty := .boolean) hx hb hr rfl (fun t ht hW => ⟨1, rfl, trivial, ht⟩) (fun q hq => by cases hq) dX9_isKnown_46
