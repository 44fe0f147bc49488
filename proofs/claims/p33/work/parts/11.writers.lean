theorem dX8_slide_0 : decode cX8_slide 0 = .ok (.iload_n 1, 1) := by decide +kernel
theorem dX8_slide_1 : decode cX8_slide 1 = .ok (.ifCond .lt 30, 3) := by decide +kernel
theorem dX8_slide_4 : decode cX8_slide 4 = .ok (.iload_n 3, 1) := by decide +kernel
theorem dX8_slide_5 : decode cX8_slide 5 = .ok (.ifCond .lt 26, 3) := by decide +kernel
theorem dX8_slide_8 : decode cX8_slide 8 = .ok (.iload 4, 2) := by decide +kernel
theorem dX8_slide_10 : decode cX8_slide 10 = .ok (.ifCond .le 21, 3) := by decide +kernel
theorem dX8_slide_13 : decode cX8_slide 13 = .ok (.iload_n 1, 1) := by decide +kernel
theorem dX8_slide_14 : decode cX8_slide 14 = .ok (.aload_n 0, 1) := by decide +kernel
theorem dX8_slide_15 : decode cX8_slide 15 = .ok (.arraylength, 1) := by decide +kernel
theorem dX8_slide_16 : decode cX8_slide 16 = .ok (.iload 4, 2) := by decide +kernel
theorem dX8_slide_18 : decode cX8_slide 18 = .ok (.isub, 1) := by decide +kernel
theorem dX8_slide_19 : decode cX8_slide 19 = .ok (.if_icmp .gt 12, 3) := by decide +kernel
theorem dX8_slide_22 : decode cX8_slide 22 = .ok (.iload_n 3, 1) := by decide +kernel
theorem dX8_slide_23 : decode cX8_slide 23 = .ok (.aload_n 2, 1) := by decide +kernel
theorem dX8_slide_24 : decode cX8_slide 24 = .ok (.arraylength, 1) := by decide +kernel
theorem dX8_slide_25 : decode cX8_slide 25 = .ok (.iload 4, 2) := by decide +kernel
theorem dX8_slide_27 : decode cX8_slide 27 = .ok (.isub, 1) := by decide +kernel
theorem dX8_slide_28 : decode cX8_slide 28 = .ok (.if_icmp .le 4, 3) := by decide +kernel
theorem dX8_slide_31 : decode cX8_slide 31 = .ok (.return_, 1) := by decide +kernel
theorem dX8_slide_32 : decode cX8_slide 32 = .ok (.aload_n 0, 1) := by decide +kernel
theorem dX8_slide_33 : decode cX8_slide 33 = .ok (.iload_n 1, 1) := by decide +kernel
theorem dX8_slide_34 : decode cX8_slide 34 = .ok (.aload_n 2, 1) := by decide +kernel
theorem dX8_slide_35 : decode cX8_slide 35 = .ok (.iload_n 3, 1) := by decide +kernel
theorem dX8_slide_36 : decode cX8_slide 36 = .ok (.iload 4, 2) := by decide +kernel
theorem dX8_slide_38 : decode cX8_slide 38 = .ok (.invokestatic 358, 3) := by decide +kernel
theorem dX8_slide_41 : decode cX8_slide 41 = .ok (.return_, 1) := by decide +kernel
set_option maxHeartbeats 4000000 in
set_option maxRecDepth 100000 in
theorem g_X8_slide (l : Launch) (G : xG) (S : yS) (d : yD) (a0 : Nat) (c0 : Nat) (p0 : Int32) (a1 : Nat) (c1 : Nat) (p1 : Int32) (p2 : Int32) (hPo : yPo S d) (hm_a0 : a0 ∈ S.1) (hk_a0 : S.2.1 a0 = c0) (hm_a1 : a1 ∈ S.1) (hk_a1 : S.2.1 a1 = c1) (hc_c0 : ¬ c0 < 10) (h0_c0 : ykd c0 = 0) (ht_c0 : yti c0 = 0) (hn_c0 : yln c0 < 2 ^ 31) (hc_c1 : ¬ c1 < 10) (h0_c1 : ykd c1 = 0) (ht_c1 : yti c1 = 0) (hn_c1 : yln c1 < 2 ^ 31) : xWv l G yX8_slide cX8_slide 5 none 1 18 0 0 [.ref a0, .int p0, .ref a1, .int p1, .int p2] (yW G S d) (fun u : yD => yAg S [c1] d u ∧ (yPo S d → yPo S u) ∧ (u = ycs d a1 (xsl (yln c0) (yln c1) (d.2.2.2.1 a0) (d.2.2.2.1 a1) p0 p1 p2))) (fun u => yW G S u) := by
  intro sz
  refine xstart (by decide) (Nat.le_of_ble_eq_true rfl) (fun p e s m args below meth c ls C0 hr hlocks hin hsz hP hK hD hN hl => ?_)
  obtain ⟨hx, hb, hml, hown, htl⟩ := id C0
  subst hsz
  have hD := hD.self (sz := s.heap.size)
  generalize hAe : va_A (yW G S d) s.heap.size = A at hD ⊢
  have hA : ∀ q : Nat, s.heap.size ≤ q → A q := fun q h => by rw [← hAe]; exact Or.inr h
  have hS : va_S A s.heap s.heap [] := va_S.rf
  have hg0 : yAg S [c1] d d := yAg.rf
  have hl : lv_has ls 5 [(0, .ref a0), (1, .int p0), (2, .ref a1), (3, .int p1), (4, .int p2)] := hl
  refine lv_iload_n hx hb dX8_slide_0 rfl (lv_at hl 1 rfl) ?_
  refine lv_if_lt (tgt := 31) hx hb dX8_slide_1 (by decide) (fun c_1 => ?_) (fun c_1 => ?_)
  · exact W.vret hx hb hr (fun t ht hW => ⟨⟨d, rfl, ⟨hg0, (fun _ => hPo), (by unfold xsl; rw [if_pos c_1]; exact ycs_self.symm)⟩, by rw [ht]; exact hP, hD⟩, hS.F ht⟩) hS.2.2 dX8_slide_31
  · refine lv_iload_n hx hb dX8_slide_4 rfl (lv_at hl 3 rfl) ?_
    refine lv_if_lt (tgt := 31) hx hb dX8_slide_5 (by decide) (fun c_2 => ?_) (fun c_2 => ?_)
    · exact W.vret hx hb hr (fun t ht hW => ⟨⟨d, rfl, ⟨hg0, (fun _ => hPo), (by unfold xsl; rw [if_neg c_1, if_pos c_2]; exact ycs_self.symm)⟩, by rw [ht]; exact hP, hD⟩, hS.F ht⟩) hS.2.2 dX8_slide_31
    · refine lv_iload hx hb dX8_slide_8 (lv_at hl 4 rfl) ?_
      refine lv_if_le (tgt := 31) hx hb dX8_slide_10 (by decide) (fun c_3 => ?_) (fun c_3 => ?_)
      · exact W.vret hx hb hr (fun t ht hW => ⟨⟨d, rfl, ⟨hg0, (fun _ => hPo), (by unfold xsl; rw [if_neg c_1, if_neg c_2, if_pos c_3]; exact ycs_self.symm)⟩, by rw [ht]; exact hP, hD⟩, hS.F ht⟩) hS.2.2 dX8_slide_31
      · refine lv_iload_n hx hb dX8_slide_13 rfl (lv_at hl 1 rfl) ?_
        refine lv_aload_n hx hb dX8_slide_14 rfl (lv_at hl 0 rfl) ?_
        refine ylen (v := nI (yln c0)) (ty := .int) C0 hK hP hm_a0 hk_a0 hc_c0 0 (by show some _ = some _; rw [ht_c0]) rfl dX8_slide_15 ?_
        refine lv_iload hx hb dX8_slide_16 (lv_at hl 4 rfl) ?_
        refine lv_isub hx hb dX8_slide_18 ?_
        refine lv_topi (fun z_4 ez_4 => ?_)
        refine lv_icmp_gt (tgt := 31) hx hb dX8_slide_19 (by decide) (fun c_5 => ?_) (fun c_5 => ?_)
        · exact W.vret hx hb hr (fun t ht hW => ⟨⟨d, rfl, ⟨hg0, (fun _ => hPo), (by unfold xsl; rw [if_neg c_1, if_neg c_2, if_neg c_3, if_pos (by have h := c_5; rw [ez_4] at h; exact h)]; exact ycs_self.symm)⟩, by rw [ht]; exact hP, hD⟩, hS.F ht⟩) hS.2.2 dX8_slide_31
        · refine lv_iload_n hx hb dX8_slide_22 rfl (lv_at hl 3 rfl) ?_
          refine lv_aload_n hx hb dX8_slide_23 rfl (lv_at hl 2 rfl) ?_
          refine ylen (v := nI (yln c1)) (ty := .int) C0 hK hP hm_a1 hk_a1 hc_c1 0 (by show some _ = some _; rw [ht_c1]) rfl dX8_slide_24 ?_
          refine lv_iload hx hb dX8_slide_25 (lv_at hl 4 rfl) ?_
          refine lv_isub hx hb dX8_slide_27 ?_
          refine lv_topi (fun z_6 ez_6 => ?_)
          refine lv_icmp_le (tgt := 32) hx hb dX8_slide_28 (by decide) (fun c_7 => ?_) (fun c_7 => ?_)
          · refine lv_aload_n hx hb dX8_slide_32 rfl (lv_at hl 0 rfl) ?_
            refine lv_iload_n hx hb dX8_slide_33 rfl (lv_at hl 1 rfl) ?_
            refine lv_aload_n hx hb dX8_slide_34 rfl (lv_at hl 2 rfl) ?_
            refine lv_iload_n hx hb dX8_slide_35 rfl (lv_at hl 3 rfl) ?_
            refine lv_iload hx hb dX8_slide_36 (lv_at hl 4 rfl) ?_
            obtain ⟨qs, hqs⟩ := yaddr (G := G) (d := d) hm_a0 hk_a0 hc_c0 h0_c0
            obtain ⟨qd, hqd⟩ := yaddr (G := G) (d := d) hm_a1 hk_a1 hc_c1 h0_c1
            have hDw := hD
            refine va_copyi hx hb (by rw [hml]; exact hl.1.symm) hown (htl (.methodLink RX8 358 arraycopyName) mW333) (htl (.native arraycopyName) mW334) (htl (.static arraycopyName) mW335) (htl (.initialized "java/lang/System") mW336) hK hP hD hS qs qd 0 0 hqs hqd (by show some _ = some _; rw [ht_c0]) (by show some _ = some _; rw [ht_c1]) rfl c_1 c_2 (xs0 c_3) (xslo hn_c0 c_1 c_3 (by have h := c_5; rw [ez_4] at h; exact h)) (xslo hn_c1 c_2 c_3 (by have h := c_7; rw [ez_6] at h; exact Int32.not_lt.mpr h)) (fun _ _ => rfl) (Nat.le_of_ble_eq_true rfl) (Nat.le_of_ble_eq_true rfl) dX8_slide_38 (fun H locs hP hD hS => ?_)
            rw [ysetA (e0 := .inr (0, [])) hDw hm_a1 hk_a1 hc_c1 h0_c1 hqd] at hP hD
            obtain ⟨d_8, ed_8⟩ : ∃ z : yD, z = ycs d a1 (va_cpy (d.2.2.2.1 a0) (d.2.2.2.1 a1) p0.toNatClampNeg p1.toNatClampNeg p2.toNatClampNeg) := ⟨_, rfl⟩
            rw [← ed_8] at hP hD
            have hgd_8 : yAg S [c1] d d_8 := by rw [ed_8]; exact yAg.cs hg0 (by rw [hk_a1]; simp)
            have hPod_8 : yPo S d_8 := by rw [ed_8]; exact hPo
            exact W.vret hx hb hr (fun t ht hW => ⟨⟨d_8, rfl, ⟨hgd_8, (fun _ => hPod_8), (by unfold xsl; rw [if_neg c_1, if_neg c_2, if_neg c_3, if_neg (by have h := c_5; rw [ez_4] at h; exact h), if_neg (by have h := c_7; rw [ez_6] at h; exact Int32.not_lt.mpr h)]; exact ed_8)⟩, by rw [ht]; exact hP, hD⟩, hS.F ht⟩) hS.2.2 dX8_slide_41
          · exact W.vret hx hb hr (fun t ht hW => ⟨⟨d, rfl, ⟨hg0, (fun _ => hPo), (by unfold xsl; rw [if_neg c_1, if_neg c_2, if_neg c_3, if_neg (by have h := c_5; rw [ez_4] at h; exact h), if_pos (by have h := c_7; rw [ez_6] at h; exact Int32.not_le.mp h)]; exact ycs_self.symm)⟩, by rw [ht]; exact hP, hD⟩, hS.F ht⟩) hS.2.2 dX8_slide_31
theorem dX2_add_0 : decode cX2_add 0 = .ok (.aload_n 0, 1) := by decide +kernel
theorem dX2_add_1 : decode cX2_add 1 = .ok (.iload_n 1, 1) := by decide +kernel
theorem dX2_add_2 : decode cX2_add 2 = .ok (.iload_n 2, 1) := by decide +kernel
theorem dX2_add_3 : decode cX2_add 3 = .ok (.iconst 1, 1) := by decide +kernel
theorem dX2_add_4 : decode cX2_add 4 = .ok (.iadd, 1) := by decide +kernel
theorem dX2_add_5 : decode cX2_add 5 = .ok (.invokevirtual 31, 3) := by decide +kernel
theorem dX2_add_8 : decode cX2_add 8 = .ok (.istore 4, 2) := by decide +kernel
theorem dX2_add_10 : decode cX2_add 10 = .ok (.aload_n 0, 1) := by decide +kernel
theorem dX2_add_11 : decode cX2_add 11 = .ok (.getfield 9, 3) := by decide +kernel
theorem dX2_add_14 : decode cX2_add 14 = .ok (.iload 4, 2) := by decide +kernel
theorem dX2_add_16 : decode cX2_add 16 = .ok (.aload_n 0, 1) := by decide +kernel
theorem dX2_add_17 : decode cX2_add 17 = .ok (.getfield 9, 3) := by decide +kernel
theorem dX2_add_20 : decode cX2_add 20 = .ok (.iload 4, 2) := by decide +kernel
theorem dX2_add_22 : decode cX2_add 22 = .ok (.iconst 1, 1) := by decide +kernel
theorem dX2_add_23 : decode cX2_add 23 = .ok (.iadd, 1) := by decide +kernel
theorem dX2_add_24 : decode cX2_add 24 = .ok (.aload_n 0, 1) := by decide +kernel
theorem dX2_add_25 : decode cX2_add 25 = .ok (.getfield 27, 3) := by decide +kernel
theorem dX2_add_28 : decode cX2_add 28 = .ok (.iload 4, 2) := by decide +kernel
theorem dX2_add_30 : decode cX2_add 30 = .ok (.isub, 1) := by decide +kernel
theorem dX2_add_31 : decode cX2_add 31 = .ok (.invokestatic 35, 3) := by decide +kernel
theorem dX2_add_34 : decode cX2_add 34 = .ok (.aload_n 0, 1) := by decide +kernel
theorem dX2_add_35 : decode cX2_add 35 = .ok (.getfield 9, 3) := by decide +kernel
theorem dX2_add_38 : decode cX2_add 38 = .ok (.iload 4, 2) := by decide +kernel
theorem dX2_add_40 : decode cX2_add 40 = .ok (.iload_n 1, 1) := by decide +kernel
theorem dX2_add_41 : decode cX2_add 41 = .ok (.iload_n 2, 1) := by decide +kernel
theorem dX2_add_42 : decode cX2_add 42 = .ok (.iload_n 3, 1) := by decide +kernel
theorem dX2_add_43 : decode cX2_add 43 = .ok (.invokestatic 23, 3) := by decide +kernel
theorem dX2_add_46 : decode cX2_add 46 = .ok (.invokestatic 39, 3) := by decide +kernel
theorem dX2_add_49 : decode cX2_add 49 = .ok (.aload_n 0, 1) := by decide +kernel
theorem dX2_add_50 : decode cX2_add 50 = .ok (.dup, 1) := by decide +kernel
theorem dX2_add_51 : decode cX2_add 51 = .ok (.getfield 27, 3) := by decide +kernel
theorem dX2_add_54 : decode cX2_add 54 = .ok (.iconst 1, 1) := by decide +kernel
theorem dX2_add_55 : decode cX2_add 55 = .ok (.iadd, 1) := by decide +kernel
theorem dX2_add_56 : decode cX2_add 56 = .ok (.putfield 27, 3) := by decide +kernel
theorem dX2_add_59 : decode cX2_add 59 = .ok (.return_, 1) := by decide +kernel
set_option maxHeartbeats 4000000 in
set_option maxRecDepth 100000 in
theorem g_X2_add (l : Launch) (G : xG) (S : yS) (d : yD) (h0 : Nat) (p0 : Int32) (p1 : Int32) (p2 : Int32) (hSh : ySh S) (hPo : yPo S d) (hm_h0 : h0 ∈ S.1) (hk_h0 : S.2.1 h0 = 2) : xWv l G yX2_add cX2_add 5 none 2 49 0 0 [.ref h0, .int p0, .int p1, .int p2] (yW G S d) (fun u : yD => yAg S [2, 16] d u ∧ (yPo S d → yPo S u) ∧ (True)) (fun u => yW G S u) := by
  intro sz
  refine xstart (by decide) (Nat.le_of_ble_eq_true rfl) (fun p e s m args below meth c ls C0 hr hlocks hin hsz hP hK hD hN hl => ?_)
  obtain ⟨hx, hb, hml, hown, htl⟩ := id C0
  subst hsz
  have hD := hD.self (sz := s.heap.size)
  generalize hAe : va_A (yW G S d) s.heap.size = A at hD ⊢
  have hA : ∀ q : Nat, s.heap.size ≤ q → A q := fun q h => by rw [← hAe]; exact Or.inr h
  have hS : va_S A s.heap s.heap [] := va_S.rf
  have hg0 : yAg S [2, 16] d d := yAg.rf
  have hl : lv_has ls 5 [(0, .ref h0), (1, .int p0), (2, .int p1), (3, .int p2)] := hl
  refine lv_aload_n hx hb dX2_add_0 rfl (lv_at hl 0 rfl) ?_
  refine lv_iload_n hx hb dX2_add_1 rfl (lv_at hl 1 rfl) ?_
  refine lv_iload_n hx hb dX2_add_2 rfl (lv_at hl 2 rfl) ?_
  refine lv_iconst (v := 1) hx hb dX2_add_3 (by decide) ?_
  refine lv_iadd hx hb dX2_add_4 ?_
  refine lv_topi (fun z_1 ez_1 => ?_)
  refine yVri (As := [.int p0, .int z_1]) (rest := []) C0 (g_X2_indexOf l G S d h0 p0 z_1 hSh hm_h0 hk_h0) ok_X2_indexOf (mW323 : Cond.methodLink RX2 31 yX2_indexOf ∈ wsT) ⟨Nat.le_of_ble_eq_true rfl, Nat.le_of_ble_eq_true rfl⟩ hP hD hK hN hm_h0 hk_h0 (by decide) rfl rfl rfl hl.1 rfl (Nat.le_of_ble_eq_true rfl) ⟨Nat.le_of_ble_eq_true rfl, Nat.le_of_ble_eq_true rfl⟩ dX2_add_5 (fun r_2 hr_2 => ?_)
  refine lv_istore (lv' := [(4, .int r_2), (0, .ref h0), (1, .int p0), (2, .int p1), (3, .int p2)]) hx hb dX2_add_8 hl (by decide) rfl (fun ls hl => ?_)
  refine lv_aload_n hx hb dX2_add_10 rfl (lv_at hl 1 rfl) ?_
  refine yget (ci := 2) (k := 0) (v := .ref (S.2.2.1 h0 0)) (C := RX2) (T := TX2) (N := 3) C0 hK hP hm_h0 hk_h0 (by decide) rfl inlX2 (by decide) mW62 (fun _ h9 => h9) rfl dX2_add_11 ?_
  obtain ⟨hmy_3, hky_3⟩ := ySh.f2_0 hSh _ hm_h0 hk_h0
  refine lv_iload hx hb dX2_add_14 (lv_at hl 0 rfl) ?_
  refine lv_aload_n hx hb dX2_add_16 rfl (lv_at hl 1 rfl) ?_
  refine yget (ci := 2) (k := 0) (v := .ref (S.2.2.1 h0 0)) (C := RX2) (T := TX2) (N := 3) C0 hK hP hm_h0 hk_h0 (by decide) rfl inlX2 (by decide) mW62 (fun _ h9 => h9) rfl dX2_add_17 ?_
  refine lv_iload hx hb dX2_add_20 (lv_at hl 0 rfl) ?_
  refine lv_iconst (v := 1) hx hb dX2_add_22 (by decide) ?_
  refine lv_iadd hx hb dX2_add_23 ?_
  refine lv_topi (fun z_4 ez_4 => ?_)
  refine lv_aload_n hx hb dX2_add_24 rfl (lv_at hl 1 rfl) ?_
  refine yget (ci := 2) (k := 2) (v := .int (d.1 h0 2)) (C := RX2) (T := TX2) (N := 3) C0 hK hP hm_h0 hk_h0 (by decide) rfl inlX2 (by decide) mW322 (fun _ h9 => h9) rfl dX2_add_25 ?_
  refine lv_topi (fun z_5 ez_5 => ?_)
  refine lv_iload hx hb dX2_add_28 (lv_at hl 0 rfl) ?_
  refine lv_isub hx hb dX2_add_30 ?_
  refine lv_topi (fun z_6 ez_6 => ?_)
  refine ySNwv (As := [.ref (S.2.2.1 h0 0), .int r_2, .ref (S.2.2.1 h0 0), .int z_4, .int z_6]) (rest := []) C0 (g_X8_slide l G S d (S.2.2.1 h0 0) 16 r_2 (S.2.2.1 h0 0) 16 z_4 z_6 hPo hmy_3 hky_3 hmy_3 hky_3 (by decide) rfl rfl (by decide) (by decide) rfl rfl (by decide)) ok_X8_slide (xN.n6 hN) ⟨Nat.le_of_ble_eq_true rfl, Nat.le_of_ble_eq_true rfl⟩ hP hD hS hA hK hN rfl hl.1 rfl (Nat.le_of_ble_eq_true rfl) ⟨Nat.le_of_ble_eq_true rfl, Nat.le_of_ble_eq_true rfl⟩ dX2_add_31 (fun d_8 H locs hr_7 hP hD hS => ?_)
  obtain ⟨hgad_8, hpad_8, hxd_8⟩ := hr_7
  have hgd_8 : yAg S [2, 16] d d_8 := yAg.tr hg0 hgad_8 (by first | decide | exact fun _ h => h)
  have hPod_8 : yPo S d_8 := hpad_8 hPo
  refine lv_aload_n hx hb dX2_add_34 rfl (lv_at hl 1 rfl) ?_
  refine yget (ci := 2) (k := 0) (v := .ref (S.2.2.1 h0 0)) (C := RX2) (T := TX2) (N := 3) C0 hK hP hm_h0 hk_h0 (by decide) rfl inlX2 (by decide) mW62 (fun _ h9 => h9) rfl dX2_add_35 ?_
  refine lv_iload hx hb dX2_add_38 (lv_at hl 0 rfl) ?_
  refine lv_iload_n hx hb dX2_add_40 rfl (lv_at hl 2 rfl) ?_
  refine lv_iload_n hx hb dX2_add_41 rfl (lv_at hl 3 rfl) ?_
  refine lv_iload_n hx hb dX2_add_42 rfl (lv_at hl 4 rfl) ?_
  refine ySri (As := [.int p0, .int p1, .int p2]) (rest := [.int r_2, .ref (S.2.2.1 h0 0)]) C0 (g_X2_keyOf l G S d_8 p0 p1 p2 ) ok_X2_keyOf (mW327 : Cond.methodLink RX2 23 yX2_keyOf ∈ wsT) ⟨Nat.le_of_ble_eq_true rfl, Nat.le_of_ble_eq_true rfl⟩ hP hD hK hN rfl hl.1 rfl (Nat.le_of_ble_eq_true rfl) ⟨Nat.le_of_ble_eq_true rfl, Nat.le_of_ble_eq_true rfl⟩ dX2_add_43 (fun r_9 hr_9 => ?_)
  refine ySNwv (As := [.ref (S.2.2.1 h0 0), .int r_2, .int r_9]) (rest := []) C0 (g_X8_put l G S d_8 (S.2.2.1 h0 0) 16 r_2 r_9 hPod_8 hmy_3 hky_3 (by decide) rfl rfl (by decide)) ok_X8_put (xN.n8 hN) ⟨Nat.le_of_ble_eq_true rfl, Nat.le_of_ble_eq_true rfl⟩ hP hD hS hA hK hN rfl hl.1 rfl (Nat.le_of_ble_eq_true rfl) ⟨Nat.le_of_ble_eq_true rfl, Nat.le_of_ble_eq_true rfl⟩ dX2_add_46 (fun d_11 H locs hr_10 hP hD hS => ?_)
  obtain ⟨hgad_11, hpad_11, hxd_11⟩ := hr_10
  have hgd_11 : yAg S [2, 16] d d_11 := yAg.tr hgd_8 hgad_11 (by first | decide | exact fun _ h => h)
  have hPod_11 : yPo S d_11 := hpad_11 hPod_8
  refine lv_aload_n hx hb dX2_add_49 rfl (lv_at hl 1 rfl) ?_
  refine lv_dup hx hb dX2_add_50 rfl ?_
  refine yget (ci := 2) (k := 2) (v := .int (d_11.1 h0 2)) (C := RX2) (T := TX2) (N := 3) C0 hK hP hm_h0 hk_h0 (by decide) rfl inlX2 (by decide) mW322 (fun _ h9 => h9) rfl dX2_add_51 ?_
  refine lv_topi (fun z_12 ez_12 => ?_)
  refine lv_iconst (v := 1) hx hb dX2_add_54 (by decide) ?_
  refine lv_iadd hx hb dX2_add_55 ?_
  refine lv_topi (fun z_13 ez_13 => ?_)
  refine yputI (ci := 2) (k := 2) (ty := .int) (C := RX2) (T := TX2) (N := 3) C0 hK hP hD hS hm_h0 hk_h0 (by decide) rfl inlX2 tyX2 tyX2_ok nmX2 (by decide) mW322 (fun _ h9 => h9) rfl (by decide +kernel) rfl rfl (Nat.le_of_ble_eq_true rfl) ysi_2_2 dX2_add_56 (fun H locs hP hD hS => ?_)
  obtain ⟨d_14, ed_14⟩ : ∃ z : yD, z = yi d_11 h0 2 z_13 := ⟨_, rfl⟩
  rw [← ed_14] at hP hD
  have hgd_14 : yAg S [2, 16] d d_14 := by rw [ed_14]; exact yAg.i hgd_11 (by rw [hk_h0]; decide)
  have hPod_14 : yPo S d_14 := by rw [ed_14]; exact yPo.i hPod_11 hk_h0 (Or.inl rfl)
  exact W.vret hx hb hr (fun t ht hW => ⟨⟨d_14, rfl, ⟨hgd_14, (fun _ => hPod_14), trivial⟩, by rw [ht]; exact hP, hD⟩, hS.F ht⟩) hS.2.2 dX2_add_59
theorem dX2_remove_0 : decode cX2_remove 0 = .ok (.aload_n 0, 1) := by decide +kernel
theorem dX2_remove_1 : decode cX2_remove 1 = .ok (.iload_n 1, 1) := by decide +kernel
theorem dX2_remove_2 : decode cX2_remove 2 = .ok (.iload_n 2, 1) := by decide +kernel
theorem dX2_remove_3 : decode cX2_remove 3 = .ok (.invokevirtual 31, 3) := by decide +kernel
theorem dX2_remove_6 : decode cX2_remove 6 = .ok (.istore 4, 2) := by decide +kernel
theorem dX2_remove_8 : decode cX2_remove 8 = .ok (.aload_n 0, 1) := by decide +kernel
theorem dX2_remove_9 : decode cX2_remove 9 = .ok (.iload_n 1, 1) := by decide +kernel
theorem dX2_remove_10 : decode cX2_remove 10 = .ok (.iload_n 2, 1) := by decide +kernel
theorem dX2_remove_11 : decode cX2_remove 11 = .ok (.iload_n 3, 1) := by decide +kernel
theorem dX2_remove_12 : decode cX2_remove 12 = .ok (.iadd, 1) := by decide +kernel
theorem dX2_remove_13 : decode cX2_remove 13 = .ok (.invokevirtual 31, 3) := by decide +kernel
theorem dX2_remove_16 : decode cX2_remove 16 = .ok (.istore 5, 2) := by decide +kernel
theorem dX2_remove_18 : decode cX2_remove 18 = .ok (.aload_n 0, 1) := by decide +kernel
theorem dX2_remove_19 : decode cX2_remove 19 = .ok (.getfield 9, 3) := by decide +kernel
theorem dX2_remove_22 : decode cX2_remove 22 = .ok (.iload 5, 2) := by decide +kernel
theorem dX2_remove_24 : decode cX2_remove 24 = .ok (.aload_n 0, 1) := by decide +kernel
theorem dX2_remove_25 : decode cX2_remove 25 = .ok (.getfield 9, 3) := by decide +kernel
theorem dX2_remove_28 : decode cX2_remove 28 = .ok (.iload 4, 2) := by decide +kernel
theorem dX2_remove_30 : decode cX2_remove 30 = .ok (.aload_n 0, 1) := by decide +kernel
theorem dX2_remove_31 : decode cX2_remove 31 = .ok (.getfield 27, 3) := by decide +kernel
theorem dX2_remove_34 : decode cX2_remove 34 = .ok (.iload 5, 2) := by decide +kernel
theorem dX2_remove_36 : decode cX2_remove 36 = .ok (.isub, 1) := by decide +kernel
theorem dX2_remove_37 : decode cX2_remove 37 = .ok (.invokestatic 35, 3) := by decide +kernel
theorem dX2_remove_40 : decode cX2_remove 40 = .ok (.aload_n 0, 1) := by decide +kernel
theorem dX2_remove_41 : decode cX2_remove 41 = .ok (.dup, 1) := by decide +kernel
theorem dX2_remove_42 : decode cX2_remove 42 = .ok (.getfield 27, 3) := by decide +kernel
theorem dX2_remove_45 : decode cX2_remove 45 = .ok (.iload 5, 2) := by decide +kernel
theorem dX2_remove_47 : decode cX2_remove 47 = .ok (.iload 4, 2) := by decide +kernel
theorem dX2_remove_49 : decode cX2_remove 49 = .ok (.isub, 1) := by decide +kernel
theorem dX2_remove_50 : decode cX2_remove 50 = .ok (.isub, 1) := by decide +kernel
theorem dX2_remove_51 : decode cX2_remove 51 = .ok (.putfield 27, 3) := by decide +kernel
theorem dX2_remove_54 : decode cX2_remove 54 = .ok (.iload 5, 2) := by decide +kernel
theorem dX2_remove_56 : decode cX2_remove 56 = .ok (.iload 4, 2) := by decide +kernel
theorem dX2_remove_58 : decode cX2_remove 58 = .ok (.isub, 1) := by decide +kernel
theorem dX2_remove_59 : decode cX2_remove 59 = .ok (.ireturn, 1) := by decide +kernel
set_option maxHeartbeats 4000000 in
set_option maxRecDepth 100000 in
theorem g_X2_remove (l : Launch) (G : xG) (S : yS) (d : yD) (h0 : Nat) (p0 : Int32) (p1 : Int32) (p2 : Int32) (hSh : ySh S) (hPo : yPo S d) (hm_h0 : h0 ∈ S.1) (hk_h0 : S.2.1 h0 = 2) : xWi l G yX2_remove cX2_remove 6 (some .int) 2 49 0 0 [.ref h0, .int p0, .int p1, .int p2] (yW G S d) (fun r (u : yD) => yAg S [2, 16] d u ∧ (yPo S d → yPo S u) ∧ (True)) (fun u => yW G S u) := by
  intro sz
  refine xstart (by decide) (Nat.le_of_ble_eq_true rfl) (fun p e s m args below meth c ls C0 hr hlocks hin hsz hP hK hD hN hl => ?_)
  obtain ⟨hx, hb, hml, hown, htl⟩ := id C0
  subst hsz
  have hD := hD.self (sz := s.heap.size)
  generalize hAe : va_A (yW G S d) s.heap.size = A at hD ⊢
  have hA : ∀ q : Nat, s.heap.size ≤ q → A q := fun q h => by rw [← hAe]; exact Or.inr h
  have hS : va_S A s.heap s.heap [] := va_S.rf
  have hg0 : yAg S [2, 16] d d := yAg.rf
  have hl : lv_has ls 6 [(0, .ref h0), (1, .int p0), (2, .int p1), (3, .int p2)] := hl
  refine lv_aload_n hx hb dX2_remove_0 rfl (lv_at hl 0 rfl) ?_
  refine lv_iload_n hx hb dX2_remove_1 rfl (lv_at hl 1 rfl) ?_
  refine lv_iload_n hx hb dX2_remove_2 rfl (lv_at hl 2 rfl) ?_
  refine yVri (As := [.int p0, .int p1]) (rest := []) C0 (g_X2_indexOf l G S d h0 p0 p1 hSh hm_h0 hk_h0) ok_X2_indexOf (mW323 : Cond.methodLink RX2 31 yX2_indexOf ∈ wsT) ⟨Nat.le_of_ble_eq_true rfl, Nat.le_of_ble_eq_true rfl⟩ hP hD hK hN hm_h0 hk_h0 (by decide) rfl rfl rfl hl.1 rfl (Nat.le_of_ble_eq_true rfl) ⟨Nat.le_of_ble_eq_true rfl, Nat.le_of_ble_eq_true rfl⟩ dX2_remove_3 (fun r_1 hr_1 => ?_)
  refine lv_istore (lv' := [(4, .int r_1), (0, .ref h0), (1, .int p0), (2, .int p1), (3, .int p2)]) hx hb dX2_remove_6 hl (by decide) rfl (fun ls hl => ?_)
  refine lv_aload_n hx hb dX2_remove_8 rfl (lv_at hl 1 rfl) ?_
  refine lv_iload_n hx hb dX2_remove_9 rfl (lv_at hl 2 rfl) ?_
  refine lv_iload_n hx hb dX2_remove_10 rfl (lv_at hl 3 rfl) ?_
  refine lv_iload_n hx hb dX2_remove_11 rfl (lv_at hl 4 rfl) ?_
  refine lv_iadd hx hb dX2_remove_12 ?_
  refine lv_topi (fun z_2 ez_2 => ?_)
  refine yVri (As := [.int p0, .int z_2]) (rest := []) C0 (g_X2_indexOf l G S d h0 p0 z_2 hSh hm_h0 hk_h0) ok_X2_indexOf (mW323 : Cond.methodLink RX2 31 yX2_indexOf ∈ wsT) ⟨Nat.le_of_ble_eq_true rfl, Nat.le_of_ble_eq_true rfl⟩ hP hD hK hN hm_h0 hk_h0 (by decide) rfl rfl rfl hl.1 rfl (Nat.le_of_ble_eq_true rfl) ⟨Nat.le_of_ble_eq_true rfl, Nat.le_of_ble_eq_true rfl⟩ dX2_remove_13 (fun r_3 hr_3 => ?_)
  refine lv_istore (lv' := [(5, .int r_3), (4, .int r_1), (0, .ref h0), (1, .int p0), (2, .int p1), (3, .int p2)]) hx hb dX2_remove_16 hl (by decide) rfl (fun ls hl => ?_)
  refine lv_aload_n hx hb dX2_remove_18 rfl (lv_at hl 2 rfl) ?_
  refine yget (ci := 2) (k := 0) (v := .ref (S.2.2.1 h0 0)) (C := RX2) (T := TX2) (N := 3) C0 hK hP hm_h0 hk_h0 (by decide) rfl inlX2 (by decide) mW62 (fun _ h9 => h9) rfl dX2_remove_19 ?_
  obtain ⟨hmy_4, hky_4⟩ := ySh.f2_0 hSh _ hm_h0 hk_h0
  refine lv_iload hx hb dX2_remove_22 (lv_at hl 0 rfl) ?_
  refine lv_aload_n hx hb dX2_remove_24 rfl (lv_at hl 2 rfl) ?_
  refine yget (ci := 2) (k := 0) (v := .ref (S.2.2.1 h0 0)) (C := RX2) (T := TX2) (N := 3) C0 hK hP hm_h0 hk_h0 (by decide) rfl inlX2 (by decide) mW62 (fun _ h9 => h9) rfl dX2_remove_25 ?_
  refine lv_iload hx hb dX2_remove_28 (lv_at hl 1 rfl) ?_
  refine lv_aload_n hx hb dX2_remove_30 rfl (lv_at hl 2 rfl) ?_
  refine yget (ci := 2) (k := 2) (v := .int (d.1 h0 2)) (C := RX2) (T := TX2) (N := 3) C0 hK hP hm_h0 hk_h0 (by decide) rfl inlX2 (by decide) mW322 (fun _ h9 => h9) rfl dX2_remove_31 ?_
  refine lv_topi (fun z_5 ez_5 => ?_)
  refine lv_iload hx hb dX2_remove_34 (lv_at hl 0 rfl) ?_
  refine lv_isub hx hb dX2_remove_36 ?_
  refine lv_topi (fun z_6 ez_6 => ?_)
  refine ySNwv (As := [.ref (S.2.2.1 h0 0), .int r_3, .ref (S.2.2.1 h0 0), .int r_1, .int z_6]) (rest := []) C0 (g_X8_slide l G S d (S.2.2.1 h0 0) 16 r_3 (S.2.2.1 h0 0) 16 r_1 z_6 hPo hmy_4 hky_4 hmy_4 hky_4 (by decide) rfl rfl (by decide) (by decide) rfl rfl (by decide)) ok_X8_slide (xN.n6 hN) ⟨Nat.le_of_ble_eq_true rfl, Nat.le_of_ble_eq_true rfl⟩ hP hD hS hA hK hN rfl hl.1 rfl (Nat.le_of_ble_eq_true rfl) ⟨Nat.le_of_ble_eq_true rfl, Nat.le_of_ble_eq_true rfl⟩ dX2_remove_37 (fun d_8 H locs hr_7 hP hD hS => ?_)
  obtain ⟨hgad_8, hpad_8, hxd_8⟩ := hr_7
  have hgd_8 : yAg S [2, 16] d d_8 := yAg.tr hg0 hgad_8 (by first | decide | exact fun _ h => h)
  have hPod_8 : yPo S d_8 := hpad_8 hPo
  refine lv_aload_n hx hb dX2_remove_40 rfl (lv_at hl 2 rfl) ?_
  refine lv_dup hx hb dX2_remove_41 rfl ?_
  refine yget (ci := 2) (k := 2) (v := .int (d_8.1 h0 2)) (C := RX2) (T := TX2) (N := 3) C0 hK hP hm_h0 hk_h0 (by decide) rfl inlX2 (by decide) mW322 (fun _ h9 => h9) rfl dX2_remove_42 ?_
  refine lv_topi (fun z_9 ez_9 => ?_)
  refine lv_iload hx hb dX2_remove_45 (lv_at hl 0 rfl) ?_
  refine lv_iload hx hb dX2_remove_47 (lv_at hl 1 rfl) ?_
  refine lv_isub hx hb dX2_remove_49 ?_
  refine lv_topi (fun z_10 ez_10 => ?_)
  refine lv_isub hx hb dX2_remove_50 ?_
  refine lv_topi (fun z_11 ez_11 => ?_)
  refine yputI (ci := 2) (k := 2) (ty := .int) (C := RX2) (T := TX2) (N := 3) C0 hK hP hD hS hm_h0 hk_h0 (by decide) rfl inlX2 tyX2 tyX2_ok nmX2 (by decide) mW322 (fun _ h9 => h9) rfl (by decide +kernel) rfl rfl (Nat.le_of_ble_eq_true rfl) ysi_2_2 dX2_remove_51 (fun H locs hP hD hS => ?_)
  obtain ⟨d_12, ed_12⟩ : ∃ z : yD, z = yi d_8 h0 2 z_11 := ⟨_, rfl⟩
  rw [← ed_12] at hP hD
  have hgd_12 : yAg S [2, 16] d d_12 := by rw [ed_12]; exact yAg.i hgd_8 (by rw [hk_h0]; decide)
  have hPod_12 : yPo S d_12 := by rw [ed_12]; exact yPo.i hPod_8 hk_h0 (Or.inl rfl)
  refine lv_iload hx hb dX2_remove_54 (lv_at hl 0 rfl) ?_
  refine lv_iload hx hb dX2_remove_56 (lv_at hl 1 rfl) ?_
  refine lv_isub hx hb dX2_remove_58 ?_
  refine lv_topi (fun z_13 ez_13 => ?_)
  exact W.iret (v := z_13) hx hb hr (fun t ht hW => ⟨⟨z_13, d_12, rfl, ⟨hgd_12, (fun _ => hPod_12), trivial⟩, by rw [ht]; exact hP, hD⟩, hS.F ht⟩) hS.2.2 dX2_remove_59
theorem dX2_copyRange_0 : decode cX2_copyRange 0 = .ok (.aload_n 0, 1) := by decide +kernel
theorem dX2_copyRange_1 : decode cX2_copyRange 1 = .ok (.iload_n 1, 1) := by decide +kernel
theorem dX2_copyRange_2 : decode cX2_copyRange 2 = .ok (.iload_n 2, 1) := by decide +kernel
theorem dX2_copyRange_3 : decode cX2_copyRange 3 = .ok (.invokevirtual 31, 3) := by decide +kernel
theorem dX2_copyRange_6 : decode cX2_copyRange 6 = .ok (.istore 6, 2) := by decide +kernel
theorem dX2_copyRange_8 : decode cX2_copyRange 8 = .ok (.aload_n 0, 1) := by decide +kernel
theorem dX2_copyRange_9 : decode cX2_copyRange 9 = .ok (.iload_n 1, 1) := by decide +kernel
theorem dX2_copyRange_10 : decode cX2_copyRange 10 = .ok (.iload_n 2, 1) := by decide +kernel
theorem dX2_copyRange_11 : decode cX2_copyRange 11 = .ok (.iload 5, 2) := by decide +kernel
theorem dX2_copyRange_13 : decode cX2_copyRange 13 = .ok (.invokevirtual 43, 3) := by decide +kernel
theorem dX2_copyRange_16 : decode cX2_copyRange 16 = .ok (.istore 7, 2) := by decide +kernel
theorem dX2_copyRange_18 : decode cX2_copyRange 18 = .ok (.aload_n 0, 1) := by decide +kernel
theorem dX2_copyRange_19 : decode cX2_copyRange 19 = .ok (.getfield 9, 3) := by decide +kernel
theorem dX2_copyRange_22 : decode cX2_copyRange 22 = .ok (.iload 6, 2) := by decide +kernel
theorem dX2_copyRange_24 : decode cX2_copyRange 24 = .ok (.aload_n 0, 1) := by decide +kernel
theorem dX2_copyRange_25 : decode cX2_copyRange 25 = .ok (.getfield 15, 3) := by decide +kernel
theorem dX2_copyRange_28 : decode cX2_copyRange 28 = .ok (.iconst 0, 1) := by decide +kernel
theorem dX2_copyRange_29 : decode cX2_copyRange 29 = .ok (.iload 7, 2) := by decide +kernel
theorem dX2_copyRange_31 : decode cX2_copyRange 31 = .ok (.invokestatic 35, 3) := by decide +kernel
theorem dX2_copyRange_34 : decode cX2_copyRange 34 = .ok (.aload_n 0, 1) := by decide +kernel
theorem dX2_copyRange_35 : decode cX2_copyRange 35 = .ok (.iload_n 3, 1) := by decide +kernel
theorem dX2_copyRange_36 : decode cX2_copyRange 36 = .ok (.iload 4, 2) := by decide +kernel
theorem dX2_copyRange_38 : decode cX2_copyRange 38 = .ok (.iload 5, 2) := by decide +kernel
theorem dX2_copyRange_40 : decode cX2_copyRange 40 = .ok (.invokevirtual 46, 3) := by decide +kernel
theorem dX2_copyRange_43 : decode cX2_copyRange 43 = .ok (.pop, 1) := by decide +kernel
theorem dX2_copyRange_44 : decode cX2_copyRange 44 = .ok (.aload_n 0, 1) := by decide +kernel
theorem dX2_copyRange_45 : decode cX2_copyRange 45 = .ok (.iload_n 3, 1) := by decide +kernel
theorem dX2_copyRange_46 : decode cX2_copyRange 46 = .ok (.iload 4, 2) := by decide +kernel
theorem dX2_copyRange_48 : decode cX2_copyRange 48 = .ok (.invokevirtual 31, 3) := by decide +kernel
theorem dX2_copyRange_51 : decode cX2_copyRange 51 = .ok (.istore 8, 2) := by decide +kernel
theorem dX2_copyRange_53 : decode cX2_copyRange 53 = .ok (.aload_n 0, 1) := by decide +kernel
theorem dX2_copyRange_54 : decode cX2_copyRange 54 = .ok (.getfield 27, 3) := by decide +kernel
theorem dX2_copyRange_57 : decode cX2_copyRange 57 = .ok (.iload 7, 2) := by decide +kernel
theorem dX2_copyRange_59 : decode cX2_copyRange 59 = .ok (.iadd, 1) := by decide +kernel
theorem dX2_copyRange_60 : decode cX2_copyRange 60 = .ok (.sipush 5000, 3) := by decide +kernel
theorem dX2_copyRange_63 : decode cX2_copyRange 63 = .ok (.if_icmp .le 4, 3) := by decide +kernel
theorem dX2_copyRange_66 : decode cX2_copyRange 66 = .ok (.return_, 1) := by decide +kernel
theorem dX2_copyRange_67 : decode cX2_copyRange 67 = .ok (.aload_n 0, 1) := by decide +kernel
theorem dX2_copyRange_68 : decode cX2_copyRange 68 = .ok (.getfield 9, 3) := by decide +kernel
theorem dX2_copyRange_71 : decode cX2_copyRange 71 = .ok (.iload 8, 2) := by decide +kernel
theorem dX2_copyRange_73 : decode cX2_copyRange 73 = .ok (.aload_n 0, 1) := by decide +kernel
theorem dX2_copyRange_74 : decode cX2_copyRange 74 = .ok (.getfield 9, 3) := by decide +kernel
theorem dX2_copyRange_77 : decode cX2_copyRange 77 = .ok (.iload 8, 2) := by decide +kernel
theorem dX2_copyRange_79 : decode cX2_copyRange 79 = .ok (.iload 7, 2) := by decide +kernel
theorem dX2_copyRange_81 : decode cX2_copyRange 81 = .ok (.iadd, 1) := by decide +kernel
theorem dX2_copyRange_82 : decode cX2_copyRange 82 = .ok (.aload_n 0, 1) := by decide +kernel
theorem dX2_copyRange_83 : decode cX2_copyRange 83 = .ok (.getfield 27, 3) := by decide +kernel
theorem dX2_copyRange_86 : decode cX2_copyRange 86 = .ok (.iload 8, 2) := by decide +kernel
theorem dX2_copyRange_88 : decode cX2_copyRange 88 = .ok (.isub, 1) := by decide +kernel
theorem dX2_copyRange_89 : decode cX2_copyRange 89 = .ok (.invokestatic 35, 3) := by decide +kernel
theorem dX2_copyRange_92 : decode cX2_copyRange 92 = .ok (.iload_n 3, 1) := by decide +kernel
theorem dX2_copyRange_93 : decode cX2_copyRange 93 = .ok (.iload 4, 2) := by decide +kernel
theorem dX2_copyRange_95 : decode cX2_copyRange 95 = .ok (.iconst 0, 1) := by decide +kernel
theorem dX2_copyRange_96 : decode cX2_copyRange 96 = .ok (.invokestatic 23, 3) := by decide +kernel
theorem dX2_copyRange_99 : decode cX2_copyRange 99 = .ok (.iload_n 1, 1) := by decide +kernel
theorem dX2_copyRange_100 : decode cX2_copyRange 100 = .ok (.iload_n 2, 1) := by decide +kernel
theorem dX2_copyRange_101 : decode cX2_copyRange 101 = .ok (.iconst 0, 1) := by decide +kernel
theorem dX2_copyRange_102 : decode cX2_copyRange 102 = .ok (.invokestatic 23, 3) := by decide +kernel
theorem dX2_copyRange_105 : decode cX2_copyRange 105 = .ok (.isub, 1) := by decide +kernel
theorem dX2_copyRange_106 : decode cX2_copyRange 106 = .ok (.istore 9, 2) := by decide +kernel
theorem dX2_copyRange_108 : decode cX2_copyRange 108 = .ok (.iconst 0, 1) := by decide +kernel
theorem dX2_copyRange_109 : decode cX2_copyRange 109 = .ok (.istore 10, 2) := by decide +kernel
theorem dX2_copyRange_111 : decode cX2_copyRange 111 = .ok (.iload 10, 2) := by decide +kernel
theorem dX2_copyRange_113 : decode cX2_copyRange 113 = .ok (.iload 7, 2) := by decide +kernel
theorem dX2_copyRange_115 : decode cX2_copyRange 115 = .ok (.if_icmp .ge 33, 3) := by decide +kernel
theorem dX2_copyRange_118 : decode cX2_copyRange 118 = .ok (.aload_n 0, 1) := by decide +kernel
theorem dX2_copyRange_119 : decode cX2_copyRange 119 = .ok (.getfield 9, 3) := by decide +kernel
theorem dX2_copyRange_122 : decode cX2_copyRange 122 = .ok (.iload 8, 2) := by decide +kernel
theorem dX2_copyRange_124 : decode cX2_copyRange 124 = .ok (.iload 10, 2) := by decide +kernel
theorem dX2_copyRange_126 : decode cX2_copyRange 126 = .ok (.iadd, 1) := by decide +kernel
theorem dX2_copyRange_127 : decode cX2_copyRange 127 = .ok (.aload_n 0, 1) := by decide +kernel
theorem dX2_copyRange_128 : decode cX2_copyRange 128 = .ok (.getfield 15, 3) := by decide +kernel
theorem dX2_copyRange_131 : decode cX2_copyRange 131 = .ok (.iload 10, 2) := by decide +kernel
theorem dX2_copyRange_133 : decode cX2_copyRange 133 = .ok (.invokestatic 19, 3) := by decide +kernel
theorem dX2_copyRange_136 : decode cX2_copyRange 136 = .ok (.iload 9, 2) := by decide +kernel
theorem dX2_copyRange_138 : decode cX2_copyRange 138 = .ok (.iadd, 1) := by decide +kernel
theorem dX2_copyRange_139 : decode cX2_copyRange 139 = .ok (.invokestatic 39, 3) := by decide +kernel
theorem dX2_copyRange_142 : decode cX2_copyRange 142 = .ok (.iinc 10 1, 3) := by decide +kernel
theorem dX2_copyRange_145 : decode cX2_copyRange 145 = .ok (.goto (-34), 3) := by decide +kernel
theorem dX2_copyRange_148 : decode cX2_copyRange 148 = .ok (.aload_n 0, 1) := by decide +kernel
theorem dX2_copyRange_149 : decode cX2_copyRange 149 = .ok (.dup, 1) := by decide +kernel
theorem dX2_copyRange_150 : decode cX2_copyRange 150 = .ok (.getfield 27, 3) := by decide +kernel
theorem dX2_copyRange_153 : decode cX2_copyRange 153 = .ok (.iload 7, 2) := by decide +kernel
theorem dX2_copyRange_155 : decode cX2_copyRange 155 = .ok (.iadd, 1) := by decide +kernel
theorem dX2_copyRange_156 : decode cX2_copyRange 156 = .ok (.putfield 27, 3) := by decide +kernel
theorem dX2_copyRange_159 : decode cX2_copyRange 159 = .ok (.return_, 1) := by decide +kernel
set_option maxHeartbeats 4000000 in
set_option maxRecDepth 100000 in
theorem g_X2_copyRange (l : Launch) (G : xG) (S : yS) (d : yD) (h0 : Nat) (p0 : Int32) (p1 : Int32) (p2 : Int32) (p3 : Int32) (p4 : Int32) (hSh : ySh S) (hPo : yPo S d) (hm_h0 : h0 ∈ S.1) (hk_h0 : S.2.1 h0 = 2) : xWv l G yX2_copyRange cX2_copyRange 11 none 3 74 0 0 [.ref h0, .int p0, .int p1, .int p2, .int p3, .int p4] (yW G S d) (fun u : yD => yAg S [2, 16, 17] d u ∧ (yPo S d → yPo S u) ∧ (True)) (fun u => yW G S u) := by
  intro sz
  refine xstart (by decide) (Nat.le_of_ble_eq_true rfl) (fun p e s m args below meth c ls C0 hr hlocks hin hsz hP hK hD hN hl => ?_)
  obtain ⟨hx, hb, hml, hown, htl⟩ := id C0
  subst hsz
  have hD := hD.self (sz := s.heap.size)
  generalize hAe : va_A (yW G S d) s.heap.size = A at hD ⊢
  have hA : ∀ q : Nat, s.heap.size ≤ q → A q := fun q h => by rw [← hAe]; exact Or.inr h
  have hS : va_S A s.heap s.heap [] := va_S.rf
  have hg0 : yAg S [2, 16, 17] d d := yAg.rf
  have hl : lv_has ls 11 [(0, .ref h0), (1, .int p0), (2, .int p1), (3, .int p2), (4, .int p3), (5, .int p4)] := hl
  refine lv_aload_n hx hb dX2_copyRange_0 rfl (lv_at hl 0 rfl) ?_
  refine lv_iload_n hx hb dX2_copyRange_1 rfl (lv_at hl 1 rfl) ?_
  refine lv_iload_n hx hb dX2_copyRange_2 rfl (lv_at hl 2 rfl) ?_
  refine yVri (As := [.int p0, .int p1]) (rest := []) C0 (g_X2_indexOf l G S d h0 p0 p1 hSh hm_h0 hk_h0) ok_X2_indexOf (mW323 : Cond.methodLink RX2 31 yX2_indexOf ∈ wsT) ⟨Nat.le_of_ble_eq_true rfl, Nat.le_of_ble_eq_true rfl⟩ hP hD hK hN hm_h0 hk_h0 (by decide) rfl rfl rfl hl.1 rfl (Nat.le_of_ble_eq_true rfl) ⟨Nat.le_of_ble_eq_true rfl, Nat.le_of_ble_eq_true rfl⟩ dX2_copyRange_3 (fun r_1 hr_1 => ?_)
  refine lv_istore (lv' := [(6, .int r_1), (0, .ref h0), (1, .int p0), (2, .int p1), (3, .int p2), (4, .int p3), (5, .int p4)]) hx hb dX2_copyRange_6 hl (by decide) rfl (fun ls hl => ?_)
  refine lv_aload_n hx hb dX2_copyRange_8 rfl (lv_at hl 1 rfl) ?_
  refine lv_iload_n hx hb dX2_copyRange_9 rfl (lv_at hl 2 rfl) ?_
  refine lv_iload_n hx hb dX2_copyRange_10 rfl (lv_at hl 3 rfl) ?_
  refine lv_iload hx hb dX2_copyRange_11 (lv_at hl 6 rfl) ?_
  refine yVri (As := [.int p0, .int p1, .int p4]) (rest := []) C0 (g_X2_manyIn l G S d h0 p0 p1 p4 hSh hm_h0 hk_h0) ok_X2_manyIn (mW482 : Cond.methodLink RX2 43 yX2_manyIn ∈ wsT) ⟨Nat.le_of_ble_eq_true rfl, Nat.le_of_ble_eq_true rfl⟩ hP hD hK hN hm_h0 hk_h0 (by decide) rfl rfl rfl hl.1 rfl (Nat.le_of_ble_eq_true rfl) ⟨Nat.le_of_ble_eq_true rfl, Nat.le_of_ble_eq_true rfl⟩ dX2_copyRange_13 (fun r_2 hr_2 => ?_)
  refine lv_istore (lv' := [(7, .int r_2), (6, .int r_1), (0, .ref h0), (1, .int p0), (2, .int p1), (3, .int p2), (4, .int p3), (5, .int p4)]) hx hb dX2_copyRange_16 hl (by decide) rfl (fun ls hl => ?_)
  refine lv_aload_n hx hb dX2_copyRange_18 rfl (lv_at hl 2 rfl) ?_
  refine yget (ci := 2) (k := 0) (v := .ref (S.2.2.1 h0 0)) (C := RX2) (T := TX2) (N := 3) C0 hK hP hm_h0 hk_h0 (by decide) rfl inlX2 (by decide) mW62 (fun _ h9 => h9) rfl dX2_copyRange_19 ?_
  obtain ⟨hmy_3, hky_3⟩ := ySh.f2_0 hSh _ hm_h0 hk_h0
  refine lv_iload hx hb dX2_copyRange_22 (lv_at hl 1 rfl) ?_
  refine lv_aload_n hx hb dX2_copyRange_24 rfl (lv_at hl 2 rfl) ?_
  refine yget (ci := 2) (k := 1) (v := .ref (S.2.2.1 h0 1)) (C := RX2) (T := TX2) (N := 3) C0 hK hP hm_h0 hk_h0 (by decide) rfl inlX2 (by decide) mW63 (fun _ h9 => h9) rfl dX2_copyRange_25 ?_
  obtain ⟨hmy_4, hky_4⟩ := ySh.f2_1 hSh _ hm_h0 hk_h0
  refine lv_iconst (v := 0) hx hb dX2_copyRange_28 (by decide) ?_
  refine lv_iload hx hb dX2_copyRange_29 (lv_at hl 0 rfl) ?_
  refine ySNwv (As := [.ref (S.2.2.1 h0 0), .int r_1, .ref (S.2.2.1 h0 1), .int 0, .int r_2]) (rest := []) C0 (g_X8_slide l G S d (S.2.2.1 h0 0) 16 r_1 (S.2.2.1 h0 1) 17 0 r_2 hPo hmy_3 hky_3 hmy_4 hky_4 (by decide) rfl rfl (by decide) (by decide) rfl rfl (by decide)) ok_X8_slide (xN.n6 hN) ⟨Nat.le_of_ble_eq_true rfl, Nat.le_of_ble_eq_true rfl⟩ hP hD hS hA hK hN rfl hl.1 rfl (Nat.le_of_ble_eq_true rfl) ⟨Nat.le_of_ble_eq_true rfl, Nat.le_of_ble_eq_true rfl⟩ dX2_copyRange_31 (fun d_6 H locs hr_5 hP hD hS => ?_)
  obtain ⟨hgad_6, hpad_6, hxd_6⟩ := hr_5
  have hgd_6 : yAg S [2, 16, 17] d d_6 := yAg.tr hg0 hgad_6 (by first | decide | exact fun _ h => h)
  have hPod_6 : yPo S d_6 := hpad_6 hPo
  refine lv_aload_n hx hb dX2_copyRange_34 rfl (lv_at hl 2 rfl) ?_
  refine lv_iload_n hx hb dX2_copyRange_35 rfl (lv_at hl 5 rfl) ?_
  refine lv_iload hx hb dX2_copyRange_36 (lv_at hl 6 rfl) ?_
  refine lv_iload hx hb dX2_copyRange_38 (lv_at hl 7 rfl) ?_
  refine yVwi (As := [.int p2, .int p3, .int p4]) (rest := []) C0 (g_X2_remove l G S d_6 h0 p2 p3 p4 hSh hPod_6 hm_h0 hk_h0) ok_X2_remove (mW483 : Cond.methodLink RX2 46 yX2_remove ∈ wsT) ⟨Nat.le_of_ble_eq_true rfl, Nat.le_of_ble_eq_true rfl⟩ hP hD hS hA hK hN hm_h0 hk_h0 (by decide) rfl rfl rfl hl.1 rfl (Nat.le_of_ble_eq_true rfl) ⟨Nat.le_of_ble_eq_true rfl, Nat.le_of_ble_eq_true rfl⟩ dX2_copyRange_40 (fun r_7 d_8 H locs hr_7 hP hD hS => ?_)
  obtain ⟨hgad_8, hpad_8, hxd_8⟩ := hr_7
  have hgd_8 : yAg S [2, 16, 17] d d_8 := yAg.tr hgd_6 hgad_8 (by first | decide | exact fun _ h => h)
  have hPod_8 : yPo S d_8 := hpad_8 hPod_6
  refine lv_pop hx hb dX2_copyRange_43 rfl ?_
  refine lv_aload_n hx hb dX2_copyRange_44 rfl (lv_at hl 2 rfl) ?_
  refine lv_iload_n hx hb dX2_copyRange_45 rfl (lv_at hl 5 rfl) ?_
  refine lv_iload hx hb dX2_copyRange_46 (lv_at hl 6 rfl) ?_
  refine yVri (As := [.int p2, .int p3]) (rest := []) C0 (g_X2_indexOf l G S d_8 h0 p2 p3 hSh hm_h0 hk_h0) ok_X2_indexOf (mW323 : Cond.methodLink RX2 31 yX2_indexOf ∈ wsT) ⟨Nat.le_of_ble_eq_true rfl, Nat.le_of_ble_eq_true rfl⟩ hP hD hK hN hm_h0 hk_h0 (by decide) rfl rfl rfl hl.1 rfl (Nat.le_of_ble_eq_true rfl) ⟨Nat.le_of_ble_eq_true rfl, Nat.le_of_ble_eq_true rfl⟩ dX2_copyRange_48 (fun r_9 hr_9 => ?_)
  refine lv_istore (lv' := [(8, .int r_9), (7, .int r_2), (6, .int r_1), (0, .ref h0), (1, .int p0), (2, .int p1), (3, .int p2), (4, .int p3), (5, .int p4)]) hx hb dX2_copyRange_51 hl (by decide) rfl (fun ls hl => ?_)
  refine lv_aload_n hx hb dX2_copyRange_53 rfl (lv_at hl 3 rfl) ?_
  refine yget (ci := 2) (k := 2) (v := .int (d_8.1 h0 2)) (C := RX2) (T := TX2) (N := 3) C0 hK hP hm_h0 hk_h0 (by decide) rfl inlX2 (by decide) mW322 (fun _ h9 => h9) rfl dX2_copyRange_54 ?_
  refine lv_topi (fun z_10 ez_10 => ?_)
  refine lv_iload hx hb dX2_copyRange_57 (lv_at hl 1 rfl) ?_
  refine lv_iadd hx hb dX2_copyRange_59 ?_
  refine lv_topi (fun z_11 ez_11 => ?_)
  refine lv_sipush (v := 5000) hx hb dX2_copyRange_60 (by decide) ?_
  refine lv_icmp_le (tgt := 67) hx hb dX2_copyRange_63 (by decide) (fun c_12 => ?_) (fun c_12 => ?_)
  · refine lv_aload_n hx hb dX2_copyRange_67 rfl (lv_at hl 3 rfl) ?_
    refine yget (ci := 2) (k := 0) (v := .ref (S.2.2.1 h0 0)) (C := RX2) (T := TX2) (N := 3) C0 hK hP hm_h0 hk_h0 (by decide) rfl inlX2 (by decide) mW62 (fun _ h9 => h9) rfl dX2_copyRange_68 ?_
    refine lv_iload hx hb dX2_copyRange_71 (lv_at hl 0 rfl) ?_
    refine lv_aload_n hx hb dX2_copyRange_73 rfl (lv_at hl 3 rfl) ?_
    refine yget (ci := 2) (k := 0) (v := .ref (S.2.2.1 h0 0)) (C := RX2) (T := TX2) (N := 3) C0 hK hP hm_h0 hk_h0 (by decide) rfl inlX2 (by decide) mW62 (fun _ h9 => h9) rfl dX2_copyRange_74 ?_
    refine lv_iload hx hb dX2_copyRange_77 (lv_at hl 0 rfl) ?_
    refine lv_iload hx hb dX2_copyRange_79 (lv_at hl 1 rfl) ?_
    refine lv_iadd hx hb dX2_copyRange_81 ?_
    refine lv_topi (fun z_13 ez_13 => ?_)
    refine lv_aload_n hx hb dX2_copyRange_82 rfl (lv_at hl 3 rfl) ?_
    refine yget (ci := 2) (k := 2) (v := .int (d_8.1 h0 2)) (C := RX2) (T := TX2) (N := 3) C0 hK hP hm_h0 hk_h0 (by decide) rfl inlX2 (by decide) mW322 (fun _ h9 => h9) rfl dX2_copyRange_83 ?_
    refine lv_topi (fun z_14 ez_14 => ?_)
    refine lv_iload hx hb dX2_copyRange_86 (lv_at hl 0 rfl) ?_
    refine lv_isub hx hb dX2_copyRange_88 ?_
    refine lv_topi (fun z_15 ez_15 => ?_)
    refine ySNwv (As := [.ref (S.2.2.1 h0 0), .int r_9, .ref (S.2.2.1 h0 0), .int z_13, .int z_15]) (rest := []) C0 (g_X8_slide l G S d_8 (S.2.2.1 h0 0) 16 r_9 (S.2.2.1 h0 0) 16 z_13 z_15 hPod_8 hmy_3 hky_3 hmy_3 hky_3 (by decide) rfl rfl (by decide) (by decide) rfl rfl (by decide)) ok_X8_slide (xN.n6 hN) ⟨Nat.le_of_ble_eq_true rfl, Nat.le_of_ble_eq_true rfl⟩ hP hD hS hA hK hN rfl hl.1 rfl (Nat.le_of_ble_eq_true rfl) ⟨Nat.le_of_ble_eq_true rfl, Nat.le_of_ble_eq_true rfl⟩ dX2_copyRange_89 (fun d_17 H locs hr_16 hP hD hS => ?_)
    obtain ⟨hgad_17, hpad_17, hxd_17⟩ := hr_16
    have hgd_17 : yAg S [2, 16, 17] d d_17 := yAg.tr hgd_8 hgad_17 (by first | decide | exact fun _ h => h)
    have hPod_17 : yPo S d_17 := hpad_17 hPod_8
    refine lv_iload_n hx hb dX2_copyRange_92 rfl (lv_at hl 6 rfl) ?_
    refine lv_iload hx hb dX2_copyRange_93 (lv_at hl 7 rfl) ?_
    refine lv_iconst (v := 0) hx hb dX2_copyRange_95 (by decide) ?_
    refine ySri (As := [.int p2, .int p3, .int 0]) (rest := []) C0 (g_X2_keyOf l G S d_17 p2 p3 0 ) ok_X2_keyOf (mW327 : Cond.methodLink RX2 23 yX2_keyOf ∈ wsT) ⟨Nat.le_of_ble_eq_true rfl, Nat.le_of_ble_eq_true rfl⟩ hP hD hK hN rfl hl.1 rfl (Nat.le_of_ble_eq_true rfl) ⟨Nat.le_of_ble_eq_true rfl, Nat.le_of_ble_eq_true rfl⟩ dX2_copyRange_96 (fun r_18 hr_18 => ?_)
    refine lv_iload_n hx hb dX2_copyRange_99 rfl (lv_at hl 4 rfl) ?_
    refine lv_iload_n hx hb dX2_copyRange_100 rfl (lv_at hl 5 rfl) ?_
    refine lv_iconst (v := 0) hx hb dX2_copyRange_101 (by decide) ?_
    refine ySri (As := [.int p0, .int p1, .int 0]) (rest := [.int r_18]) C0 (g_X2_keyOf l G S d_17 p0 p1 0 ) ok_X2_keyOf (mW327 : Cond.methodLink RX2 23 yX2_keyOf ∈ wsT) ⟨Nat.le_of_ble_eq_true rfl, Nat.le_of_ble_eq_true rfl⟩ hP hD hK hN rfl hl.1 rfl (Nat.le_of_ble_eq_true rfl) ⟨Nat.le_of_ble_eq_true rfl, Nat.le_of_ble_eq_true rfl⟩ dX2_copyRange_102 (fun r_19 hr_19 => ?_)
    refine lv_isub hx hb dX2_copyRange_105 ?_
    refine lv_topi (fun z_20 ez_20 => ?_)
    refine lv_istore (lv' := [(9, .int z_20), (8, .int r_9), (7, .int r_2), (6, .int r_1), (0, .ref h0), (1, .int p0), (2, .int p1), (3, .int p2), (4, .int p3), (5, .int p4)]) hx hb dX2_copyRange_106 hl (by decide) rfl (fun ls hl => ?_)
    refine lv_iconst (v := 0) hx hb dX2_copyRange_108 (by decide) ?_
    refine lv_istore (lv' := [(10, .int 0), (9, .int z_20), (8, .int r_9), (7, .int r_2), (6, .int r_1), (0, .ref h0), (1, .int p0), (2, .int p1), (3, .int p2), (4, .int p3), (5, .int p4)]) hx hb dX2_copyRange_109 hl (by decide) rfl (fun ls hl => ?_)
    refine yloop (σ := Int32 × yD) (fun x => (2147483647 - (x.1 : Int32).toInt).toNat) 111 (fun x H locs ls => va_P G.1 xcl (yW G S x.2) H ∧ va_D A (yW G S x.2) ∧ va_S A s.heap H locs ∧ yAg S [2, 16, 17] d x.2 ∧ yPo S x.2 ∧ lv_has ls 11 [(10, .int x.1), (9, .int z_20), (8, .int r_9), (7, .int r_2), (0, .ref h0)]) (fun x H locs ls hI hnext_23 => ?_) (0, d_17) ⟨hP, hD, hS, hgd_17, hPod_17, lv_sub hl [0, 1, 2, 3, 5] rfl⟩
    obtain ⟨v_21, d_22⟩ := x
    obtain ⟨hP, hD, hS, hgd_22, hPod_22, hl⟩ := hI
    have hl : lv_has ls 11 [(10, .int v_21), (9, .int z_20), (8, .int r_9), (7, .int r_2), (0, .ref h0)] := hl
    refine lv_iload hx hb dX2_copyRange_111 (lv_at hl 0 rfl) ?_
    refine lv_iload hx hb dX2_copyRange_113 (lv_at hl 3 rfl) ?_
    refine lv_icmp_ge (tgt := 148) hx hb dX2_copyRange_115 (by decide) (fun c_25 => ?_) (fun c_25 => ?_)
    · refine lv_aload_n hx hb dX2_copyRange_148 rfl (lv_at hl 4 rfl) ?_
      refine lv_dup hx hb dX2_copyRange_149 rfl ?_
      refine yget (ci := 2) (k := 2) (v := .int (d_22.1 h0 2)) (C := RX2) (T := TX2) (N := 3) C0 hK hP hm_h0 hk_h0 (by decide) rfl inlX2 (by decide) mW322 (fun _ h9 => h9) rfl dX2_copyRange_150 ?_
      refine lv_topi (fun z_26 ez_26 => ?_)
      refine lv_iload hx hb dX2_copyRange_153 (lv_at hl 3 rfl) ?_
      refine lv_iadd hx hb dX2_copyRange_155 ?_
      refine lv_topi (fun z_27 ez_27 => ?_)
      refine yputI (ci := 2) (k := 2) (ty := .int) (C := RX2) (T := TX2) (N := 3) C0 hK hP hD hS hm_h0 hk_h0 (by decide) rfl inlX2 tyX2 tyX2_ok nmX2 (by decide) mW322 (fun _ h9 => h9) rfl (by decide +kernel) rfl rfl (Nat.le_of_ble_eq_true rfl) ysi_2_2 dX2_copyRange_156 (fun H locs hP hD hS => ?_)
      obtain ⟨d_28, ed_28⟩ : ∃ z : yD, z = yi d_22 h0 2 z_27 := ⟨_, rfl⟩
      rw [← ed_28] at hP hD
      have hgd_28 : yAg S [2, 16, 17] d d_28 := by rw [ed_28]; exact yAg.i hgd_22 (by rw [hk_h0]; decide)
      have hPod_28 : yPo S d_28 := by rw [ed_28]; exact yPo.i hPod_22 hk_h0 (Or.inl rfl)
      exact W.vret hx hb hr (fun t ht hW => ⟨⟨d_28, rfl, ⟨hgd_28, (fun _ => hPod_28), trivial⟩, by rw [ht]; exact hP, hD⟩, hS.F ht⟩) hS.2.2 dX2_copyRange_159
    · refine lv_aload_n hx hb dX2_copyRange_118 rfl (lv_at hl 4 rfl) ?_
      refine yget (ci := 2) (k := 0) (v := .ref (S.2.2.1 h0 0)) (C := RX2) (T := TX2) (N := 3) C0 hK hP hm_h0 hk_h0 (by decide) rfl inlX2 (by decide) mW62 (fun _ h9 => h9) rfl dX2_copyRange_119 ?_
      refine lv_iload hx hb dX2_copyRange_122 (lv_at hl 2 rfl) ?_
      refine lv_iload hx hb dX2_copyRange_124 (lv_at hl 0 rfl) ?_
      refine lv_iadd hx hb dX2_copyRange_126 ?_
      refine lv_topi (fun z_29 ez_29 => ?_)
      refine lv_aload_n hx hb dX2_copyRange_127 rfl (lv_at hl 4 rfl) ?_
      refine yget (ci := 2) (k := 1) (v := .ref (S.2.2.1 h0 1)) (C := RX2) (T := TX2) (N := 3) C0 hK hP hm_h0 hk_h0 (by decide) rfl inlX2 (by decide) mW63 (fun _ h9 => h9) rfl dX2_copyRange_128 ?_
      refine lv_iload hx hb dX2_copyRange_131 (lv_at hl 0 rfl) ?_
      refine ySNri (As := [.ref (S.2.2.1 h0 1), .int v_21]) (rest := [.int z_29, .ref (S.2.2.1 h0 0)]) C0 (g_X8_at l G S d_22 (S.2.2.1 h0 1) 17 v_21 hmy_4 hky_4 (by decide) rfl rfl (by decide)) ok_X8_at (xN.n5 hN) ⟨Nat.le_of_ble_eq_true rfl, Nat.le_of_ble_eq_true rfl⟩ hP hD hK hN rfl hl.1 rfl (Nat.le_of_ble_eq_true rfl) ⟨Nat.le_of_ble_eq_true rfl, Nat.le_of_ble_eq_true rfl⟩ dX2_copyRange_133 (fun r_30 hr_30 => ?_)
      refine lv_iload hx hb dX2_copyRange_136 (lv_at hl 1 rfl) ?_
      refine lv_iadd hx hb dX2_copyRange_138 ?_
      refine lv_topi (fun z_31 ez_31 => ?_)
      refine ySNwv (As := [.ref (S.2.2.1 h0 0), .int z_29, .int z_31]) (rest := []) C0 (g_X8_put l G S d_22 (S.2.2.1 h0 0) 16 z_29 z_31 hPod_22 hmy_3 hky_3 (by decide) rfl rfl (by decide)) ok_X8_put (xN.n8 hN) ⟨Nat.le_of_ble_eq_true rfl, Nat.le_of_ble_eq_true rfl⟩ hP hD hS hA hK hN rfl hl.1 rfl (Nat.le_of_ble_eq_true rfl) ⟨Nat.le_of_ble_eq_true rfl, Nat.le_of_ble_eq_true rfl⟩ dX2_copyRange_139 (fun d_33 H locs hr_32 hP hD hS => ?_)
      obtain ⟨hgad_33, hpad_33, hxd_33⟩ := hr_32
      have hgd_33 : yAg S [2, 16, 17] d d_33 := yAg.tr hgd_22 hgad_33 (by first | decide | exact fun _ h => h)
      have hPod_33 : yPo S d_33 := hpad_33 hPod_22
      refine lv_iinc (v := v_21 + 1) (lv' := [(10, .int (v_21 + 1)), (9, .int z_20), (8, .int r_9), (7, .int r_2), (0, .ref h0)]) hx hb dX2_copyRange_142 hl (k := 0) rfl rfl (by decide) rfl (fun ls hl => ?_)
      refine lv_goto (tgt := 111) hx hb dX2_copyRange_145 (by decide) ?_
      exact hnext_23 (v_21 + 1, d_33) _ _ ls (xup c_25) ⟨hP, hD, hS, hgd_33, hPod_33, lv_sub hl [0, 1, 2, 3, 4] rfl⟩
  · exact W.vret hx hb hr (fun t ht hW => ⟨⟨d_8, rfl, ⟨hgd_8, (fun _ => hPod_8), trivial⟩, by rw [ht]; exact hP, hD⟩, hS.F ht⟩) hS.2.2 dX2_copyRange_66
theorem dX2_take_0 : decode cX2_take 0 = .ok (.aload_n 0, 1) := by decide +kernel
theorem dX2_take_1 : decode cX2_take 1 = .ok (.aload_n 1, 1) := by decide +kernel
theorem dX2_take_2 : decode cX2_take 2 = .ok (.getfield 27, 3) := by decide +kernel
theorem dX2_take_5 : decode cX2_take 5 = .ok (.putfield 27, 3) := by decide +kernel
theorem dX2_take_8 : decode cX2_take 8 = .ok (.aload_n 1, 1) := by decide +kernel
theorem dX2_take_9 : decode cX2_take 9 = .ok (.getfield 9, 3) := by decide +kernel
theorem dX2_take_12 : decode cX2_take 12 = .ok (.iconst 0, 1) := by decide +kernel
theorem dX2_take_13 : decode cX2_take 13 = .ok (.aload_n 0, 1) := by decide +kernel
theorem dX2_take_14 : decode cX2_take 14 = .ok (.getfield 9, 3) := by decide +kernel
theorem dX2_take_17 : decode cX2_take 17 = .ok (.iconst 0, 1) := by decide +kernel
theorem dX2_take_18 : decode cX2_take 18 = .ok (.aload_n 0, 1) := by decide +kernel
theorem dX2_take_19 : decode cX2_take 19 = .ok (.getfield 27, 3) := by decide +kernel
theorem dX2_take_22 : decode cX2_take 22 = .ok (.invokestatic 35, 3) := by decide +kernel
theorem dX2_take_25 : decode cX2_take 25 = .ok (.return_, 1) := by decide +kernel
set_option maxHeartbeats 4000000 in
set_option maxRecDepth 100000 in
theorem g_X2_take (l : Launch) (G : xG) (S : yS) (d : yD) (h0 : Nat) (h1 : Nat) (hSh : ySh S) (hPo : yPo S d) (hm_h0 : h0 ∈ S.1) (hk_h0 : S.2.1 h0 = 2) (hm_h1 : h1 ∈ S.1) (hk_h1 : S.2.1 h1 = 2) : xWv l G yX2_take cX2_take 2 none 2 42 0 0 [.ref h0, .ref h1] (yW G S d) (fun u : yD => yAg S [2, 16] d u ∧ (yPo S d → yPo S u) ∧ (True)) (fun u => yW G S u) := by
  intro sz
  refine xstart (by decide) (Nat.le_of_ble_eq_true rfl) (fun p e s m args below meth c ls C0 hr hlocks hin hsz hP hK hD hN hl => ?_)
  obtain ⟨hx, hb, hml, hown, htl⟩ := id C0
  subst hsz
  have hD := hD.self (sz := s.heap.size)
  generalize hAe : va_A (yW G S d) s.heap.size = A at hD ⊢
  have hA : ∀ q : Nat, s.heap.size ≤ q → A q := fun q h => by rw [← hAe]; exact Or.inr h
  have hS : va_S A s.heap s.heap [] := va_S.rf
  have hg0 : yAg S [2, 16] d d := yAg.rf
  have hl : lv_has ls 2 [(0, .ref h0), (1, .ref h1)] := hl
  refine lv_aload_n hx hb dX2_take_0 rfl (lv_at hl 0 rfl) ?_
  refine lv_aload_n hx hb dX2_take_1 rfl (lv_at hl 1 rfl) ?_
  refine yget (ci := 2) (k := 2) (v := .int (d.1 h1 2)) (C := RX2) (T := TX2) (N := 3) C0 hK hP hm_h1 hk_h1 (by decide) rfl inlX2 (by decide) mW322 (fun _ h9 => h9) rfl dX2_take_2 ?_
  refine lv_topi (fun z_1 ez_1 => ?_)
  refine yputI (ci := 2) (k := 2) (ty := .int) (C := RX2) (T := TX2) (N := 3) C0 hK hP hD hS hm_h0 hk_h0 (by decide) rfl inlX2 tyX2 tyX2_ok nmX2 (by decide) mW322 (fun _ h9 => h9) rfl (by decide +kernel) rfl rfl (Nat.le_of_ble_eq_true rfl) ysi_2_2 dX2_take_5 (fun H locs hP hD hS => ?_)
  obtain ⟨d_2, ed_2⟩ : ∃ z : yD, z = yi d h0 2 z_1 := ⟨_, rfl⟩
  rw [← ed_2] at hP hD
  have hgd_2 : yAg S [2, 16] d d_2 := by rw [ed_2]; exact yAg.i hg0 (by rw [hk_h0]; decide)
  have hPod_2 : yPo S d_2 := by rw [ed_2]; exact yPo.i hPo hk_h0 (Or.inl rfl)
  refine lv_aload_n hx hb dX2_take_8 rfl (lv_at hl 1 rfl) ?_
  refine yget (ci := 2) (k := 0) (v := .ref (S.2.2.1 h1 0)) (C := RX2) (T := TX2) (N := 3) C0 hK hP hm_h1 hk_h1 (by decide) rfl inlX2 (by decide) mW62 (fun _ h9 => h9) rfl dX2_take_9 ?_
  obtain ⟨hmy_3, hky_3⟩ := ySh.f2_0 hSh _ hm_h1 hk_h1
  refine lv_iconst (v := 0) hx hb dX2_take_12 (by decide) ?_
  refine lv_aload_n hx hb dX2_take_13 rfl (lv_at hl 0 rfl) ?_
  refine yget (ci := 2) (k := 0) (v := .ref (S.2.2.1 h0 0)) (C := RX2) (T := TX2) (N := 3) C0 hK hP hm_h0 hk_h0 (by decide) rfl inlX2 (by decide) mW62 (fun _ h9 => h9) rfl dX2_take_14 ?_
  obtain ⟨hmy_4, hky_4⟩ := ySh.f2_0 hSh _ hm_h0 hk_h0
  refine lv_iconst (v := 0) hx hb dX2_take_17 (by decide) ?_
  refine lv_aload_n hx hb dX2_take_18 rfl (lv_at hl 0 rfl) ?_
  refine yget (ci := 2) (k := 2) (v := .int (d_2.1 h0 2)) (C := RX2) (T := TX2) (N := 3) C0 hK hP hm_h0 hk_h0 (by decide) rfl inlX2 (by decide) mW322 (fun _ h9 => h9) rfl dX2_take_19 ?_
  refine lv_topi (fun z_5 ez_5 => ?_)
  refine ySNwv (As := [.ref (S.2.2.1 h1 0), .int 0, .ref (S.2.2.1 h0 0), .int 0, .int z_5]) (rest := []) C0 (g_X8_slide l G S d_2 (S.2.2.1 h1 0) 16 0 (S.2.2.1 h0 0) 16 0 z_5 hPod_2 hmy_3 hky_3 hmy_4 hky_4 (by decide) rfl rfl (by decide) (by decide) rfl rfl (by decide)) ok_X8_slide (xN.n6 hN) ⟨Nat.le_of_ble_eq_true rfl, Nat.le_of_ble_eq_true rfl⟩ hP hD hS hA hK hN rfl hl.1 rfl (Nat.le_of_ble_eq_true rfl) ⟨Nat.le_of_ble_eq_true rfl, Nat.le_of_ble_eq_true rfl⟩ dX2_take_22 (fun d_7 H locs hr_6 hP hD hS => ?_)
  obtain ⟨hgad_7, hpad_7, hxd_7⟩ := hr_6
  have hgd_7 : yAg S [2, 16] d d_7 := yAg.tr hgd_2 hgad_7 (by first | decide | exact fun _ h => h)
  have hPod_7 : yPo S d_7 := hpad_7 hPod_2
  exact W.vret hx hb hr (fun t ht hW => ⟨⟨d_7, rfl, ⟨hgd_7, (fun _ => hPod_7), trivial⟩, by rw [ht]; exact hP, hD⟩, hS.F ht⟩) hS.2.2 dX2_take_25
