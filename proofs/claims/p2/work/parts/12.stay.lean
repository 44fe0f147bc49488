theorem dX7_forgetAsked_0 : decode cX7_forgetAsked 0 = .ok (.aload_n 0, 1) := by decide +kernel
theorem dX7_forgetAsked_1 : decode cX7_forgetAsked 1 = .ok (.iconst 0, 1) := by decide +kernel
theorem dX7_forgetAsked_2 : decode cX7_forgetAsked 2 = .ok (.putfield 144, 3) := by decide +kernel
theorem dX7_forgetAsked_5 : decode cX7_forgetAsked 5 = .ok (.aload_n 0, 1) := by decide +kernel
theorem dX7_forgetAsked_6 : decode cX7_forgetAsked 6 = .ok (.iconst 0, 1) := by decide +kernel
theorem dX7_forgetAsked_7 : decode cX7_forgetAsked 7 = .ok (.putfield 147, 3) := by decide +kernel
theorem dX7_forgetAsked_10 : decode cX7_forgetAsked 10 = .ok (.aload_n 0, 1) := by decide +kernel
theorem dX7_forgetAsked_11 : decode cX7_forgetAsked 11 = .ok (.iconst 0, 1) := by decide +kernel
theorem dX7_forgetAsked_12 : decode cX7_forgetAsked 12 = .ok (.putfield 150, 3) := by decide +kernel
theorem dX7_forgetAsked_15 : decode cX7_forgetAsked 15 = .ok (.return_, 1) := by decide +kernel
set_option maxHeartbeats 4000000 in
set_option maxRecDepth 100000 in
theorem g_X7_forgetAsked (l : Launch) (G : xG) (S : yS) (d : yD) (h0 : Nat) (hSh : ySh S) (hPo : yPo S d) (hm_h0 : h0 ∈ S.1) (hk_h0 : S.2.1 h0 = 7) : xWv l G yX7_forgetAsked cX7_forgetAsked 1 none 0 0 0 0 [.ref h0] (yW G S d) (fun u : yD => yAg S [7, 22, 23] d u ∧ (yPo S d → yPo S u) ∧ (True)) (fun u => yW G S u) := by
  intro sz
  refine xstart (by decide) (Nat.le_of_ble_eq_true rfl) (fun p e s m args below meth c ls C0 hr hlocks hin hsz hP hK hD hN hl => ?_)
  obtain ⟨hx, hb, hml, hown, htl⟩ := id C0
  subst hsz
  have hD := hD.self (sz := s.heap.size)
  generalize hAe : va_A (yW G S d) s.heap.size = A at hD ⊢
  have hA : ∀ q : Nat, s.heap.size ≤ q → A q := fun q h => by rw [← hAe]; exact Or.inr h
  have hS : va_S A s.heap s.heap [] := va_S.rf
  have hg0 : yAg S [7, 22, 23] d d := yAg.rf
  have hl : lv_has ls 1 [(0, .ref h0)] := hl
  refine lv_aload_n hx hb dX7_forgetAsked_0 rfl (lv_at hl 0 rfl) ?_
  refine lv_iconst (v := 0) hx hb dX7_forgetAsked_1 (by decide) ?_
  refine yputI (ci := 7) (k := 4) (ty := .int) (C := RX7) (T := TX7) (N := 18) C0 hK hP hD hS hm_h0 hk_h0 (by decide) rfl inlX7 tyX7 tyX7_ok nmX7 (by decide) mW783 (fun _ h9 => h9) rfl (by decide +kernel) rfl rfl (Nat.le_of_ble_eq_true rfl) ysi_7_4 dX7_forgetAsked_2 (fun H locs hP hD hS => ?_)
  obtain ⟨d_1, ed_1⟩ : ∃ z : yD, z = yi d h0 4 0 := ⟨_, rfl⟩
  rw [← ed_1] at hP hD
  have hgd_1 : yAg S [7, 22, 23] d d_1 := by rw [ed_1]; exact yAg.i hg0 (by rw [hk_h0]; decide)
  have hPod_1 : yPo S d_1 := by rw [ed_1]; exact yPo.i hPo hk_h0 (Or.inl rfl)
  refine lv_aload_n hx hb dX7_forgetAsked_5 rfl (lv_at hl 0 rfl) ?_
  refine lv_iconst (v := 0) hx hb dX7_forgetAsked_6 (by decide) ?_
  refine yputI (ci := 7) (k := 5) (ty := .int) (C := RX7) (T := TX7) (N := 18) C0 hK hP hD hS hm_h0 hk_h0 (by decide) rfl inlX7 tyX7 tyX7_ok nmX7 (by decide) mW784 (fun _ h9 => h9) rfl (by decide +kernel) rfl rfl (Nat.le_of_ble_eq_true rfl) ysi_7_5 dX7_forgetAsked_7 (fun H locs hP hD hS => ?_)
  obtain ⟨d_2, ed_2⟩ : ∃ z : yD, z = yi d_1 h0 5 0 := ⟨_, rfl⟩
  rw [← ed_2] at hP hD
  have hgd_2 : yAg S [7, 22, 23] d d_2 := by rw [ed_2]; exact yAg.i hgd_1 (by rw [hk_h0]; decide)
  have hPod_2 : yPo S d_2 := by rw [ed_2]; exact yPo.i hPod_1 hk_h0 (Or.inl rfl)
  refine lv_aload_n hx hb dX7_forgetAsked_10 rfl (lv_at hl 0 rfl) ?_
  refine lv_iconst (v := 0) hx hb dX7_forgetAsked_11 (by decide) ?_
  refine yputI (ci := 7) (k := 6) (ty := .int) (C := RX7) (T := TX7) (N := 18) C0 hK hP hD hS hm_h0 hk_h0 (by decide) rfl inlX7 tyX7 tyX7_ok nmX7 (by decide) mW785 (fun _ h9 => h9) rfl (by decide +kernel) rfl rfl (Nat.le_of_ble_eq_true rfl) ysi_7_6 dX7_forgetAsked_12 (fun H locs hP hD hS => ?_)
  obtain ⟨d_3, ed_3⟩ : ∃ z : yD, z = yi d_2 h0 6 0 := ⟨_, rfl⟩
  rw [← ed_3] at hP hD
  have hgd_3 : yAg S [7, 22, 23] d d_3 := by rw [ed_3]; exact yAg.i hgd_2 (by rw [hk_h0]; decide)
  have hPod_3 : yPo S d_3 := by rw [ed_3]; exact yPo.i hPod_2 hk_h0 (Or.inl rfl)
  exact W.vret hx hb hr (fun t ht hW => ⟨⟨d_3, rfl, ⟨hgd_3, (fun _ => hPod_3), trivial⟩, by rw [ht]; exact hP, hD⟩, hS.F ht⟩) hS.2.2 dX7_forgetAsked_15
theorem dX7_breakAt_0 : decode cX7_breakAt 0 = .ok (.iload_n 1, 1) := by decide +kernel
theorem dX7_breakAt_1 : decode cX7_breakAt 1 = .ok (.aload_n 0, 1) := by decide +kernel
theorem dX7_breakAt_2 : decode cX7_breakAt 2 = .ok (.getfield 35, 3) := by decide +kernel
theorem dX7_breakAt_5 : decode cX7_breakAt 5 = .ok (.if_icmp .le 16, 3) := by decide +kernel
theorem dX7_breakAt_8 : decode cX7_breakAt 8 = .ok (.iload_n 1, 1) := by decide +kernel
theorem dX7_breakAt_9 : decode cX7_breakAt 9 = .ok (.aload_n 0, 1) := by decide +kernel
theorem dX7_breakAt_10 : decode cX7_breakAt 10 = .ok (.getfield 39, 3) := by decide +kernel
theorem dX7_breakAt_13 : decode cX7_breakAt 13 = .ok (.if_icmp .ge 8, 3) := by decide +kernel
theorem dX7_breakAt_16 : decode cX7_breakAt 16 = .ok (.aload_n 0, 1) := by decide +kernel
theorem dX7_breakAt_17 : decode cX7_breakAt 17 = .ok (.iload_n 1, 1) := by decide +kernel
theorem dX7_breakAt_18 : decode cX7_breakAt 18 = .ok (.putfield 39, 3) := by decide +kernel
theorem dX7_breakAt_21 : decode cX7_breakAt 21 = .ok (.return_, 1) := by decide +kernel
set_option maxHeartbeats 4000000 in
set_option maxRecDepth 100000 in
theorem g_X7_breakAt (l : Launch) (G : xG) (S : yS) (d : yD) (h0 : Nat) (p0 : Int32) (hSh : ySh S) (hPo : yPo S d) (hm_h0 : h0 ∈ S.1) (hk_h0 : S.2.1 h0 = 7) : xWv l G yX7_breakAt cX7_breakAt 2 none 0 0 0 0 [.ref h0, .int p0] (yW G S d) (fun u : yD => yAg S [7, 22, 23] d u ∧ (yPo S d → yPo S u) ∧ (True)) (fun u => yW G S u) := by
  intro sz
  refine xstart (by decide) (Nat.le_of_ble_eq_true rfl) (fun p e s m args below meth c ls C0 hr hlocks hin hsz hP hK hD hN hl => ?_)
  obtain ⟨hx, hb, hml, hown, htl⟩ := id C0
  subst hsz
  have hD := hD.self (sz := s.heap.size)
  generalize hAe : va_A (yW G S d) s.heap.size = A at hD ⊢
  have hA : ∀ q : Nat, s.heap.size ≤ q → A q := fun q h => by rw [← hAe]; exact Or.inr h
  have hS : va_S A s.heap s.heap [] := va_S.rf
  have hg0 : yAg S [7, 22, 23] d d := yAg.rf
  have hl : lv_has ls 2 [(0, .ref h0), (1, .int p0)] := hl
  refine lv_iload_n hx hb dX7_breakAt_0 rfl (lv_at hl 1 rfl) ?_
  refine lv_aload_n hx hb dX7_breakAt_1 rfl (lv_at hl 0 rfl) ?_
  refine yget (ci := 7) (k := 8) (v := .int (d.1 h0 8)) (C := RX7) (T := TX7) (N := 18) C0 hK hP hm_h0 hk_h0 (by decide) rfl inlX7 (by decide) mW743 (fun _ h9 => h9) rfl dX7_breakAt_2 ?_
  refine lv_topi (fun z_1 ez_1 => ?_)
  refine lv_icmp_le (tgt := 21) hx hb dX7_breakAt_5 (by decide) (fun c_2 => ?_) (fun c_2 => ?_)
  · exact W.vret hx hb hr (fun t ht hW => ⟨⟨d, rfl, ⟨hg0, (fun _ => hPo), trivial⟩, by rw [ht]; exact hP, hD⟩, hS.F ht⟩) hS.2.2 dX7_breakAt_21
  · refine lv_iload_n hx hb dX7_breakAt_8 rfl (lv_at hl 1 rfl) ?_
    refine lv_aload_n hx hb dX7_breakAt_9 rfl (lv_at hl 0 rfl) ?_
    refine yget (ci := 7) (k := 9) (v := .int (d.1 h0 9)) (C := RX7) (T := TX7) (N := 18) C0 hK hP hm_h0 hk_h0 (by decide) rfl inlX7 (by decide) mW744 (fun _ h9 => h9) rfl dX7_breakAt_10 ?_
    refine lv_topi (fun z_3 ez_3 => ?_)
    refine lv_icmp_ge (tgt := 21) hx hb dX7_breakAt_13 (by decide) (fun c_4 => ?_) (fun c_4 => ?_)
    · exact W.vret hx hb hr (fun t ht hW => ⟨⟨d, rfl, ⟨hg0, (fun _ => hPo), trivial⟩, by rw [ht]; exact hP, hD⟩, hS.F ht⟩) hS.2.2 dX7_breakAt_21
    · refine lv_aload_n hx hb dX7_breakAt_16 rfl (lv_at hl 0 rfl) ?_
      refine lv_iload_n hx hb dX7_breakAt_17 rfl (lv_at hl 1 rfl) ?_
      refine yputI (ci := 7) (k := 9) (ty := .int) (C := RX7) (T := TX7) (N := 18) C0 hK hP hD hS hm_h0 hk_h0 (by decide) rfl inlX7 tyX7 tyX7_ok nmX7 (by decide) mW744 (fun _ h9 => h9) rfl (by decide +kernel) rfl rfl (Nat.le_of_ble_eq_true rfl) ysi_7_9 dX7_breakAt_18 (fun H locs hP hD hS => ?_)
      obtain ⟨d_5, ed_5⟩ : ∃ z : yD, z = yi d h0 9 p0 := ⟨_, rfl⟩
      rw [← ed_5] at hP hD
      have hgd_5 : yAg S [7, 22, 23] d d_5 := by rw [ed_5]; exact yAg.i hg0 (by rw [hk_h0]; decide)
      have hPod_5 : yPo S d_5 := by rw [ed_5]; exact yPo.i hPo hk_h0 (Or.inl rfl)
      exact W.vret hx hb hr (fun t ht hW => ⟨⟨d_5, rfl, ⟨hgd_5, (fun _ => hPod_5), trivial⟩, by rw [ht]; exact hP, hD⟩, hS.F ht⟩) hS.2.2 dX7_breakAt_21
theorem dX7_addAsked_0 : decode cX7_addAsked 0 = .ok (.aload_n 0, 1) := by decide +kernel
theorem dX7_addAsked_1 : decode cX7_addAsked 1 = .ok (.getfield 15, 3) := by decide +kernel
theorem dX7_addAsked_4 : decode cX7_addAsked 4 = .ok (.aload_n 0, 1) := by decide +kernel
theorem dX7_addAsked_5 : decode cX7_addAsked 5 = .ok (.getfield 144, 3) := by decide +kernel
theorem dX7_addAsked_8 : decode cX7_addAsked 8 = .ok (.iload_n 1, 1) := by decide +kernel
theorem dX7_addAsked_9 : decode cX7_addAsked 9 = .ok (.invokestatic 103, 3) := by decide +kernel
theorem dX7_addAsked_12 : decode cX7_addAsked 12 = .ok (.aload_n 0, 1) := by decide +kernel
theorem dX7_addAsked_13 : decode cX7_addAsked 13 = .ok (.dup, 1) := by decide +kernel
theorem dX7_addAsked_14 : decode cX7_addAsked 14 = .ok (.getfield 144, 3) := by decide +kernel
theorem dX7_addAsked_17 : decode cX7_addAsked 17 = .ok (.iconst 1, 1) := by decide +kernel
theorem dX7_addAsked_18 : decode cX7_addAsked 18 = .ok (.iadd, 1) := by decide +kernel
theorem dX7_addAsked_19 : decode cX7_addAsked 19 = .ok (.putfield 144, 3) := by decide +kernel
theorem dX7_addAsked_22 : decode cX7_addAsked 22 = .ok (.iconst 1, 1) := by decide +kernel
theorem dX7_addAsked_23 : decode cX7_addAsked 23 = .ok (.aload_n 0, 1) := by decide +kernel
theorem dX7_addAsked_24 : decode cX7_addAsked 24 = .ok (.getfield 18, 3) := by decide +kernel
theorem dX7_addAsked_27 : decode cX7_addAsked 27 = .ok (.getfield 86, 3) := by decide +kernel
theorem dX7_addAsked_30 : decode cX7_addAsked 30 = .ok (.getfield 90, 3) := by decide +kernel
theorem dX7_addAsked_33 : decode cX7_addAsked 33 = .ok (.iload_n 1, 1) := by decide +kernel
theorem dX7_addAsked_34 : decode cX7_addAsked 34 = .ok (.invokestatic 95, 3) := by decide +kernel
theorem dX7_addAsked_37 : decode cX7_addAsked 37 = .ok (.ishl, 1) := by decide +kernel
theorem dX7_addAsked_38 : decode cX7_addAsked 38 = .ok (.istore_n 2, 1) := by decide +kernel
theorem dX7_addAsked_39 : decode cX7_addAsked 39 = .ok (.aload_n 0, 1) := by decide +kernel
theorem dX7_addAsked_40 : decode cX7_addAsked 40 = .ok (.dup, 1) := by decide +kernel
theorem dX7_addAsked_41 : decode cX7_addAsked 41 = .ok (.getfield 150, 3) := by decide +kernel
theorem dX7_addAsked_44 : decode cX7_addAsked 44 = .ok (.aload_n 0, 1) := by decide +kernel
theorem dX7_addAsked_45 : decode cX7_addAsked 45 = .ok (.getfield 147, 3) := by decide +kernel
theorem dX7_addAsked_48 : decode cX7_addAsked 48 = .ok (.iload_n 2, 1) := by decide +kernel
theorem dX7_addAsked_49 : decode cX7_addAsked 49 = .ok (.iand, 1) := by decide +kernel
theorem dX7_addAsked_50 : decode cX7_addAsked 50 = .ok (.ior, 1) := by decide +kernel
theorem dX7_addAsked_51 : decode cX7_addAsked 51 = .ok (.putfield 150, 3) := by decide +kernel
theorem dX7_addAsked_54 : decode cX7_addAsked 54 = .ok (.aload_n 0, 1) := by decide +kernel
theorem dX7_addAsked_55 : decode cX7_addAsked 55 = .ok (.dup, 1) := by decide +kernel
theorem dX7_addAsked_56 : decode cX7_addAsked 56 = .ok (.getfield 147, 3) := by decide +kernel
theorem dX7_addAsked_59 : decode cX7_addAsked 59 = .ok (.iload_n 2, 1) := by decide +kernel
theorem dX7_addAsked_60 : decode cX7_addAsked 60 = .ok (.ior, 1) := by decide +kernel
theorem dX7_addAsked_61 : decode cX7_addAsked 61 = .ok (.putfield 147, 3) := by decide +kernel
theorem dX7_addAsked_64 : decode cX7_addAsked 64 = .ok (.return_, 1) := by decide +kernel
set_option maxHeartbeats 4000000 in
set_option maxRecDepth 100000 in
theorem g_X7_addAsked (l : Launch) (G : xG) (S : yS) (d : yD) (h0 : Nat) (p0 : Int32) (hSh : ySh S) (hPo : yPo S d) (hm_h0 : h0 ∈ S.1) (hk_h0 : S.2.1 h0 = 7) : xWv l G yX7_addAsked cX7_addAsked 3 none 1 22 0 0 [.ref h0, .int p0] (yW G S d) (fun u : yD => yAg S [7, 22, 23] d u ∧ (yPo S d → yPo S u) ∧ (True)) (fun u => yW G S u) := by
  intro sz
  refine xstart (by decide) (Nat.le_of_ble_eq_true rfl) (fun p e s m args below meth c ls C0 hr hlocks hin hsz hP hK hD hN hl => ?_)
  obtain ⟨hx, hb, hml, hown, htl⟩ := id C0
  subst hsz
  have hD := hD.self (sz := s.heap.size)
  generalize hAe : va_A (yW G S d) s.heap.size = A at hD ⊢
  have hA : ∀ q : Nat, s.heap.size ≤ q → A q := fun q h => by rw [← hAe]; exact Or.inr h
  have hS : va_S A s.heap s.heap [] := va_S.rf
  have hg0 : yAg S [7, 22, 23] d d := yAg.rf
  have hl : lv_has ls 3 [(0, .ref h0), (1, .int p0)] := hl
  refine lv_aload_n hx hb dX7_addAsked_0 rfl (lv_at hl 0 rfl) ?_
  refine yget (ci := 7) (k := 2) (v := .ref (S.2.2.1 h0 2)) (C := RX7) (T := TX7) (N := 18) C0 hK hP hm_h0 hk_h0 (by decide) rfl inlX7 (by decide) mW95 (fun _ h9 => h9) rfl dX7_addAsked_1 ?_
  obtain ⟨hmy_1, hky_1⟩ := ySh.f7_2 hSh _ hm_h0 hk_h0
  refine lv_aload_n hx hb dX7_addAsked_4 rfl (lv_at hl 0 rfl) ?_
  refine yget (ci := 7) (k := 4) (v := .int (d.1 h0 4)) (C := RX7) (T := TX7) (N := 18) C0 hK hP hm_h0 hk_h0 (by decide) rfl inlX7 (by decide) mW783 (fun _ h9 => h9) rfl dX7_addAsked_5 ?_
  refine lv_topi (fun z_2 ez_2 => ?_)
  refine lv_iload_n hx hb dX7_addAsked_8 rfl (lv_at hl 1 rfl) ?_
  refine ySNwv (As := [.ref (S.2.2.1 h0 2), .int z_2, .int p0]) (rest := []) C0 (g_X8_put l G S d (S.2.2.1 h0 2) 23 z_2 p0 hPo hmy_1 hky_1 (by decide) rfl rfl (by decide)) ok_X8_put (xN.n14 hN) ⟨Nat.le_of_ble_eq_true rfl, Nat.le_of_ble_eq_true rfl⟩ hP hD hS hA hK hN rfl hl.1 rfl (Nat.le_of_ble_eq_true rfl) ⟨Nat.le_of_ble_eq_true rfl, Nat.le_of_ble_eq_true rfl⟩ dX7_addAsked_9 (fun d_4 H locs hr_3 hP hD hS => ?_)
  obtain ⟨hgad_4, hpad_4, hxd_4⟩ := hr_3
  have hgd_4 : yAg S [7, 22, 23] d d_4 := yAg.tr hg0 hgad_4 (by decide)
  have hPod_4 : yPo S d_4 := hpad_4 hPo
  refine lv_aload_n hx hb dX7_addAsked_12 rfl (lv_at hl 0 rfl) ?_
  refine lv_dup hx hb dX7_addAsked_13 rfl ?_
  refine yget (ci := 7) (k := 4) (v := .int (d_4.1 h0 4)) (C := RX7) (T := TX7) (N := 18) C0 hK hP hm_h0 hk_h0 (by decide) rfl inlX7 (by decide) mW783 (fun _ h9 => h9) rfl dX7_addAsked_14 ?_
  refine lv_topi (fun z_5 ez_5 => ?_)
  refine lv_iconst (v := 1) hx hb dX7_addAsked_17 (by decide) ?_
  refine lv_iadd hx hb dX7_addAsked_18 ?_
  refine lv_topi (fun z_6 ez_6 => ?_)
  refine yputI (ci := 7) (k := 4) (ty := .int) (C := RX7) (T := TX7) (N := 18) C0 hK hP hD hS hm_h0 hk_h0 (by decide) rfl inlX7 tyX7 tyX7_ok nmX7 (by decide) mW783 (fun _ h9 => h9) rfl (by decide +kernel) rfl rfl (Nat.le_of_ble_eq_true rfl) ysi_7_4 dX7_addAsked_19 (fun H locs hP hD hS => ?_)
  obtain ⟨d_7, ed_7⟩ : ∃ z : yD, z = yi d_4 h0 4 z_6 := ⟨_, rfl⟩
  rw [← ed_7] at hP hD
  have hgd_7 : yAg S [7, 22, 23] d d_7 := by rw [ed_7]; exact yAg.i hgd_4 (by rw [hk_h0]; decide)
  have hPod_7 : yPo S d_7 := by rw [ed_7]; exact yPo.i hPod_4 hk_h0 (Or.inl rfl)
  refine lv_iconst (v := 1) hx hb dX7_addAsked_22 (by decide) ?_
  refine lv_aload_n hx hb dX7_addAsked_23 rfl (lv_at hl 0 rfl) ?_
  refine yget (ci := 7) (k := 0) (v := .ref (S.2.2.1 h0 0)) (C := RX7) (T := TX7) (N := 18) C0 hK hP hm_h0 hk_h0 (by decide) rfl inlX7 (by decide) mW96 (fun _ h9 => h9) rfl dX7_addAsked_24 ?_
  obtain ⟨hmy_8, hky_8⟩ := ySh.f7_0 hSh _ hm_h0 hk_h0
  refine yget (ci := 0) (k := 0) (v := .ref (S.2.2.1 (S.2.2.1 h0 0) 0)) (C := RX0) (T := TX0) (N := 6) C0 hK hP hmy_8 hky_8 (by decide) rfl inlX0 (by decide) mW755 (fun _ h9 => h9) rfl dX7_addAsked_27 ?_
  obtain ⟨hmy_9, hky_9⟩ := ySh.f0_0 hSh _ hmy_8 hky_8
  refine yget (ci := 6) (k := 0) (v := .ref (S.2.2.1 (S.2.2.1 (S.2.2.1 h0 0) 0) 0)) (C := RX6) (T := TX6) (N := 7) C0 hK hP hmy_9 hky_9 (by decide) rfl inlX6 (by decide) mW756 (fun _ h9 => h9) rfl dX7_addAsked_30 ?_
  obtain ⟨hmy_10, hky_10⟩ := ySh.f6_0 hSh _ hmy_9 hky_9
  refine lv_iload_n hx hb dX7_addAsked_33 rfl (lv_at hl 1 rfl) ?_
  refine ySNri (As := [.ref (S.2.2.1 (S.2.2.1 (S.2.2.1 h0 0) 0) 0), .int p0]) (rest := [.int 1]) C0 (g_X8_at l G S d_7 (S.2.2.1 (S.2.2.1 (S.2.2.1 h0 0) 0) 0) 10 p0 hmy_10 hky_10 (by decide) rfl rfl (by decide)) ok_X8_at (xN.n12 hN) ⟨Nat.le_of_ble_eq_true rfl, Nat.le_of_ble_eq_true rfl⟩ hP hD hK hN rfl hl.1 rfl (Nat.le_of_ble_eq_true rfl) ⟨Nat.le_of_ble_eq_true rfl, Nat.le_of_ble_eq_true rfl⟩ dX7_addAsked_34 (fun r_11 hr_11 => ?_)
  refine lv_ishl hx hb dX7_addAsked_37 ?_
  refine lv_topi (fun z_12 ez_12 => ?_)
  refine lv_istore_n (lv' := [(2, .int z_12), (0, .ref h0), (1, .int p0)]) hx hb dX7_addAsked_38 rfl hl (by decide) rfl (fun ls hl => ?_)
  refine lv_aload_n hx hb dX7_addAsked_39 rfl (lv_at hl 1 rfl) ?_
  refine lv_dup hx hb dX7_addAsked_40 rfl ?_
  refine yget (ci := 7) (k := 6) (v := .int (d_7.1 h0 6)) (C := RX7) (T := TX7) (N := 18) C0 hK hP hm_h0 hk_h0 (by decide) rfl inlX7 (by decide) mW785 (fun _ h9 => h9) rfl dX7_addAsked_41 ?_
  refine lv_topi (fun z_13 ez_13 => ?_)
  refine lv_aload_n hx hb dX7_addAsked_44 rfl (lv_at hl 1 rfl) ?_
  refine yget (ci := 7) (k := 5) (v := .int (d_7.1 h0 5)) (C := RX7) (T := TX7) (N := 18) C0 hK hP hm_h0 hk_h0 (by decide) rfl inlX7 (by decide) mW784 (fun _ h9 => h9) rfl dX7_addAsked_45 ?_
  refine lv_topi (fun z_14 ez_14 => ?_)
  refine lv_iload_n hx hb dX7_addAsked_48 rfl (lv_at hl 0 rfl) ?_
  refine lv_iand hx hb dX7_addAsked_49 ?_
  refine lv_topi (fun z_15 ez_15 => ?_)
  refine lv_ior hx hb dX7_addAsked_50 ?_
  refine lv_topi (fun z_16 ez_16 => ?_)
  refine yputI (ci := 7) (k := 6) (ty := .int) (C := RX7) (T := TX7) (N := 18) C0 hK hP hD hS hm_h0 hk_h0 (by decide) rfl inlX7 tyX7 tyX7_ok nmX7 (by decide) mW785 (fun _ h9 => h9) rfl (by decide +kernel) rfl rfl (Nat.le_of_ble_eq_true rfl) ysi_7_6 dX7_addAsked_51 (fun H locs hP hD hS => ?_)
  obtain ⟨d_17, ed_17⟩ : ∃ z : yD, z = yi d_7 h0 6 z_16 := ⟨_, rfl⟩
  rw [← ed_17] at hP hD
  have hgd_17 : yAg S [7, 22, 23] d d_17 := by rw [ed_17]; exact yAg.i hgd_7 (by rw [hk_h0]; decide)
  have hPod_17 : yPo S d_17 := by rw [ed_17]; exact yPo.i hPod_7 hk_h0 (Or.inl rfl)
  refine lv_aload_n hx hb dX7_addAsked_54 rfl (lv_at hl 1 rfl) ?_
  refine lv_dup hx hb dX7_addAsked_55 rfl ?_
  refine yget (ci := 7) (k := 5) (v := .int (d_17.1 h0 5)) (C := RX7) (T := TX7) (N := 18) C0 hK hP hm_h0 hk_h0 (by decide) rfl inlX7 (by decide) mW784 (fun _ h9 => h9) rfl dX7_addAsked_56 ?_
  refine lv_topi (fun z_18 ez_18 => ?_)
  refine lv_iload_n hx hb dX7_addAsked_59 rfl (lv_at hl 0 rfl) ?_
  refine lv_ior hx hb dX7_addAsked_60 ?_
  refine lv_topi (fun z_19 ez_19 => ?_)
  refine yputI (ci := 7) (k := 5) (ty := .int) (C := RX7) (T := TX7) (N := 18) C0 hK hP hD hS hm_h0 hk_h0 (by decide) rfl inlX7 tyX7 tyX7_ok nmX7 (by decide) mW784 (fun _ h9 => h9) rfl (by decide +kernel) rfl rfl (Nat.le_of_ble_eq_true rfl) ysi_7_5 dX7_addAsked_61 (fun H locs hP hD hS => ?_)
  obtain ⟨d_20, ed_20⟩ : ∃ z : yD, z = yi d_17 h0 5 z_19 := ⟨_, rfl⟩
  rw [← ed_20] at hP hD
  have hgd_20 : yAg S [7, 22, 23] d d_20 := by rw [ed_20]; exact yAg.i hgd_17 (by rw [hk_h0]; decide)
  have hPod_20 : yPo S d_20 := by rw [ed_20]; exact yPo.i hPod_17 hk_h0 (Or.inl rfl)
  exact W.vret hx hb hr (fun t ht hW => ⟨⟨d_20, rfl, ⟨hgd_20, (fun _ => hPod_20), trivial⟩, by rw [ht]; exact hP, hD⟩, hS.F ht⟩) hS.2.2 dX7_addAsked_64
theorem dX7_choose_0 : decode cX7_choose 0 = .ok (.aload_n 0, 1) := by decide +kernel
theorem dX7_choose_1 : decode cX7_choose 1 = .ok (.bipush (-2), 2) := by decide +kernel
theorem dX7_choose_3 : decode cX7_choose 3 = .ok (.putfield 118, 3) := by decide +kernel
theorem dX7_choose_6 : decode cX7_choose 6 = .ok (.aload_n 0, 1) := by decide +kernel
theorem dX7_choose_7 : decode cX7_choose 7 = .ok (.iconst 2, 1) := by decide +kernel
theorem dX7_choose_8 : decode cX7_choose 8 = .ok (.putfield 121, 3) := by decide +kernel
theorem dX7_choose_11 : decode cX7_choose 11 = .ok (.aload_n 0, 1) := by decide +kernel
theorem dX7_choose_12 : decode cX7_choose 12 = .ok (.getfield 144, 3) := by decide +kernel
theorem dX7_choose_15 : decode cX7_choose 15 = .ok (.ifCond .ne 4, 3) := by decide +kernel
theorem dX7_choose_18 : decode cX7_choose 18 = .ok (.return_, 1) := by decide +kernel
theorem dX7_choose_19 : decode cX7_choose 19 = .ok (.aload_n 0, 1) := by decide +kernel
theorem dX7_choose_20 : decode cX7_choose 20 = .ok (.getfield 15, 3) := by decide +kernel
theorem dX7_choose_23 : decode cX7_choose 23 = .ok (.aload_n 0, 1) := by decide +kernel
theorem dX7_choose_24 : decode cX7_choose 24 = .ok (.getfield 144, 3) := by decide +kernel
theorem dX7_choose_27 : decode cX7_choose 27 = .ok (.iconst 1, 1) := by decide +kernel
theorem dX7_choose_28 : decode cX7_choose 28 = .ok (.isub, 1) := by decide +kernel
theorem dX7_choose_29 : decode cX7_choose 29 = .ok (.invokestatic 95, 3) := by decide +kernel
theorem dX7_choose_32 : decode cX7_choose 32 = .ok (.istore_n 1, 1) := by decide +kernel
theorem dX7_choose_33 : decode cX7_choose 33 = .ok (.aload_n 0, 1) := by decide +kernel
theorem dX7_choose_34 : decode cX7_choose 34 = .ok (.getfield 144, 3) := by decide +kernel
theorem dX7_choose_37 : decode cX7_choose 37 = .ok (.iconst 1, 1) := by decide +kernel
theorem dX7_choose_38 : decode cX7_choose 38 = .ok (.isub, 1) := by decide +kernel
theorem dX7_choose_39 : decode cX7_choose 39 = .ok (.istore_n 2, 1) := by decide +kernel
theorem dX7_choose_40 : decode cX7_choose 40 = .ok (.iload_n 2, 1) := by decide +kernel
theorem dX7_choose_41 : decode cX7_choose 41 = .ok (.ifCond .lt 80, 3) := by decide +kernel
theorem dX7_choose_44 : decode cX7_choose 44 = .ok (.aload_n 0, 1) := by decide +kernel
theorem dX7_choose_45 : decode cX7_choose 45 = .ok (.getfield 15, 3) := by decide +kernel
theorem dX7_choose_48 : decode cX7_choose 48 = .ok (.iload_n 2, 1) := by decide +kernel
theorem dX7_choose_49 : decode cX7_choose 49 = .ok (.invokestatic 95, 3) := by decide +kernel
theorem dX7_choose_52 : decode cX7_choose 52 = .ok (.istore_n 3, 1) := by decide +kernel
theorem dX7_choose_53 : decode cX7_choose 53 = .ok (.iconst 1, 1) := by decide +kernel
theorem dX7_choose_54 : decode cX7_choose 54 = .ok (.aload_n 0, 1) := by decide +kernel
theorem dX7_choose_55 : decode cX7_choose 55 = .ok (.getfield 18, 3) := by decide +kernel
theorem dX7_choose_58 : decode cX7_choose 58 = .ok (.getfield 86, 3) := by decide +kernel
theorem dX7_choose_61 : decode cX7_choose 61 = .ok (.getfield 90, 3) := by decide +kernel
theorem dX7_choose_64 : decode cX7_choose 64 = .ok (.iload_n 3, 1) := by decide +kernel
theorem dX7_choose_65 : decode cX7_choose 65 = .ok (.invokestatic 95, 3) := by decide +kernel
theorem dX7_choose_68 : decode cX7_choose 68 = .ok (.ishl, 1) := by decide +kernel
theorem dX7_choose_69 : decode cX7_choose 69 = .ok (.istore 4, 2) := by decide +kernel
theorem dX7_choose_71 : decode cX7_choose 71 = .ok (.aload_n 0, 1) := by decide +kernel
theorem dX7_choose_72 : decode cX7_choose 72 = .ok (.getfield 147, 3) := by decide +kernel
theorem dX7_choose_75 : decode cX7_choose 75 = .ok (.iload 4, 2) := by decide +kernel
theorem dX7_choose_77 : decode cX7_choose 77 = .ok (.iconst (-1), 1) := by decide +kernel
theorem dX7_choose_78 : decode cX7_choose 78 = .ok (.ixor, 1) := by decide +kernel
theorem dX7_choose_79 : decode cX7_choose 79 = .ok (.iand, 1) := by decide +kernel
theorem dX7_choose_80 : decode cX7_choose 80 = .ok (.aload_n 0, 1) := by decide +kernel
theorem dX7_choose_81 : decode cX7_choose 81 = .ok (.getfield 150, 3) := by decide +kernel
theorem dX7_choose_84 : decode cX7_choose 84 = .ok (.iload 4, 2) := by decide +kernel
theorem dX7_choose_86 : decode cX7_choose 86 = .ok (.iand, 1) := by decide +kernel
theorem dX7_choose_87 : decode cX7_choose 87 = .ok (.ior, 1) := by decide +kernel
theorem dX7_choose_88 : decode cX7_choose 88 = .ok (.istore 5, 2) := by decide +kernel
theorem dX7_choose_90 : decode cX7_choose 90 = .ok (.aload_n 0, 1) := by decide +kernel
theorem dX7_choose_91 : decode cX7_choose 91 = .ok (.getfield 18, 3) := by decide +kernel
theorem dX7_choose_94 : decode cX7_choose 94 = .ok (.getfield 86, 3) := by decide +kernel
theorem dX7_choose_97 : decode cX7_choose 97 = .ok (.getfield 172, 3) := by decide +kernel
theorem dX7_choose_100 : decode cX7_choose 100 = .ok (.iload_n 3, 1) := by decide +kernel
theorem dX7_choose_101 : decode cX7_choose 101 = .ok (.invokestatic 95, 3) := by decide +kernel
theorem dX7_choose_104 : decode cX7_choose 104 = .ok (.iload 5, 2) := by decide +kernel
theorem dX7_choose_106 : decode cX7_choose 106 = .ok (.iand, 1) := by decide +kernel
theorem dX7_choose_107 : decode cX7_choose 107 = .ok (.ifCond .ne 8, 3) := by decide +kernel
theorem dX7_choose_110 : decode cX7_choose 110 = .ok (.iload_n 3, 1) := by decide +kernel
theorem dX7_choose_111 : decode cX7_choose 111 = .ok (.istore_n 1, 1) := by decide +kernel
theorem dX7_choose_112 : decode cX7_choose 112 = .ok (.goto 9, 3) := by decide +kernel
theorem dX7_choose_115 : decode cX7_choose 115 = .ok (.iinc 2 (-1), 3) := by decide +kernel
theorem dX7_choose_118 : decode cX7_choose 118 = .ok (.goto (-78), 3) := by decide +kernel
theorem dX7_choose_121 : decode cX7_choose 121 = .ok (.aload_n 0, 1) := by decide +kernel
theorem dX7_choose_122 : decode cX7_choose 122 = .ok (.iload_n 1, 1) := by decide +kernel
theorem dX7_choose_123 : decode cX7_choose 123 = .ok (.bipush 60, 2) := by decide +kernel
theorem dX7_choose_125 : decode cX7_choose 125 = .ok (.irem, 1) := by decide +kernel
theorem dX7_choose_126 : decode cX7_choose 126 = .ok (.putfield 118, 3) := by decide +kernel
theorem dX7_choose_129 : decode cX7_choose 129 = .ok (.aload_n 0, 1) := by decide +kernel
theorem dX7_choose_130 : decode cX7_choose 130 = .ok (.aload_n 0, 1) := by decide +kernel
theorem dX7_choose_131 : decode cX7_choose 131 = .ok (.aload_n 0, 1) := by decide +kernel
theorem dX7_choose_132 : decode cX7_choose 132 = .ok (.getfield 18, 3) := by decide +kernel
theorem dX7_choose_135 : decode cX7_choose 135 = .ok (.getfield 86, 3) := by decide +kernel
theorem dX7_choose_138 : decode cX7_choose 138 = .ok (.getfield 90, 3) := by decide +kernel
theorem dX7_choose_141 : decode cX7_choose 141 = .ok (.iload_n 1, 1) := by decide +kernel
theorem dX7_choose_142 : decode cX7_choose 142 = .ok (.invokestatic 95, 3) := by decide +kernel
theorem dX7_choose_145 : decode cX7_choose 145 = .ok (.aload_n 0, 1) := by decide +kernel
theorem dX7_choose_146 : decode cX7_choose 146 = .ok (.getfield 18, 3) := by decide +kernel
theorem dX7_choose_149 : decode cX7_choose 149 = .ok (.getfield 86, 3) := by decide +kernel
theorem dX7_choose_152 : decode cX7_choose 152 = .ok (.getfield 175, 3) := by decide +kernel
theorem dX7_choose_155 : decode cX7_choose 155 = .ok (.iload_n 1, 1) := by decide +kernel
theorem dX7_choose_156 : decode cX7_choose 156 = .ok (.invokestatic 95, 3) := by decide +kernel
theorem dX7_choose_159 : decode cX7_choose 159 = .ok (.invokevirtual 178, 3) := by decide +kernel
theorem dX7_choose_162 : decode cX7_choose 162 = .ok (.putfield 121, 3) := by decide +kernel
theorem dX7_choose_165 : decode cX7_choose 165 = .ok (.return_, 1) := by decide +kernel
set_option maxHeartbeats 4000000 in
set_option maxRecDepth 100000 in
theorem g_X7_choose (l : Launch) (G : xG) (S : yS) (d : yD) (h0 : Nat) (hSh : ySh S) (hPo : yPo S d) (hm_h0 : h0 ∈ S.1) (hk_h0 : S.2.1 h0 = 7) : xWv l G yX7_choose cX7_choose 6 none 1 23 0 0 [.ref h0] (yW G S d) (fun u : yD => yAg S [7, 22, 23] d u ∧ (yPo S d → yPo S u) ∧ (True)) (fun u => yW G S u) := by
  intro sz
  refine xstart (by decide) (Nat.le_of_ble_eq_true rfl) (fun p e s m args below meth c ls C0 hr hlocks hin hsz hP hK hD hN hl => ?_)
  obtain ⟨hx, hb, hml, hown, htl⟩ := id C0
  subst hsz
  have hD := hD.self (sz := s.heap.size)
  generalize hAe : va_A (yW G S d) s.heap.size = A at hD ⊢
  have hA : ∀ q : Nat, s.heap.size ≤ q → A q := fun q h => by rw [← hAe]; exact Or.inr h
  have hS : va_S A s.heap s.heap [] := va_S.rf
  have hg0 : yAg S [7, 22, 23] d d := yAg.rf
  have hl : lv_has ls 6 [(0, .ref h0)] := hl
  refine lv_aload_n hx hb dX7_choose_0 rfl (lv_at hl 0 rfl) ?_
  refine lv_bipush (v := (-2)) hx hb dX7_choose_1 (by decide) ?_
  refine yputI (ci := 7) (k := 17) (ty := .int) (C := RX7) (T := TX7) (N := 18) C0 hK hP hD hS hm_h0 hk_h0 (by decide) rfl inlX7 tyX7 tyX7_ok nmX7 (by decide) mW767 (fun _ h9 => h9) rfl (by decide +kernel) rfl rfl (Nat.le_of_ble_eq_true rfl) ysi_7_17 dX7_choose_3 (fun H locs hP hD hS => ?_)
  obtain ⟨d_1, ed_1⟩ : ∃ z : yD, z = yi d h0 17 (-2) := ⟨_, rfl⟩
  rw [← ed_1] at hP hD
  have hgd_1 : yAg S [7, 22, 23] d d_1 := by rw [ed_1]; exact yAg.i hg0 (by rw [hk_h0]; decide)
  have hPod_1 : yPo S d_1 := by rw [ed_1]; exact yPo.i hPo hk_h0 (Or.inl rfl)
  refine lv_aload_n hx hb dX7_choose_6 rfl (lv_at hl 0 rfl) ?_
  refine lv_iconst (v := 2) hx hb dX7_choose_7 (by decide) ?_
  refine yputI (ci := 7) (k := 16) (ty := .int) (C := RX7) (T := TX7) (N := 18) C0 hK hP hD hS hm_h0 hk_h0 (by decide) rfl inlX7 tyX7 tyX7_ok nmX7 (by decide) mW768 (fun _ h9 => h9) rfl (by decide +kernel) rfl rfl (Nat.le_of_ble_eq_true rfl) ysi_7_16 dX7_choose_8 (fun H locs hP hD hS => ?_)
  obtain ⟨d_2, ed_2⟩ : ∃ z : yD, z = yi d_1 h0 16 2 := ⟨_, rfl⟩
  rw [← ed_2] at hP hD
  have hgd_2 : yAg S [7, 22, 23] d d_2 := by rw [ed_2]; exact yAg.i hgd_1 (by rw [hk_h0]; decide)
  have hPod_2 : yPo S d_2 := by rw [ed_2]; exact yPo.i hPod_1 hk_h0 (Or.inl rfl)
  refine lv_aload_n hx hb dX7_choose_11 rfl (lv_at hl 0 rfl) ?_
  refine yget (ci := 7) (k := 4) (v := .int (d_2.1 h0 4)) (C := RX7) (T := TX7) (N := 18) C0 hK hP hm_h0 hk_h0 (by decide) rfl inlX7 (by decide) mW783 (fun _ h9 => h9) rfl dX7_choose_12 ?_
  refine lv_topi (fun z_3 ez_3 => ?_)
  refine lv_if_ne (tgt := 19) hx hb dX7_choose_15 (by decide) (fun c_4 => ?_) (fun c_4 => ?_)
  · refine lv_aload_n hx hb dX7_choose_19 rfl (lv_at hl 0 rfl) ?_
    refine yget (ci := 7) (k := 2) (v := .ref (S.2.2.1 h0 2)) (C := RX7) (T := TX7) (N := 18) C0 hK hP hm_h0 hk_h0 (by decide) rfl inlX7 (by decide) mW95 (fun _ h9 => h9) rfl dX7_choose_20 ?_
    obtain ⟨hmy_5, hky_5⟩ := ySh.f7_2 hSh _ hm_h0 hk_h0
    refine lv_aload_n hx hb dX7_choose_23 rfl (lv_at hl 0 rfl) ?_
    refine yget (ci := 7) (k := 4) (v := .int (d_2.1 h0 4)) (C := RX7) (T := TX7) (N := 18) C0 hK hP hm_h0 hk_h0 (by decide) rfl inlX7 (by decide) mW783 (fun _ h9 => h9) rfl dX7_choose_24 ?_
    refine lv_topi (fun z_6 ez_6 => ?_)
    refine lv_iconst (v := 1) hx hb dX7_choose_27 (by decide) ?_
    refine lv_isub hx hb dX7_choose_28 ?_
    refine lv_topi (fun z_7 ez_7 => ?_)
    refine ySNri (As := [.ref (S.2.2.1 h0 2), .int z_7]) (rest := []) C0 (g_X8_at l G S d_2 (S.2.2.1 h0 2) 23 z_7 hmy_5 hky_5 (by decide) rfl rfl (by decide)) ok_X8_at (xN.n12 hN) ⟨Nat.le_of_ble_eq_true rfl, Nat.le_of_ble_eq_true rfl⟩ hP hD hK hN rfl hl.1 rfl (Nat.le_of_ble_eq_true rfl) ⟨Nat.le_of_ble_eq_true rfl, Nat.le_of_ble_eq_true rfl⟩ dX7_choose_29 (fun r_8 hr_8 => ?_)
    refine lv_istore_n (lv' := [(1, .int r_8), (0, .ref h0)]) hx hb dX7_choose_32 rfl hl (by decide) rfl (fun ls hl => ?_)
    refine lv_aload_n hx hb dX7_choose_33 rfl (lv_at hl 1 rfl) ?_
    refine yget (ci := 7) (k := 4) (v := .int (d_2.1 h0 4)) (C := RX7) (T := TX7) (N := 18) C0 hK hP hm_h0 hk_h0 (by decide) rfl inlX7 (by decide) mW783 (fun _ h9 => h9) rfl dX7_choose_34 ?_
    refine lv_topi (fun z_9 ez_9 => ?_)
    refine lv_iconst (v := 1) hx hb dX7_choose_37 (by decide) ?_
    refine lv_isub hx hb dX7_choose_38 ?_
    refine lv_topi (fun z_10 ez_10 => ?_)
    refine lv_istore_n (lv' := [(2, .int z_10), (1, .int r_8), (0, .ref h0)]) hx hb dX7_choose_39 rfl hl (by decide) rfl (fun ls hl => ?_)
    refine yloop (σ := Int32 × yD) (fun x => ((x.1 : Int32).toInt + 2147483648).toNat) 40 (fun x H locs ls => va_P G.1 xcl (yW G S x.2) H ∧ va_D A (yW G S x.2) ∧ va_S A s.heap H locs ∧ yAg S [7, 22, 23] d x.2 ∧ yPo S x.2 ∧ lv_has ls 6 [(2, .int x.1), (1, .int r_8), (0, .ref h0)]) (fun x H locs ls hI hnext_13 => ?_) (z_10, d_2) ⟨hP, hD, hS, hgd_2, hPod_2, lv_sub hl [0, 1, 2] rfl⟩
    obtain ⟨v_11, d_12⟩ := x
    obtain ⟨hP, hD, hS, hgd_12, hPod_12, hl⟩ := hI
    have hl : lv_has ls 6 [(2, .int v_11), (1, .int r_8), (0, .ref h0)] := hl
    refine lv_iload_n hx hb dX7_choose_40 rfl (lv_at hl 0 rfl) ?_
    refine lv_if_lt (tgt := 121) hx hb dX7_choose_41 (by decide) (fun c_14 => ?_) (fun c_14 => ?_)
    · refine lv_aload_n hx hb dX7_choose_121 rfl (lv_at hl 2 rfl) ?_
      refine lv_iload_n hx hb dX7_choose_122 rfl (lv_at hl 1 rfl) ?_
      refine lv_bipush (v := 60) hx hb dX7_choose_123 (by decide) ?_
      refine lv_irem hx hb dX7_choose_125 (by decide) ?_
      refine lv_topi (fun z_15 ez_15 => ?_)
      refine yputI (ci := 7) (k := 17) (ty := .int) (C := RX7) (T := TX7) (N := 18) C0 hK hP hD hS hm_h0 hk_h0 (by decide) rfl inlX7 tyX7 tyX7_ok nmX7 (by decide) mW767 (fun _ h9 => h9) rfl (by decide +kernel) rfl rfl (Nat.le_of_ble_eq_true rfl) ysi_7_17 dX7_choose_126 (fun H locs hP hD hS => ?_)
      obtain ⟨d_16, ed_16⟩ : ∃ z : yD, z = yi d_12 h0 17 z_15 := ⟨_, rfl⟩
      rw [← ed_16] at hP hD
      have hgd_16 : yAg S [7, 22, 23] d d_16 := by rw [ed_16]; exact yAg.i hgd_12 (by rw [hk_h0]; decide)
      have hPod_16 : yPo S d_16 := by rw [ed_16]; exact yPo.i hPod_12 hk_h0 (Or.inl rfl)
      refine lv_aload_n hx hb dX7_choose_129 rfl (lv_at hl 2 rfl) ?_
      refine lv_aload_n hx hb dX7_choose_130 rfl (lv_at hl 2 rfl) ?_
      refine lv_aload_n hx hb dX7_choose_131 rfl (lv_at hl 2 rfl) ?_
      refine yget (ci := 7) (k := 0) (v := .ref (S.2.2.1 h0 0)) (C := RX7) (T := TX7) (N := 18) C0 hK hP hm_h0 hk_h0 (by decide) rfl inlX7 (by decide) mW96 (fun _ h9 => h9) rfl dX7_choose_132 ?_
      obtain ⟨hmy_17, hky_17⟩ := ySh.f7_0 hSh _ hm_h0 hk_h0
      refine yget (ci := 0) (k := 0) (v := .ref (S.2.2.1 (S.2.2.1 h0 0) 0)) (C := RX0) (T := TX0) (N := 6) C0 hK hP hmy_17 hky_17 (by decide) rfl inlX0 (by decide) mW755 (fun _ h9 => h9) rfl dX7_choose_135 ?_
      obtain ⟨hmy_18, hky_18⟩ := ySh.f0_0 hSh _ hmy_17 hky_17
      refine yget (ci := 6) (k := 0) (v := .ref (S.2.2.1 (S.2.2.1 (S.2.2.1 h0 0) 0) 0)) (C := RX6) (T := TX6) (N := 7) C0 hK hP hmy_18 hky_18 (by decide) rfl inlX6 (by decide) mW756 (fun _ h9 => h9) rfl dX7_choose_138 ?_
      obtain ⟨hmy_19, hky_19⟩ := ySh.f6_0 hSh _ hmy_18 hky_18
      refine lv_iload_n hx hb dX7_choose_141 rfl (lv_at hl 1 rfl) ?_
      refine ySNri (As := [.ref (S.2.2.1 (S.2.2.1 (S.2.2.1 h0 0) 0) 0), .int r_8]) (rest := [.ref h0, .ref h0]) C0 (g_X8_at l G S d_16 (S.2.2.1 (S.2.2.1 (S.2.2.1 h0 0) 0) 0) 10 r_8 hmy_19 hky_19 (by decide) rfl rfl (by decide)) ok_X8_at (xN.n12 hN) ⟨Nat.le_of_ble_eq_true rfl, Nat.le_of_ble_eq_true rfl⟩ hP hD hK hN rfl hl.1 rfl (Nat.le_of_ble_eq_true rfl) ⟨Nat.le_of_ble_eq_true rfl, Nat.le_of_ble_eq_true rfl⟩ dX7_choose_142 (fun r_20 hr_20 => ?_)
      refine lv_aload_n hx hb dX7_choose_145 rfl (lv_at hl 2 rfl) ?_
      refine yget (ci := 7) (k := 0) (v := .ref (S.2.2.1 h0 0)) (C := RX7) (T := TX7) (N := 18) C0 hK hP hm_h0 hk_h0 (by decide) rfl inlX7 (by decide) mW96 (fun _ h9 => h9) rfl dX7_choose_146 ?_
      refine yget (ci := 0) (k := 0) (v := .ref (S.2.2.1 (S.2.2.1 h0 0) 0)) (C := RX0) (T := TX0) (N := 6) C0 hK hP hmy_17 hky_17 (by decide) rfl inlX0 (by decide) mW755 (fun _ h9 => h9) rfl dX7_choose_149 ?_
      refine yget (ci := 6) (k := 5) (v := .ref (S.2.2.1 (S.2.2.1 (S.2.2.1 h0 0) 0) 5)) (C := RX6) (T := TX6) (N := 7) C0 hK hP hmy_18 hky_18 (by decide) rfl inlX6 (by decide) mW803 (fun _ h9 => h9) rfl dX7_choose_152 ?_
      obtain ⟨hmy_21, hky_21⟩ := ySh.f6_5 hSh _ hmy_18 hky_18
      refine lv_iload_n hx hb dX7_choose_155 rfl (lv_at hl 1 rfl) ?_
      refine ySNri (As := [.ref (S.2.2.1 (S.2.2.1 (S.2.2.1 h0 0) 0) 5), .int r_8]) (rest := [.int r_20, .ref h0, .ref h0]) C0 (g_X8_at l G S d_16 (S.2.2.1 (S.2.2.1 (S.2.2.1 h0 0) 0) 5) 15 r_8 hmy_21 hky_21 (by decide) rfl rfl (by decide)) ok_X8_at (xN.n12 hN) ⟨Nat.le_of_ble_eq_true rfl, Nat.le_of_ble_eq_true rfl⟩ hP hD hK hN rfl hl.1 rfl (Nat.le_of_ble_eq_true rfl) ⟨Nat.le_of_ble_eq_true rfl, Nat.le_of_ble_eq_true rfl⟩ dX7_choose_156 (fun r_22 hr_22 => ?_)
      refine yVri (As := [.int r_20, .int r_22]) (rest := [.ref h0]) C0 (g_X7_halvesBy l G S d_16 h0 r_20 r_22 hSh hm_h0 hk_h0) ok_X7_halvesBy (mW804 : Cond.methodLink RX7 178 yX7_halvesBy ∈ wsT) ⟨Nat.le_of_ble_eq_true rfl, Nat.le_of_ble_eq_true rfl⟩ hP hD hK hN hm_h0 hk_h0 (by decide) rfl rfl rfl hl.1 rfl (Nat.le_of_ble_eq_true rfl) ⟨Nat.le_of_ble_eq_true rfl, Nat.le_of_ble_eq_true rfl⟩ dX7_choose_159 (fun r_23 hr_23 => ?_)
      refine yputI (ci := 7) (k := 16) (ty := .int) (C := RX7) (T := TX7) (N := 18) C0 hK hP hD hS hm_h0 hk_h0 (by decide) rfl inlX7 tyX7 tyX7_ok nmX7 (by decide) mW768 (fun _ h9 => h9) rfl (by decide +kernel) rfl rfl (Nat.le_of_ble_eq_true rfl) ysi_7_16 dX7_choose_162 (fun H locs hP hD hS => ?_)
      obtain ⟨d_24, ed_24⟩ : ∃ z : yD, z = yi d_16 h0 16 r_23 := ⟨_, rfl⟩
      rw [← ed_24] at hP hD
      have hgd_24 : yAg S [7, 22, 23] d d_24 := by rw [ed_24]; exact yAg.i hgd_16 (by rw [hk_h0]; decide)
      have hPod_24 : yPo S d_24 := by rw [ed_24]; exact yPo.i hPod_16 hk_h0 (Or.inl rfl)
      exact W.vret hx hb hr (fun t ht hW => ⟨⟨d_24, rfl, ⟨hgd_24, (fun _ => hPod_24), trivial⟩, by rw [ht]; exact hP, hD⟩, hS.F ht⟩) hS.2.2 dX7_choose_165
    · refine lv_aload_n hx hb dX7_choose_44 rfl (lv_at hl 2 rfl) ?_
      refine yget (ci := 7) (k := 2) (v := .ref (S.2.2.1 h0 2)) (C := RX7) (T := TX7) (N := 18) C0 hK hP hm_h0 hk_h0 (by decide) rfl inlX7 (by decide) mW95 (fun _ h9 => h9) rfl dX7_choose_45 ?_
      refine lv_iload_n hx hb dX7_choose_48 rfl (lv_at hl 0 rfl) ?_
      refine ySNri (As := [.ref (S.2.2.1 h0 2), .int v_11]) (rest := []) C0 (g_X8_at l G S d_12 (S.2.2.1 h0 2) 23 v_11 hmy_5 hky_5 (by decide) rfl rfl (by decide)) ok_X8_at (xN.n12 hN) ⟨Nat.le_of_ble_eq_true rfl, Nat.le_of_ble_eq_true rfl⟩ hP hD hK hN rfl hl.1 rfl (Nat.le_of_ble_eq_true rfl) ⟨Nat.le_of_ble_eq_true rfl, Nat.le_of_ble_eq_true rfl⟩ dX7_choose_49 (fun r_25 hr_25 => ?_)
      refine lv_istore_n (lv' := [(3, .int r_25), (2, .int v_11), (1, .int r_8), (0, .ref h0)]) hx hb dX7_choose_52 rfl hl (by decide) rfl (fun ls hl => ?_)
      refine lv_iconst (v := 1) hx hb dX7_choose_53 (by decide) ?_
      refine lv_aload_n hx hb dX7_choose_54 rfl (lv_at hl 3 rfl) ?_
      refine yget (ci := 7) (k := 0) (v := .ref (S.2.2.1 h0 0)) (C := RX7) (T := TX7) (N := 18) C0 hK hP hm_h0 hk_h0 (by decide) rfl inlX7 (by decide) mW96 (fun _ h9 => h9) rfl dX7_choose_55 ?_
      obtain ⟨hmy_26, hky_26⟩ := ySh.f7_0 hSh _ hm_h0 hk_h0
      refine yget (ci := 0) (k := 0) (v := .ref (S.2.2.1 (S.2.2.1 h0 0) 0)) (C := RX0) (T := TX0) (N := 6) C0 hK hP hmy_26 hky_26 (by decide) rfl inlX0 (by decide) mW755 (fun _ h9 => h9) rfl dX7_choose_58 ?_
      obtain ⟨hmy_27, hky_27⟩ := ySh.f0_0 hSh _ hmy_26 hky_26
      refine yget (ci := 6) (k := 0) (v := .ref (S.2.2.1 (S.2.2.1 (S.2.2.1 h0 0) 0) 0)) (C := RX6) (T := TX6) (N := 7) C0 hK hP hmy_27 hky_27 (by decide) rfl inlX6 (by decide) mW756 (fun _ h9 => h9) rfl dX7_choose_61 ?_
      obtain ⟨hmy_28, hky_28⟩ := ySh.f6_0 hSh _ hmy_27 hky_27
      refine lv_iload_n hx hb dX7_choose_64 rfl (lv_at hl 0 rfl) ?_
      refine ySNri (As := [.ref (S.2.2.1 (S.2.2.1 (S.2.2.1 h0 0) 0) 0), .int r_25]) (rest := [.int 1]) C0 (g_X8_at l G S d_12 (S.2.2.1 (S.2.2.1 (S.2.2.1 h0 0) 0) 0) 10 r_25 hmy_28 hky_28 (by decide) rfl rfl (by decide)) ok_X8_at (xN.n12 hN) ⟨Nat.le_of_ble_eq_true rfl, Nat.le_of_ble_eq_true rfl⟩ hP hD hK hN rfl hl.1 rfl (Nat.le_of_ble_eq_true rfl) ⟨Nat.le_of_ble_eq_true rfl, Nat.le_of_ble_eq_true rfl⟩ dX7_choose_65 (fun r_29 hr_29 => ?_)
      refine lv_ishl hx hb dX7_choose_68 ?_
      refine lv_topi (fun z_30 ez_30 => ?_)
      refine lv_istore (lv' := [(4, .int z_30), (3, .int r_25), (2, .int v_11), (1, .int r_8), (0, .ref h0)]) hx hb dX7_choose_69 hl (by decide) rfl (fun ls hl => ?_)
      refine lv_aload_n hx hb dX7_choose_71 rfl (lv_at hl 4 rfl) ?_
      refine yget (ci := 7) (k := 5) (v := .int (d_12.1 h0 5)) (C := RX7) (T := TX7) (N := 18) C0 hK hP hm_h0 hk_h0 (by decide) rfl inlX7 (by decide) mW784 (fun _ h9 => h9) rfl dX7_choose_72 ?_
      refine lv_topi (fun z_31 ez_31 => ?_)
      refine lv_iload hx hb dX7_choose_75 (lv_at hl 0 rfl) ?_
      refine lv_iconst (v := (-1)) hx hb dX7_choose_77 (by decide) ?_
      refine lv_ixor hx hb dX7_choose_78 ?_
      refine lv_topi (fun z_32 ez_32 => ?_)
      refine lv_iand hx hb dX7_choose_79 ?_
      refine lv_topi (fun z_33 ez_33 => ?_)
      refine lv_aload_n hx hb dX7_choose_80 rfl (lv_at hl 4 rfl) ?_
      refine yget (ci := 7) (k := 6) (v := .int (d_12.1 h0 6)) (C := RX7) (T := TX7) (N := 18) C0 hK hP hm_h0 hk_h0 (by decide) rfl inlX7 (by decide) mW785 (fun _ h9 => h9) rfl dX7_choose_81 ?_
      refine lv_topi (fun z_34 ez_34 => ?_)
      refine lv_iload hx hb dX7_choose_84 (lv_at hl 0 rfl) ?_
      refine lv_iand hx hb dX7_choose_86 ?_
      refine lv_topi (fun z_35 ez_35 => ?_)
      refine lv_ior hx hb dX7_choose_87 ?_
      refine lv_topi (fun z_36 ez_36 => ?_)
      refine lv_istore (lv' := [(5, .int z_36), (4, .int z_30), (3, .int r_25), (2, .int v_11), (1, .int r_8), (0, .ref h0)]) hx hb dX7_choose_88 hl (by decide) rfl (fun ls hl => ?_)
      refine lv_aload_n hx hb dX7_choose_90 rfl (lv_at hl 5 rfl) ?_
      refine yget (ci := 7) (k := 0) (v := .ref (S.2.2.1 h0 0)) (C := RX7) (T := TX7) (N := 18) C0 hK hP hm_h0 hk_h0 (by decide) rfl inlX7 (by decide) mW96 (fun _ h9 => h9) rfl dX7_choose_91 ?_
      refine yget (ci := 0) (k := 0) (v := .ref (S.2.2.1 (S.2.2.1 h0 0) 0)) (C := RX0) (T := TX0) (N := 6) C0 hK hP hmy_26 hky_26 (by decide) rfl inlX0 (by decide) mW755 (fun _ h9 => h9) rfl dX7_choose_94 ?_
      refine yget (ci := 6) (k := 4) (v := .ref (S.2.2.1 (S.2.2.1 (S.2.2.1 h0 0) 0) 4)) (C := RX6) (T := TX6) (N := 7) C0 hK hP hmy_27 hky_27 (by decide) rfl inlX6 (by decide) mW802 (fun _ h9 => h9) rfl dX7_choose_97 ?_
      obtain ⟨hmy_37, hky_37⟩ := ySh.f6_4 hSh _ hmy_27 hky_27
      refine lv_iload_n hx hb dX7_choose_100 rfl (lv_at hl 2 rfl) ?_
      refine ySNri (As := [.ref (S.2.2.1 (S.2.2.1 (S.2.2.1 h0 0) 0) 4), .int r_25]) (rest := []) C0 (g_X8_at l G S d_12 (S.2.2.1 (S.2.2.1 (S.2.2.1 h0 0) 0) 4) 14 r_25 hmy_37 hky_37 (by decide) rfl rfl (by decide)) ok_X8_at (xN.n12 hN) ⟨Nat.le_of_ble_eq_true rfl, Nat.le_of_ble_eq_true rfl⟩ hP hD hK hN rfl hl.1 rfl (Nat.le_of_ble_eq_true rfl) ⟨Nat.le_of_ble_eq_true rfl, Nat.le_of_ble_eq_true rfl⟩ dX7_choose_101 (fun r_38 hr_38 => ?_)
      refine lv_iload hx hb dX7_choose_104 (lv_at hl 0 rfl) ?_
      refine lv_iand hx hb dX7_choose_106 ?_
      refine lv_topi (fun z_39 ez_39 => ?_)
      refine lv_if_ne (tgt := 115) hx hb dX7_choose_107 (by decide) (fun c_40 => ?_) (fun c_40 => ?_)
      · refine lv_iinc (v := v_11 + (-1)) (lv' := [(2, .int (v_11 + (-1))), (5, .int z_36), (4, .int z_30), (3, .int r_25), (1, .int r_8), (0, .ref h0)]) hx hb dX7_choose_115 hl (k := 3) rfl rfl (by decide) rfl (fun ls hl => ?_)
        refine lv_goto (tgt := 40) hx hb dX7_choose_118 (by decide) ?_
        exact hnext_13 (v_11 + (-1), d_12) _ _ ls (xdn c_14 (by decide +kernel)) ⟨hP, hD, hS, hgd_12, hPod_12, lv_sub hl [0, 4, 5] rfl⟩
      · refine lv_iload_n hx hb dX7_choose_110 rfl (lv_at hl 2 rfl) ?_
        refine lv_istore_n (lv' := [(1, .int r_25), (5, .int z_36), (4, .int z_30), (3, .int r_25), (2, .int v_11), (0, .ref h0)]) hx hb dX7_choose_111 rfl hl (by decide) rfl (fun ls hl => ?_)
        refine lv_goto (tgt := 121) hx hb dX7_choose_112 (by decide) ?_
        refine lv_aload_n hx hb dX7_choose_121 rfl (lv_at hl 5 rfl) ?_
        refine lv_iload_n hx hb dX7_choose_122 rfl (lv_at hl 0 rfl) ?_
        refine lv_bipush (v := 60) hx hb dX7_choose_123 (by decide) ?_
        refine lv_irem hx hb dX7_choose_125 (by decide) ?_
        refine lv_topi (fun z_42 ez_42 => ?_)
        refine yputI (ci := 7) (k := 17) (ty := .int) (C := RX7) (T := TX7) (N := 18) C0 hK hP hD hS hm_h0 hk_h0 (by decide) rfl inlX7 tyX7 tyX7_ok nmX7 (by decide) mW767 (fun _ h9 => h9) rfl (by decide +kernel) rfl rfl (Nat.le_of_ble_eq_true rfl) ysi_7_17 dX7_choose_126 (fun H locs hP hD hS => ?_)
        obtain ⟨d_43, ed_43⟩ : ∃ z : yD, z = yi d_12 h0 17 z_42 := ⟨_, rfl⟩
        rw [← ed_43] at hP hD
        have hgd_43 : yAg S [7, 22, 23] d d_43 := by rw [ed_43]; exact yAg.i hgd_12 (by rw [hk_h0]; decide)
        have hPod_43 : yPo S d_43 := by rw [ed_43]; exact yPo.i hPod_12 hk_h0 (Or.inl rfl)
        refine lv_aload_n hx hb dX7_choose_129 rfl (lv_at hl 5 rfl) ?_
        refine lv_aload_n hx hb dX7_choose_130 rfl (lv_at hl 5 rfl) ?_
        refine lv_aload_n hx hb dX7_choose_131 rfl (lv_at hl 5 rfl) ?_
        refine yget (ci := 7) (k := 0) (v := .ref (S.2.2.1 h0 0)) (C := RX7) (T := TX7) (N := 18) C0 hK hP hm_h0 hk_h0 (by decide) rfl inlX7 (by decide) mW96 (fun _ h9 => h9) rfl dX7_choose_132 ?_
        refine yget (ci := 0) (k := 0) (v := .ref (S.2.2.1 (S.2.2.1 h0 0) 0)) (C := RX0) (T := TX0) (N := 6) C0 hK hP hmy_26 hky_26 (by decide) rfl inlX0 (by decide) mW755 (fun _ h9 => h9) rfl dX7_choose_135 ?_
        refine yget (ci := 6) (k := 0) (v := .ref (S.2.2.1 (S.2.2.1 (S.2.2.1 h0 0) 0) 0)) (C := RX6) (T := TX6) (N := 7) C0 hK hP hmy_27 hky_27 (by decide) rfl inlX6 (by decide) mW756 (fun _ h9 => h9) rfl dX7_choose_138 ?_
        refine lv_iload_n hx hb dX7_choose_141 rfl (lv_at hl 0 rfl) ?_
        refine ySNri (As := [.ref (S.2.2.1 (S.2.2.1 (S.2.2.1 h0 0) 0) 0), .int r_25]) (rest := [.ref h0, .ref h0]) C0 (g_X8_at l G S d_43 (S.2.2.1 (S.2.2.1 (S.2.2.1 h0 0) 0) 0) 10 r_25 hmy_28 hky_28 (by decide) rfl rfl (by decide)) ok_X8_at (xN.n12 hN) ⟨Nat.le_of_ble_eq_true rfl, Nat.le_of_ble_eq_true rfl⟩ hP hD hK hN rfl hl.1 rfl (Nat.le_of_ble_eq_true rfl) ⟨Nat.le_of_ble_eq_true rfl, Nat.le_of_ble_eq_true rfl⟩ dX7_choose_142 (fun r_44 hr_44 => ?_)
        refine lv_aload_n hx hb dX7_choose_145 rfl (lv_at hl 5 rfl) ?_
        refine yget (ci := 7) (k := 0) (v := .ref (S.2.2.1 h0 0)) (C := RX7) (T := TX7) (N := 18) C0 hK hP hm_h0 hk_h0 (by decide) rfl inlX7 (by decide) mW96 (fun _ h9 => h9) rfl dX7_choose_146 ?_
        refine yget (ci := 0) (k := 0) (v := .ref (S.2.2.1 (S.2.2.1 h0 0) 0)) (C := RX0) (T := TX0) (N := 6) C0 hK hP hmy_26 hky_26 (by decide) rfl inlX0 (by decide) mW755 (fun _ h9 => h9) rfl dX7_choose_149 ?_
        refine yget (ci := 6) (k := 5) (v := .ref (S.2.2.1 (S.2.2.1 (S.2.2.1 h0 0) 0) 5)) (C := RX6) (T := TX6) (N := 7) C0 hK hP hmy_27 hky_27 (by decide) rfl inlX6 (by decide) mW803 (fun _ h9 => h9) rfl dX7_choose_152 ?_
        obtain ⟨hmy_45, hky_45⟩ := ySh.f6_5 hSh _ hmy_27 hky_27
        refine lv_iload_n hx hb dX7_choose_155 rfl (lv_at hl 0 rfl) ?_
        refine ySNri (As := [.ref (S.2.2.1 (S.2.2.1 (S.2.2.1 h0 0) 0) 5), .int r_25]) (rest := [.int r_44, .ref h0, .ref h0]) C0 (g_X8_at l G S d_43 (S.2.2.1 (S.2.2.1 (S.2.2.1 h0 0) 0) 5) 15 r_25 hmy_45 hky_45 (by decide) rfl rfl (by decide)) ok_X8_at (xN.n12 hN) ⟨Nat.le_of_ble_eq_true rfl, Nat.le_of_ble_eq_true rfl⟩ hP hD hK hN rfl hl.1 rfl (Nat.le_of_ble_eq_true rfl) ⟨Nat.le_of_ble_eq_true rfl, Nat.le_of_ble_eq_true rfl⟩ dX7_choose_156 (fun r_46 hr_46 => ?_)
        refine yVri (As := [.int r_44, .int r_46]) (rest := [.ref h0]) C0 (g_X7_halvesBy l G S d_43 h0 r_44 r_46 hSh hm_h0 hk_h0) ok_X7_halvesBy (mW804 : Cond.methodLink RX7 178 yX7_halvesBy ∈ wsT) ⟨Nat.le_of_ble_eq_true rfl, Nat.le_of_ble_eq_true rfl⟩ hP hD hK hN hm_h0 hk_h0 (by decide) rfl rfl rfl hl.1 rfl (Nat.le_of_ble_eq_true rfl) ⟨Nat.le_of_ble_eq_true rfl, Nat.le_of_ble_eq_true rfl⟩ dX7_choose_159 (fun r_47 hr_47 => ?_)
        refine yputI (ci := 7) (k := 16) (ty := .int) (C := RX7) (T := TX7) (N := 18) C0 hK hP hD hS hm_h0 hk_h0 (by decide) rfl inlX7 tyX7 tyX7_ok nmX7 (by decide) mW768 (fun _ h9 => h9) rfl (by decide +kernel) rfl rfl (Nat.le_of_ble_eq_true rfl) ysi_7_16 dX7_choose_162 (fun H locs hP hD hS => ?_)
        obtain ⟨d_48, ed_48⟩ : ∃ z : yD, z = yi d_43 h0 16 r_47 := ⟨_, rfl⟩
        rw [← ed_48] at hP hD
        have hgd_48 : yAg S [7, 22, 23] d d_48 := by rw [ed_48]; exact yAg.i hgd_43 (by rw [hk_h0]; decide)
        have hPod_48 : yPo S d_48 := by rw [ed_48]; exact yPo.i hPod_43 hk_h0 (Or.inl rfl)
        exact W.vret hx hb hr (fun t ht hW => ⟨⟨d_48, rfl, ⟨hgd_48, (fun _ => hPod_48), trivial⟩, by rw [ht]; exact hP, hD⟩, hS.F ht⟩) hS.2.2 dX7_choose_165
  · exact W.vret hx hb hr (fun t ht hW => ⟨⟨d_2, rfl, ⟨hgd_2, (fun _ => hPod_2), trivial⟩, by rw [ht]; exact hP, hD⟩, hS.F ht⟩) hS.2.2 dX7_choose_18
theorem dX7_readEvents_0 : decode cX7_readEvents 0 = .ok (.aload_n 0, 1) := by decide +kernel
theorem dX7_readEvents_1 : decode cX7_readEvents 1 = .ok (.getfield 62, 3) := by decide +kernel
theorem dX7_readEvents_4 : decode cX7_readEvents 4 = .ok (.aload_n 0, 1) := by decide +kernel
theorem dX7_readEvents_5 : decode cX7_readEvents 5 = .ok (.getfield 66, 3) := by decide +kernel
theorem dX7_readEvents_8 : decode cX7_readEvents 8 = .ok (.if_icmp .ge 79, 3) := by decide +kernel
theorem dX7_readEvents_11 : decode cX7_readEvents 11 = .ok (.aload_n 0, 1) := by decide +kernel
theorem dX7_readEvents_12 : decode cX7_readEvents 12 = .ok (.getfield 18, 3) := by decide +kernel
theorem dX7_readEvents_15 : decode cX7_readEvents 15 = .ok (.getfield 52, 3) := by decide +kernel
theorem dX7_readEvents_18 : decode cX7_readEvents 18 = .ok (.aload_n 0, 1) := by decide +kernel
theorem dX7_readEvents_19 : decode cX7_readEvents 19 = .ok (.getfield 62, 3) := by decide +kernel
theorem dX7_readEvents_22 : decode cX7_readEvents 22 = .ok (.invokevirtual 153, 3) := by decide +kernel
theorem dX7_readEvents_25 : decode cX7_readEvents 25 = .ok (.istore_n 1, 1) := by decide +kernel
theorem dX7_readEvents_26 : decode cX7_readEvents 26 = .ok (.iload_n 1, 1) := by decide +kernel
theorem dX7_readEvents_27 : decode cX7_readEvents 27 = .ok (.aload_n 0, 1) := by decide +kernel
theorem dX7_readEvents_28 : decode cX7_readEvents 28 = .ok (.getfield 35, 3) := by decide +kernel
theorem dX7_readEvents_31 : decode cX7_readEvents 31 = .ok (.if_icmp .le 9, 3) := by decide +kernel
theorem dX7_readEvents_34 : decode cX7_readEvents 34 = .ok (.aload_n 0, 1) := by decide +kernel
theorem dX7_readEvents_35 : decode cX7_readEvents 35 = .ok (.iload_n 1, 1) := by decide +kernel
theorem dX7_readEvents_36 : decode cX7_readEvents 36 = .ok (.invokevirtual 127, 3) := by decide +kernel
theorem dX7_readEvents_39 : decode cX7_readEvents 39 = .ok (.return_, 1) := by decide +kernel
theorem dX7_readEvents_40 : decode cX7_readEvents 40 = .ok (.aload_n 0, 1) := by decide +kernel
theorem dX7_readEvents_41 : decode cX7_readEvents 41 = .ok (.getfield 18, 3) := by decide +kernel
theorem dX7_readEvents_44 : decode cX7_readEvents 44 = .ok (.getfield 52, 3) := by decide +kernel
theorem dX7_readEvents_47 : decode cX7_readEvents 47 = .ok (.aload_n 0, 1) := by decide +kernel
theorem dX7_readEvents_48 : decode cX7_readEvents 48 = .ok (.getfield 62, 3) := by decide +kernel
theorem dX7_readEvents_51 : decode cX7_readEvents 51 = .ok (.invokevirtual 157, 3) := by decide +kernel
theorem dX7_readEvents_54 : decode cX7_readEvents 54 = .ok (.istore_n 2, 1) := by decide +kernel
theorem dX7_readEvents_55 : decode cX7_readEvents 55 = .ok (.iload_n 2, 1) := by decide +kernel
theorem dX7_readEvents_56 : decode cX7_readEvents 56 = .ok (.iconst 3, 1) := by decide +kernel
theorem dX7_readEvents_57 : decode cX7_readEvents 57 = .ok (.bipush 6, 2) := by decide +kernel
theorem dX7_readEvents_59 : decode cX7_readEvents 59 = .ok (.invokestatic 99, 3) := by decide +kernel
theorem dX7_readEvents_62 : decode cX7_readEvents 62 = .ok (.ifCond .eq 12, 3) := by decide +kernel
theorem dX7_readEvents_65 : decode cX7_readEvents 65 = .ok (.aload_n 0, 1) := by decide +kernel
theorem dX7_readEvents_66 : decode cX7_readEvents 66 = .ok (.iload_n 2, 1) := by decide +kernel
theorem dX7_readEvents_67 : decode cX7_readEvents 67 = .ok (.iconst 3, 1) := by decide +kernel
theorem dX7_readEvents_68 : decode cX7_readEvents 68 = .ok (.isub, 1) := by decide +kernel
theorem dX7_readEvents_69 : decode cX7_readEvents 69 = .ok (.iconst 1, 1) := by decide +kernel
theorem dX7_readEvents_70 : decode cX7_readEvents 70 = .ok (.iadd, 1) := by decide +kernel
theorem dX7_readEvents_71 : decode cX7_readEvents 71 = .ok (.putfield 72, 3) := by decide +kernel
theorem dX7_readEvents_74 : decode cX7_readEvents 74 = .ok (.aload_n 0, 1) := by decide +kernel
theorem dX7_readEvents_75 : decode cX7_readEvents 75 = .ok (.dup, 1) := by decide +kernel
theorem dX7_readEvents_76 : decode cX7_readEvents 76 = .ok (.getfield 62, 3) := by decide +kernel
theorem dX7_readEvents_79 : decode cX7_readEvents 79 = .ok (.iconst 1, 1) := by decide +kernel
theorem dX7_readEvents_80 : decode cX7_readEvents 80 = .ok (.iadd, 1) := by decide +kernel
theorem dX7_readEvents_81 : decode cX7_readEvents 81 = .ok (.putfield 62, 3) := by decide +kernel
theorem dX7_readEvents_84 : decode cX7_readEvents 84 = .ok (.goto (-84), 3) := by decide +kernel
theorem dX7_readEvents_87 : decode cX7_readEvents 87 = .ok (.return_, 1) := by decide +kernel
set_option maxHeartbeats 4000000 in
set_option maxRecDepth 100000 in
theorem g_X7_readEvents (l : Launch) (G : xG) (S : yS) (d : yD) (h0 : Nat) (hSh : ySh S) (hPo : yPo S d) (hm_h0 : h0 ∈ S.1) (hk_h0 : S.2.1 h0 = 7) : xWv l G yX7_readEvents cX7_readEvents 3 none 2 42 0 0 [.ref h0] (yW G S d) (fun u : yD => yAg S [7, 22, 23] d u ∧ (yPo S d → yPo S u) ∧ (True)) (fun u => yW G S u) := by
  intro sz
  refine xstart (by decide) (Nat.le_of_ble_eq_true rfl) (fun p e s m args below meth c ls C0 hr hlocks hin hsz hP hK hD hN hl => ?_)
  obtain ⟨hx, hb, hml, hown, htl⟩ := id C0
  subst hsz
  have hD := hD.self (sz := s.heap.size)
  generalize hAe : va_A (yW G S d) s.heap.size = A at hD ⊢
  have hA : ∀ q : Nat, s.heap.size ≤ q → A q := fun q h => by rw [← hAe]; exact Or.inr h
  have hS : va_S A s.heap s.heap [] := va_S.rf
  have hg0 : yAg S [7, 22, 23] d d := yAg.rf
  have hl : lv_has ls 3 [(0, .ref h0)] := hl
  refine yloop (σ := yD) (fun x => (2147483647 - (x.1 h0 13).toInt).toNat) 0 (fun x H locs ls => va_P G.1 xcl (yW G S x) H ∧ va_D A (yW G S x) ∧ va_S A s.heap H locs ∧ yAg S [7, 22, 23] d x ∧ yPo S x ∧ lv_has ls 3 [(0, .ref h0)]) (fun x H locs ls hI hnext_2 => ?_) d ⟨hP, hD, hS, hg0, hPo, lv_sub hl [0] rfl⟩
  obtain ⟨d_1, rfl⟩ : ∃ z, z = x := ⟨_, rfl⟩
  obtain ⟨hP, hD, hS, hgd_1, hPod_1, hl⟩ := hI
  have hl : lv_has ls 3 [(0, .ref h0)] := hl
  refine lv_aload_n hx hb dX7_readEvents_0 rfl (lv_at hl 0 rfl) ?_
  refine yget (ci := 7) (k := 13) (v := .int (d_1.1 h0 13)) (C := RX7) (T := TX7) (N := 18) C0 hK hP hm_h0 hk_h0 (by decide) rfl inlX7 (by decide) mW749 (fun _ h9 => h9) rfl dX7_readEvents_1 ?_
  refine lv_topi (fun z_3 ez_3 => ?_)
  refine lv_aload_n hx hb dX7_readEvents_4 rfl (lv_at hl 0 rfl) ?_
  refine yget (ci := 7) (k := 14) (v := .int (d_1.1 h0 14)) (C := RX7) (T := TX7) (N := 18) C0 hK hP hm_h0 hk_h0 (by decide) rfl inlX7 (by decide) mW751 (fun _ h9 => h9) rfl dX7_readEvents_5 ?_
  refine lv_topi (fun z_4 ez_4 => ?_)
  refine lv_icmp_ge (tgt := 87) hx hb dX7_readEvents_8 (by decide) (fun c_5 => ?_) (fun c_5 => ?_)
  · exact W.vret hx hb hr (fun t ht hW => ⟨⟨d_1, rfl, ⟨hgd_1, (fun _ => hPod_1), trivial⟩, by rw [ht]; exact hP, hD⟩, hS.F ht⟩) hS.2.2 dX7_readEvents_87
  · refine lv_aload_n hx hb dX7_readEvents_11 rfl (lv_at hl 0 rfl) ?_
    refine yget (ci := 7) (k := 0) (v := .ref (S.2.2.1 h0 0)) (C := RX7) (T := TX7) (N := 18) C0 hK hP hm_h0 hk_h0 (by decide) rfl inlX7 (by decide) mW96 (fun _ h9 => h9) rfl dX7_readEvents_12 ?_
    obtain ⟨hmy_6, hky_6⟩ := ySh.f7_0 hSh _ hm_h0 hk_h0
    refine yget (ci := 0) (k := 1) (v := .ref (S.2.2.1 (S.2.2.1 h0 0) 1)) (C := RX0) (T := TX0) (N := 6) C0 hK hP hmy_6 hky_6 (by decide) rfl inlX0 (by decide) mW748 (fun _ h9 => h9) rfl dX7_readEvents_15 ?_
    obtain ⟨hmy_7, hky_7⟩ := ySh.f0_1 hSh _ hmy_6 hky_6
    refine lv_aload_n hx hb dX7_readEvents_18 rfl (lv_at hl 0 rfl) ?_
    refine yget (ci := 7) (k := 13) (v := .int (d_1.1 h0 13)) (C := RX7) (T := TX7) (N := 18) C0 hK hP hm_h0 hk_h0 (by decide) rfl inlX7 (by decide) mW749 (fun _ h9 => h9) rfl dX7_readEvents_19 ?_
    refine lv_topi (fun z_8 ez_8 => ?_)
    refine yVri (As := [.int z_8]) (rest := []) C0 (g_X2_minuteAt l G S d_1 (S.2.2.1 (S.2.2.1 h0 0) 1) z_8 hSh hmy_7 hky_7) ok_X2_minuteAt (mW773 : Cond.methodLink RX7 153 yX2_minuteAt ∈ wsT) ⟨Nat.le_of_ble_eq_true rfl, Nat.le_of_ble_eq_true rfl⟩ hP hD hK hN hmy_7 hky_7 (by decide) rfl rfl rfl hl.1 rfl (Nat.le_of_ble_eq_true rfl) ⟨Nat.le_of_ble_eq_true rfl, Nat.le_of_ble_eq_true rfl⟩ dX7_readEvents_22 (fun r_9 hr_9 => ?_)
    refine lv_istore_n (lv' := [(1, .int r_9), (0, .ref h0)]) hx hb dX7_readEvents_25 rfl hl (by decide) rfl (fun ls hl => ?_)
    refine lv_iload_n hx hb dX7_readEvents_26 rfl (lv_at hl 0 rfl) ?_
    refine lv_aload_n hx hb dX7_readEvents_27 rfl (lv_at hl 1 rfl) ?_
    refine yget (ci := 7) (k := 8) (v := .int (d_1.1 h0 8)) (C := RX7) (T := TX7) (N := 18) C0 hK hP hm_h0 hk_h0 (by decide) rfl inlX7 (by decide) mW743 (fun _ h9 => h9) rfl dX7_readEvents_28 ?_
    refine lv_topi (fun z_10 ez_10 => ?_)
    refine lv_icmp_le (tgt := 40) hx hb dX7_readEvents_31 (by decide) (fun c_11 => ?_) (fun c_11 => ?_)
    · refine lv_aload_n hx hb dX7_readEvents_40 rfl (lv_at hl 1 rfl) ?_
      refine yget (ci := 7) (k := 0) (v := .ref (S.2.2.1 h0 0)) (C := RX7) (T := TX7) (N := 18) C0 hK hP hm_h0 hk_h0 (by decide) rfl inlX7 (by decide) mW96 (fun _ h9 => h9) rfl dX7_readEvents_41 ?_
      refine yget (ci := 0) (k := 1) (v := .ref (S.2.2.1 (S.2.2.1 h0 0) 1)) (C := RX0) (T := TX0) (N := 6) C0 hK hP hmy_6 hky_6 (by decide) rfl inlX0 (by decide) mW748 (fun _ h9 => h9) rfl dX7_readEvents_44 ?_
      refine lv_aload_n hx hb dX7_readEvents_47 rfl (lv_at hl 1 rfl) ?_
      refine yget (ci := 7) (k := 13) (v := .int (d_1.1 h0 13)) (C := RX7) (T := TX7) (N := 18) C0 hK hP hm_h0 hk_h0 (by decide) rfl inlX7 (by decide) mW749 (fun _ h9 => h9) rfl dX7_readEvents_48 ?_
      refine lv_topi (fun z_12 ez_12 => ?_)
      refine yVri (As := [.int z_12]) (rest := []) C0 (g_X2_kindAt l G S d_1 (S.2.2.1 (S.2.2.1 h0 0) 1) z_12 hSh hmy_7 hky_7) ok_X2_kindAt (mW778 : Cond.methodLink RX7 157 yX2_kindAt ∈ wsT) ⟨Nat.le_of_ble_eq_true rfl, Nat.le_of_ble_eq_true rfl⟩ hP hD hK hN hmy_7 hky_7 (by decide) rfl rfl rfl hl.1 rfl (Nat.le_of_ble_eq_true rfl) ⟨Nat.le_of_ble_eq_true rfl, Nat.le_of_ble_eq_true rfl⟩ dX7_readEvents_51 (fun r_13 hr_13 => ?_)
      refine lv_istore_n (lv' := [(2, .int r_13), (1, .int r_9), (0, .ref h0)]) hx hb dX7_readEvents_54 rfl hl (by decide) rfl (fun ls hl => ?_)
      refine lv_iload_n hx hb dX7_readEvents_55 rfl (lv_at hl 0 rfl) ?_
      refine lv_iconst (v := 3) hx hb dX7_readEvents_56 (by decide) ?_
      refine lv_bipush (v := 6) hx hb dX7_readEvents_57 (by decide) ?_
      refine ySNri (As := [.int r_13, .int 3, .int 6]) (rest := []) C0 (g_X8_within l G S d_1 r_13 3 6 ) ok_X8_within (xN.n13 hN) ⟨Nat.le_of_ble_eq_true rfl, Nat.le_of_ble_eq_true rfl⟩ hP hD hK hN rfl hl.1 rfl (Nat.le_of_ble_eq_true rfl) ⟨Nat.le_of_ble_eq_true rfl, Nat.le_of_ble_eq_true rfl⟩ dX7_readEvents_59 (fun r_14 hr_14 => ?_)
      refine lv_if_eq (tgt := 74) hx hb dX7_readEvents_62 (by decide) (fun c_15 => ?_) (fun c_15 => ?_)
      · refine lv_aload_n hx hb dX7_readEvents_74 rfl (lv_at hl 2 rfl) ?_
        refine lv_dup hx hb dX7_readEvents_75 rfl ?_
        refine yget (ci := 7) (k := 13) (v := .int (d_1.1 h0 13)) (C := RX7) (T := TX7) (N := 18) C0 hK hP hm_h0 hk_h0 (by decide) rfl inlX7 (by decide) mW749 (fun _ h9 => h9) rfl dX7_readEvents_76 ?_
        refine lv_topi (fun z_16 ez_16 => ?_)
        refine lv_iconst (v := 1) hx hb dX7_readEvents_79 (by decide) ?_
        refine lv_iadd hx hb dX7_readEvents_80 ?_
        refine lv_topi (fun z_17 ez_17 => ?_)
        refine yputI (ci := 7) (k := 13) (ty := .int) (C := RX7) (T := TX7) (N := 18) C0 hK hP hD hS hm_h0 hk_h0 (by decide) rfl inlX7 tyX7 tyX7_ok nmX7 (by decide) mW749 (fun _ h9 => h9) rfl (by decide +kernel) rfl rfl (Nat.le_of_ble_eq_true rfl) ysi_7_13 dX7_readEvents_81 (fun H locs hP hD hS => ?_)
        obtain ⟨d_18, ed_18⟩ : ∃ z : yD, z = yi d_1 h0 13 z_17 := ⟨_, rfl⟩
        rw [← ed_18] at hP hD
        have hgd_18 : yAg S [7, 22, 23] d d_18 := by rw [ed_18]; exact yAg.i hgd_1 (by rw [hk_h0]; decide)
        have hPod_18 : yPo S d_18 := by rw [ed_18]; exact yPo.i hPod_1 hk_h0 (Or.inl rfl)
        refine lv_goto (tgt := 0) hx hb dX7_readEvents_84 (by decide) ?_
        exact hnext_2 d_18 _ _ ls ((by rw [ed_18, yi_self, ez_17, ez_16]; rw [← ez_3]; exact xup c_5)) ⟨hP, hD, hS, hgd_18, hPod_18, lv_sub hl [2] rfl⟩
      · refine lv_aload_n hx hb dX7_readEvents_65 rfl (lv_at hl 2 rfl) ?_
        refine lv_iload_n hx hb dX7_readEvents_66 rfl (lv_at hl 0 rfl) ?_
        refine lv_iconst (v := 3) hx hb dX7_readEvents_67 (by decide) ?_
        refine lv_isub hx hb dX7_readEvents_68 ?_
        refine lv_topi (fun z_19 ez_19 => ?_)
        refine lv_iconst (v := 1) hx hb dX7_readEvents_69 (by decide) ?_
        refine lv_iadd hx hb dX7_readEvents_70 ?_
        refine lv_topi (fun z_20 ez_20 => ?_)
        refine yputI (ci := 7) (k := 15) (ty := .int) (C := RX7) (T := TX7) (N := 18) C0 hK hP hD hS hm_h0 hk_h0 (by decide) rfl inlX7 tyX7 tyX7_ok nmX7 (by decide) mW752 (fun _ h9 => h9) rfl (by decide +kernel) rfl rfl (Nat.le_of_ble_eq_true rfl) ysi_7_15 dX7_readEvents_71 (fun H locs hP hD hS => ?_)
        obtain ⟨d_21, ed_21⟩ : ∃ z : yD, z = yi d_1 h0 15 z_20 := ⟨_, rfl⟩
        rw [← ed_21] at hP hD
        have hgd_21 : yAg S [7, 22, 23] d d_21 := by rw [ed_21]; exact yAg.i hgd_1 (by rw [hk_h0]; decide)
        have hPod_21 : yPo S d_21 := by rw [ed_21]; exact yPo.i hPod_1 hk_h0 (Or.inl rfl)
        refine lv_aload_n hx hb dX7_readEvents_74 rfl (lv_at hl 2 rfl) ?_
        refine lv_dup hx hb dX7_readEvents_75 rfl ?_
        refine yget (ci := 7) (k := 13) (v := .int (d_21.1 h0 13)) (C := RX7) (T := TX7) (N := 18) C0 hK hP hm_h0 hk_h0 (by decide) rfl inlX7 (by decide) mW749 (fun _ h9 => h9) rfl dX7_readEvents_76 ?_
        refine lv_topi (fun z_22 ez_22 => ?_)
        refine lv_iconst (v := 1) hx hb dX7_readEvents_79 (by decide) ?_
        refine lv_iadd hx hb dX7_readEvents_80 ?_
        refine lv_topi (fun z_23 ez_23 => ?_)
        refine yputI (ci := 7) (k := 13) (ty := .int) (C := RX7) (T := TX7) (N := 18) C0 hK hP hD hS hm_h0 hk_h0 (by decide) rfl inlX7 tyX7 tyX7_ok nmX7 (by decide) mW749 (fun _ h9 => h9) rfl (by decide +kernel) rfl rfl (Nat.le_of_ble_eq_true rfl) ysi_7_13 dX7_readEvents_81 (fun H locs hP hD hS => ?_)
        obtain ⟨d_24, ed_24⟩ : ∃ z : yD, z = yi d_21 h0 13 z_23 := ⟨_, rfl⟩
        rw [← ed_24] at hP hD
        have hgd_24 : yAg S [7, 22, 23] d d_24 := by rw [ed_24]; exact yAg.i hgd_21 (by rw [hk_h0]; decide)
        have hPod_24 : yPo S d_24 := by rw [ed_24]; exact yPo.i hPod_21 hk_h0 (Or.inl rfl)
        refine lv_goto (tgt := 0) hx hb dX7_readEvents_84 (by decide) ?_
        exact hnext_2 d_24 _ _ ls ((by rw [ed_24, yi_self, ez_23, ez_22, ed_21]; rw [yi_at (by decide)]; rw [← ez_3]; exact xup c_5)) ⟨hP, hD, hS, hgd_24, hPod_24, lv_sub hl [2] rfl⟩
    · refine lv_aload_n hx hb dX7_readEvents_34 rfl (lv_at hl 1 rfl) ?_
      refine lv_iload_n hx hb dX7_readEvents_35 rfl (lv_at hl 0 rfl) ?_
      refine yVwv (As := [.int r_9]) (rest := []) C0 (g_X7_breakAt l G S d_1 h0 r_9 hSh hPod_1 hm_h0 hk_h0) ok_X7_breakAt (mW774 : Cond.methodLink RX7 127 yX7_breakAt ∈ wsT) ⟨Nat.le_of_ble_eq_true rfl, Nat.le_of_ble_eq_true rfl⟩ hP hD hS hA hK hN hm_h0 hk_h0 (by decide) rfl rfl rfl hl.1 rfl (Nat.le_of_ble_eq_true rfl) ⟨Nat.le_of_ble_eq_true rfl, Nat.le_of_ble_eq_true rfl⟩ dX7_readEvents_36 (fun d_26 H locs hr_25 hP hD hS => ?_)
      obtain ⟨hgad_26, hpad_26, hxd_26⟩ := hr_25
      have hgd_26 : yAg S [7, 22, 23] d d_26 := yAg.tr hgd_1 hgad_26 (by decide)
      have hPod_26 : yPo S d_26 := hpad_26 hPod_1
      exact W.vret hx hb hr (fun t ht hW => ⟨⟨d_26, rfl, ⟨hgd_26, (fun _ => hPod_26), trivial⟩, by rw [ht]; exact hP, hD⟩, hS.F ht⟩) hS.2.2 dX7_readEvents_39
