theorem dX7_forgetAsked_0 : decode cX7_forgetAsked 0 = .ok (.aload_n 0, 1) := by decide +kernel
theorem dX7_forgetAsked_1 : decode cX7_forgetAsked 1 = .ok (.iconst 0, 1) := by decide +kernel
theorem dX7_forgetAsked_2 : decode cX7_forgetAsked 2 = .ok (.putfield 144, 3) := by decide +kernel
theorem dX7_forgetAsked_5 : decode cX7_forgetAsked 5 = .ok (.aload_n 0, 1) := by decide +kernel
theorem dX7_forgetAsked_6 : decode cX7_forgetAsked 6 = .ok (.iconst 0, 1) := by decide +kernel
theorem dX7_forgetAsked_7 : decode cX7_forgetAsked 7 = .ok (.putfield 147, 3) := by decide +kernel
theorem dX7_forgetAsked_10 : decode cX7_forgetAsked 10 = .ok (.aload_n 0, 1) := by decide +kernel
theorem dX7_forgetAsked_11 : decode cX7_forgetAsked 11 = .ok (.iconst 0, 1) := by decide +kernel
theorem dX7_forgetAsked_12 : decode cX7_forgetAsked 12 = .ok (.putfield 150, 3) := by decide +kernel
theorem dX7_forgetAsked_15 : decode cX7_forgetAsked 15 = .ok (.return_, 1) := by decide +kernel
set_option maxHeartbeats 4000000 in
set_option maxRecDepth 100000 in
theorem g_X7_forgetAsked (l : Launch) (G : xG) (S : yS) (d : yD) (h0 : Nat) (hSh : ySh S) (hPo : yPo S d) (hm_h0 : h0 ∈ S.1) (hk_h0 : S.2.1 h0 = 7) : xWv l G yX7_forgetAsked cX7_forgetAsked 1 none 0 0 0 0 [.ref h0] (yW G S d) (fun u : yD => yAg S [7, 22, 23] d u ∧ (yPo S d → yPo S u) ∧ (True)) (fun u => yW G S u) := by
  intro sz
  refine xstart (by decide) (Nat.le_of_ble_eq_true rfl) (fun p e s m args below meth c ls C0 hr hlocks hin hsz hP hK hD hN hl => ?_)
  obtain ⟨hx, hb, hml, hown, htl⟩ := id C0
  subst hsz
  have hD := hD.self (sz := s.heap.size)
  generalize hAe : va_A (yW G S d) s.heap.size = A at hD ⊢
  have hA : ∀ q : Nat, s.heap.size ≤ q → A q := fun q h => by rw [← hAe]; exact Or.inr h
  have hS : va_S A s.heap s.heap [] := va_S.rf
  have hg0 : yAg S [7, 22, 23] d d := yAg.rf
  have hl : lv_has ls 1 [(0, .ref h0)] := hl
  refine lv_aload_n hx hb dX7_forgetAsked_0 rfl (lv_at hl 0 rfl) ?_
  refine lv_iconst (v := 0) hx hb dX7_forgetAsked_1 (by decide) ?_
  refine yputI (ci := 7) (k := 4) (ty := .int) (C := RX7) (T := TX7) (N := 18) C0 hK hP hD hS hm_h0 hk_h0 (by decide) rfl inlX7 tyX7 tyX7_ok nmX7 (by decide) mW783 (fun _ h9 => h9) rfl (by decide +kernel) rfl rfl (Nat.le_of_ble_eq_true rfl) ysi_7_4 dX7_forgetAsked_2 (fun H locs hP hD hS => ?_)
  obtain ⟨d_1, ed_1⟩ : ∃ z : yD, z = yi d h0 4 0 := ⟨_, rfl⟩
  rw [← ed_1] at hP hD
  have hgd_1 : yAg S [7, 22, 23] d d_1 := by rw [ed_1]; exact yAg.i hg0 (by rw [hk_h0]; decide)
  have hPod_1 : yPo S d_1 := by rw [ed_1]; exact yPo.i hPo hk_h0 (Or.inl rfl)
  refine lv_aload_n hx hb dX7_forgetAsked_5 rfl (lv_at hl 0 rfl) ?_
  refine lv_iconst (v := 0) hx hb dX7_forgetAsked_6 (by decide) ?_
  refine yputI (ci := 7) (k := 5) (ty := .int) (C := RX7) (T := TX7) (N := 18) C0 hK hP hD hS hm_h0 hk_h0 (by decide) rfl inlX7 tyX7 tyX7_ok nmX7 (by decide) mW784 (fun _ h9 => h9) rfl (by decide +kernel) rfl rfl (Nat.le_of_ble_eq_true rfl) ysi_7_5 dX7_forgetAsked_7 (fun H locs hP hD hS => ?_)
  obtain ⟨d_2, ed_2⟩ : ∃ z : yD, z = yi d_1 h0 5 0 := ⟨_, rfl⟩
  rw [← ed_2] at hP hD
  have hgd_2 : yAg S [7, 22, 23] d d_2 := by rw [ed_2]; exact yAg.i hgd_1 (by rw [hk_h0]; decide)
  have hPod_2 : yPo S d_2 := by rw [ed_2]; exact yPo.i hPod_1 hk_h0 (Or.inl rfl)
  refine lv_aload_n hx hb dX7_forgetAsked_10 rfl (lv_at hl 0 rfl) ?_
  refine lv_iconst (v := 0) hx hb dX7_forgetAsked_11 (by decide) ?_
  refine yputI (ci := 7) (k := 6) (ty := .int) (C := RX7) (T := TX7) (N := 18) C0 hK hP hD hS hm_h0 hk_h0 (by decide) rfl inlX7 tyX7 tyX7_ok nmX7 (by decide) mW785 (fun _ h9 => h9) rfl (by decide +kernel) rfl rfl (Nat.le_of_ble_eq_true rfl) ysi_7_6 dX7_forgetAsked_12 (fun H locs hP hD hS => ?_)
  obtain ⟨d_3, ed_3⟩ : ∃ z : yD, z = yi d_2 h0 6 0 := ⟨_, rfl⟩
  rw [← ed_3] at hP hD
  have hgd_3 : yAg S [7, 22, 23] d d_3 := by rw [ed_3]; exact yAg.i hgd_2 (by rw [hk_h0]; decide)
  have hPod_3 : yPo S d_3 := by rw [ed_3]; exact yPo.i hPod_2 hk_h0 (Or.inl rfl)
  exact W.vret hx hb hr (fun t ht hW => ⟨⟨d_3, rfl, ⟨hgd_3, (fun _ => hPod_3), trivial⟩, by rw [ht]; exact hP, hD⟩, hS.F ht⟩) hS.2.2 dX7_forgetAsked_15
theorem dX7_breakAt_0 : decode cX7_breakAt 0 = .ok (.iload_n 1, 1) := by decide +kernel
theorem dX7_breakAt_1 : decode cX7_breakAt 1 = .ok (.aload_n 0, 1) := by decide +kernel
theorem dX7_breakAt_2 : decode cX7_breakAt 2 = .ok (.getfield 35, 3) := by decide +kernel
theorem dX7_breakAt_5 : decode cX7_breakAt 5 = .ok (.if_icmp .le 16, 3) := by decide +kernel
theorem dX7_breakAt_8 : decode cX7_breakAt 8 = .ok (.iload_n 1, 1) := by decide +kernel
theorem dX7_breakAt_9 : decode cX7_breakAt 9 = .ok (.aload_n 0, 1) := by decide +kernel
theorem dX7_breakAt_10 : decode cX7_breakAt 10 = .ok (.getfield 39, 3) := by decide +kernel
theorem dX7_breakAt_13 : decode cX7_breakAt 13 = .ok (.if_icmp .ge 8, 3) := by decide +kernel
theorem dX7_breakAt_16 : decode cX7_breakAt 16 = .ok (.aload_n 0, 1) := by decide +kernel
theorem dX7_breakAt_17 : decode cX7_breakAt 17 = .ok (.iload_n 1, 1) := by decide +kernel
theorem dX7_breakAt_18 : decode cX7_breakAt 18 = .ok (.putfield 39, 3) := by decide +kernel
theorem dX7_breakAt_21 : decode cX7_breakAt 21 = .ok (.return_, 1) := by decide +kernel
set_option maxHeartbeats 4000000 in
set_option maxRecDepth 100000 in
theorem g_X7_breakAt (l : Launch) (G : xG) (S : yS) (d : yD) (h0 : Nat) (p0 : Int32) (hSh : ySh S) (hPo : yPo S d) (hm_h0 : h0 ∈ S.1) (hk_h0 : S.2.1 h0 = 7) : xWv l G yX7_breakAt cX7_breakAt 2 none 0 0 0 0 [.ref h0, .int p0] (yW G S d) (fun u : yD => yAg S [7, 22, 23] d u ∧ (yPo S d → yPo S u) ∧ (True)) (fun u => yW G S u) := by
  intro sz
  refine xstart (by decide) (Nat.le_of_ble_eq_true rfl) (fun p e s m args below meth c ls C0 hr hlocks hin hsz hP hK hD hN hl => ?_)
  obtain ⟨hx, hb, hml, hown, htl⟩ := id C0
  subst hsz
  have hD := hD.self (sz := s.heap.size)
  generalize hAe : va_A (yW G S d) s.heap.size = A at hD ⊢
  have hA : ∀ q : Nat, s.heap.size ≤ q → A q := fun q h => by rw [← hAe]; exact Or.inr h
  have hS : va_S A s.heap s.heap [] := va_S.rf
  have hg0 : yAg S [7, 22, 23] d d := yAg.rf
  have hl : lv_has ls 2 [(0, .ref h0), (1, .int p0)] := hl
  refine lv_iload_n hx hb dX7_breakAt_0 rfl (lv_at hl 1 rfl) ?_
  refine lv_aload_n hx hb dX7_breakAt_1 rfl (lv_at hl 0 rfl) ?_
  refine yget (ci := 7) (k := 8) (v := .int (d.1 h0 8)) (C := RX7) (T := TX7) (N := 18) C0 hK hP hm_h0 hk_h0 (by decide) rfl inlX7 (by decide) mW743 (fun _ h9 => h9) rfl dX7_breakAt_2 ?_
  refine lv_topi (fun z_1 ez_1 => ?_)
  refine lv_icmp_le (tgt := 21) hx hb dX7_breakAt_5 (by decide) (fun c_2 => ?_) (fun c_2 => ?_)
  · exact W.vret hx hb hr (fun t ht hW => ⟨⟨d, rfl, ⟨hg0, (fun _ => hPo), trivial⟩, by rw [ht]; exact hP, hD⟩, hS.F ht⟩) hS.2.2 dX7_breakAt_21
  · refine lv_iload_n hx hb dX7_breakAt_8 rfl (lv_at hl 1 rfl) ?_
    refine lv_aload_n hx hb dX7_breakAt_9 rfl (lv_at hl 0 rfl) ?_
    refine yget (ci := 7) (k := 9) (v := .int (d.1 h0 9)) (C := RX7) (T := TX7) (N := 18) C0 hK hP hm_h0 hk_h0 (by decide) rfl inlX7 (by decide) mW744 (fun _ h9 => h9) rfl dX7_breakAt_10 ?_
    refine lv_topi (fun z_3 ez_3 => ?_)
    refine lv_icmp_ge (tgt := 21) hx hb dX7_breakAt_13 (by decide) (fun c_4 => ?_) (fun c_4 => ?_)
    · exact W.vret hx hb hr (fun t ht hW => ⟨⟨d, rfl, ⟨hg0, (fun _ => hPo), trivial⟩, by rw [ht]; exact hP, hD⟩, hS.F ht⟩) hS.2.2 dX7_breakAt_21
    · refine lv_aload_n hx hb dX7_breakAt_16 rfl (lv_at hl 0 rfl) ?_
      refine lv_iload_n hx hb dX7_breakAt_17 rfl (lv_at hl 1 rfl) ?_
      refine yputI (ci := 7) (k := 9) (ty := .int) (C := RX7) (T := TX7) (N := 18) C0 hK hP hD hS hm_h0 hk_h0 (by decide) rfl inlX7 tyX7 tyX7_ok nmX7 (by decide) mW744 (fun _ h9 => h9) rfl (by decide +kernel) rfl rfl (Nat.le_of_ble_eq_true rfl) ysi_7_9 dX7_breakAt_18 (fun H locs hP hD hS => ?_)
      obtain ⟨d_5, ed_5⟩ : ∃ z : yD, z = yi d h0 9 p0 := ⟨_, rfl⟩
      rw [← ed_5] at hP hD
      have hgd_5 : yAg S [7, 22, 23] d d_5 := by rw [ed_5]; exact yAg.i hg0 (by rw [hk_h0]; decide)
      have hPod_5 : yPo S d_5 := by rw [ed_5]; exact yPo.i hPo hk_h0 (Or.inl rfl)
      exact W.vret hx hb hr (fun t ht hW => ⟨⟨d_5, rfl, ⟨hgd_5, (fun _ => hPod_5), trivial⟩, by rw [ht]; exact hP, hD⟩, hS.F ht⟩) hS.2.2 dX7_breakAt_21
theorem dX7_addAsked_0 : decode cX7_addAsked 0 = .ok (.aload_n 0, 1) := by decide +kernel
theorem dX7_addAsked_1 : decode cX7_addAsked 1 = .ok (.getfield 15, 3) := by decide +kernel
theorem dX7_addAsked_4 : decode cX7_addAsked 4 = .ok (.aload_n 0, 1) := by decide +kernel
theorem dX7_addAsked_5 : decode cX7_addAsked 5 = .ok (.getfield 144, 3) := by decide +kernel
theorem dX7_addAsked_8 : decode cX7_addAsked 8 = .ok (.iload_n 1, 1) := by decide +kernel
theorem dX7_addAsked_9 : decode cX7_addAsked 9 = .ok (.invokestatic 103, 3) := by decide +kernel
theorem dX7_addAsked_12 : decode cX7_addAsked 12 = .ok (.aload_n 0, 1) := by decide +kernel
theorem dX7_addAsked_13 : decode cX7_addAsked 13 = .ok (.dup, 1) := by decide +kernel
theorem dX7_addAsked_14 : decode cX7_addAsked 14 = .ok (.getfield 144, 3) := by decide +kernel
theorem dX7_addAsked_17 : decode cX7_addAsked 17 = .ok (.iconst 1, 1) := by decide +kernel
theorem dX7_addAsked_18 : decode cX7_addAsked 18 = .ok (.iadd, 1) := by decide +kernel
theorem dX7_addAsked_19 : decode cX7_addAsked 19 = .ok (.putfield 144, 3) := by decide +kernel
theorem dX7_addAsked_22 : decode cX7_addAsked 22 = .ok (.iconst 1, 1) := by decide +kernel
theorem dX7_addAsked_23 : decode cX7_addAsked 23 = .ok (.aload_n 0, 1) := by decide +kernel
theorem dX7_addAsked_24 : decode cX7_addAsked 24 = .ok (.getfield 18, 3) := by decide +kernel
theorem dX7_addAsked_27 : decode cX7_addAsked 27 = .ok (.getfield 86, 3) := by decide +kernel
theorem dX7_addAsked_30 : decode cX7_addAsked 30 = .ok (.getfield 90, 3) := by decide +kernel
theorem dX7_addAsked_33 : decode cX7_addAsked 33 = .ok (.iload_n 1, 1) := by decide +kernel
theorem dX7_addAsked_34 : decode cX7_addAsked 34 = .ok (.invokestatic 95, 3) := by decide +kernel
theorem dX7_addAsked_37 : decode cX7_addAsked 37 = .ok (.ishl, 1) := by decide +kernel
theorem dX7_addAsked_38 : decode cX7_addAsked 38 = .ok (.istore_n 2, 1) := by decide +kernel
theorem dX7_addAsked_39 : decode cX7_addAsked 39 = .ok (.aload_n 0, 1) := by decide +kernel
theorem dX7_addAsked_40 : decode cX7_addAsked 40 = .ok (.dup, 1) := by decide +kernel
theorem dX7_addAsked_41 : decode cX7_addAsked 41 = .ok (.getfield 150, 3) := by decide +kernel
theorem dX7_addAsked_44 : decode cX7_addAsked 44 = .ok (.aload_n 0, 1) := by decide +kernel
theorem dX7_addAsked_45 : decode cX7_addAsked 45 = .ok (.getfield 147, 3) := by decide +kernel
theorem dX7_addAsked_48 : decode cX7_addAsked 48 = .ok (.iload_n 2, 1) := by decide +kernel
theorem dX7_addAsked_49 : decode cX7_addAsked 49 = .ok (.iand, 1) := by decide +kernel
theorem dX7_addAsked_50 : decode cX7_addAsked 50 = .ok (.ior, 1) := by decide +kernel
theorem dX7_addAsked_51 : decode cX7_addAsked 51 = .ok (.putfield 150, 3) := by decide +kernel
theorem dX7_addAsked_54 : decode cX7_addAsked 54 = .ok (.aload_n 0, 1) := by decide +kernel
theorem dX7_addAsked_55 : decode cX7_addAsked 55 = .ok (.dup, 1) := by decide +kernel
theorem dX7_addAsked_56 : decode cX7_addAsked 56 = .ok (.getfield 147, 3) := by decide +kernel
theorem dX7_addAsked_59 : decode cX7_addAsked 59 = .ok (.iload_n 2, 1) := by decide +kernel
theorem dX7_addAsked_60 : decode cX7_addAsked 60 = .ok (.ior, 1) := by decide +kernel
theorem dX7_addAsked_61 : decode cX7_addAsked 61 = .ok (.putfield 147, 3) := by decide +kernel
theorem dX7_addAsked_64 : decode cX7_addAsked 64 = .ok (.return_, 1) := by decide +kernel
set_option maxHeartbeats 4000000 in
set_option maxRecDepth 100000 in
theorem g_X7_addAsked (l : Launch) (G : xG) (S : yS) (d : yD) (h0 : Nat) (p0 : Int32) (hSh : ySh S) (hPo : yPo S d) (hm_h0 : h0 ∈ S.1) (hk_h0 : S.2.1 h0 = 7) : xWv l G yX7_addAsked cX7_addAsked 3 none 1 22 0 0 [.ref h0, .int p0] (yW G S d) (fun u : yD => yAg S [7, 22, 23] d u ∧ (yPo S d → yPo S u) ∧ (True)) (fun u => yW G S u) := by
  intro sz
  refine xstart (by decide) (Nat.le_of_ble_eq_true rfl) (fun p e s m args below meth c ls C0 hr hlocks hin hsz hP hK hD hN hl => ?_)
  obtain ⟨hx, hb, hml, hown, htl⟩ := id C0
  subst hsz
  have hD := hD.self (sz := s.heap.size)
  generalize hAe : va_A (yW G S d) s.heap.size = A at hD ⊢
  have hA : ∀ q : Nat, s.heap.size ≤ q → A q := fun q h => by rw [← hAe]; exact Or.inr h
  have hS : va_S A s.heap s.heap [] := va_S.rf
  have hg0 : yAg S [7, 22, 23] d d := yAg.rf
  have hl : lv_has ls 3 [(0, .ref h0), (1, .int p0)] := hl
  refine lv_aload_n hx hb dX7_addAsked_0 rfl (lv_at hl 0 rfl) ?_
  refine yget (ci := 7) (k := 2) (v := .ref (S.2.2.1 h0 2)) (C := RX7) (T := TX7) (N := 18) C0 hK hP hm_h0 hk_h0 (by decide) rfl inlX7 (by decide) mW95 (fun _ h9 => h9) rfl dX7_addAsked_1 ?_
  obtain ⟨hmy_1, hky_1⟩ := ySh.f7_2 hSh _ hm_h0 hk_h0
  refine lv_aload_n hx hb dX7_addAsked_4 rfl (lv_at hl 0 rfl) ?_
  refine yget (ci := 7) (k := 4) (v := .int (d.1 h0 4)) (C := RX7) (T := TX7) (N := 18) C0 hK hP hm_h0 hk_h0 (by decide) rfl inlX7 (by decide) mW783 (fun _ h9 => h9) rfl dX7_addAsked_5 ?_
  refine lv_topi (fun z_2 ez_2 => ?_)
  refine lv_iload_n hx hb dX7_addAsked_8 rfl (lv_at hl 1 rfl) ?_
  refine ySNwv (As := [.ref (S.2.2.1 h0 2), .int z_2, .int p0]) (rest := []) C0 (g_X8_put l G S d (S.2.2.1 h0 2) 23 z_2 p0 hPo hmy_1 hky_1 (by decide) rfl rfl (by decide)) ok_X8_put (xN.n14 hN) ⟨Nat.le_of_ble_eq_true rfl, Nat.le_of_ble_eq_true rfl⟩ hP hD hS hA hK hN rfl hl.1 rfl (Nat.le_of_ble_eq_true rfl) ⟨Nat.le_of_ble_eq_true rfl, Nat.le_of_ble_eq_true rfl⟩ dX7_addAsked_9 (fun d_4 H locs hr_3 hP hD hS => ?_)
  obtain ⟨hgad_4, hpad_4, hxd_4⟩ := hr_3
  have hgd_4 : yAg S [7, 22, 23] d d_4 := yAg.tr hg0 hgad_4 (by decide)
  have hPod_4 : yPo S d_4 := hpad_4 hPo
  refine lv_aload_n hx hb dX7_addAsked_12 rfl (lv_at hl 0 rfl) ?_
  refine lv_dup hx hb dX7_addAsked_13 rfl ?_
  refine yget (ci := 7) (k := 4) (v := .int (d_4.1 h0 4)) (C := RX7) (T := TX7) (N := 18) C0 hK hP hm_h0 hk_h0 (by decide) rfl inlX7 (by decide) mW783 (fun _ h9 => h9) rfl dX7_addAsked_14 ?_
  refine lv_topi (fun z_5 ez_5 => ?_)
  refine lv_iconst (v := 1) hx hb dX7_addAsked_17 (by decide) ?_
  refine lv_iadd hx hb dX7_addAsked_18 ?_
  refine lv_topi (fun z_6 ez_6 => ?_)
  refine yputI (ci := 7) (k := 4) (ty := .int) (C := RX7) (T := TX7) (N := 18) C0 hK hP hD hS hm_h0 hk_h0 (by decide) rfl inlX7 tyX7 tyX7_ok nmX7 (by decide) mW783 (fun _ h9 => h9) rfl (by decide +kernel) rfl rfl (Nat.le_of_ble_eq_true rfl) ysi_7_4 dX7_addAsked_19 (fun H locs hP hD hS => ?_)
  obtain ⟨d_7, ed_7⟩ : ∃ z : yD, z = yi d_4 h0 4 z_6 := ⟨_, rfl⟩
  rw [← ed_7] at hP hD
  have hgd_7 : yAg S [7, 22, 23] d d_7 := by rw [ed_7]; exact yAg.i hgd_4 (by rw [hk_h0]; decide)
  have hPod_7 : yPo S d_7 := by rw [ed_7]; exact yPo.i hPod_4 hk_h0 (Or.inl rfl)
  refine lv_iconst (v := 1) hx hb dX7_addAsked_22 (by decide) ?_
  refine lv_aload_n hx hb dX7_addAsked_23 rfl (lv_at hl 0 rfl) ?_
  refine yget (ci := 7) (k := 0) (v := .ref (S.2.2.1 h0 0)) (C := RX7) (T := TX7) (N := 18) C0 hK hP hm_h0 hk_h0 (by decide) rfl inlX7 (by decide) mW96 (fun _ h9 => h9) rfl dX7_addAsked_24 ?_
  obtain ⟨hmy_8, hky_8⟩ := ySh.f7_0 hSh _ hm_h0 hk_h0
  refine yget (ci := 0) (k := 0) (v := .ref (S.2.2.1 (S.2.2.1 h0 0) 0)) (C := RX0) (T := TX0) (N := 6) C0 hK hP hmy_8 hky_8 (by decide) rfl inlX0 (by decide) mW755 (fun _ h9 => h9) rfl dX7_addAsked_27 ?_
  obtain ⟨hmy_9, hky_9⟩ := ySh.f0_0 hSh _ hmy_8 hky_8
  refine yget (ci := 6) (k := 0) (v := .ref (S.2.2.1 (S.2.2.1 (S.2.2.1 h0 0) 0) 0)) (C := RX6) (T := TX6) (N := 7) C0 hK hP hmy_9 hky_9 (by decide) rfl inlX6 (by decide) mW756 (fun _ h9 => h9) rfl dX7_addAsked_30 ?_
  obtain ⟨hmy_10, hky_10⟩ := ySh.f6_0 hSh _ hmy_9 hky_9
  refine lv_iload_n hx hb dX7_addAsked_33 rfl (lv_at hl 1 rfl) ?_
  refine ySNri (As := [.ref (S.2.2.1 (S.2.2.1 (S.2.2.1 h0 0) 0) 0), .int p0]) (rest := [.int 1]) C0 (g_X8_at l G S d_7 (S.2.2.1 (S.2.2.1 (S.2.2.1 h0 0) 0) 0) 10 p0 hmy_10 hky_10 (by decide) rfl rfl (by decide)) ok_X8_at (xN.n12 hN) ⟨Nat.le_of_ble_eq_true rfl, Nat.le_of_ble_eq_true rfl⟩ hP hD hK hN rfl hl.1 rfl (Nat.le_of_ble_eq_true rfl) ⟨Nat.le_of_ble_eq_true rfl, Nat.le_of_ble_eq_true rfl⟩ dX7_addAsked_34 (fun r_11 hr_11 => ?_)
  refine lv_ishl hx hb dX7_addAsked_37 ?_
  refine lv_topi (fun z_12 ez_12 => ?_)
  refine lv_istore_n (lv' := [(2, .int z_12), (0, .ref h0), (1, .int p0)]) hx hb dX7_addAsked_38 rfl hl (by decide) rfl (fun ls hl => ?_)
  refine lv_aload_n hx hb dX7_addAsked_39 rfl (lv_at hl 1 rfl) ?_
  refine lv_dup hx hb dX7_addAsked_40 rfl ?_
  refine yget (ci := 7) (k := 6) (v := .int (d_7.1 h0 6)) (C := RX7) (T := TX7) (N := 18) C0 hK hP hm_h0 hk_h0 (by decide) rfl inlX7 (by decide) mW785 (fun _ h9 => h9) rfl dX7_addAsked_41 ?_
  refine lv_topi (fun z_13 ez_13 => ?_)
  refine lv_aload_n hx hb dX7_addAsked_44 rfl (lv_at hl 1 rfl) ?_
  refine yget (ci := 7) (k := 5) (v := .int (d_7.1 h0 5)) (C := RX7) (T := TX7) (N := 18) C0 hK hP hm_h0 hk_h0 (by decide) rfl inlX7 (by decide) mW784 (fun _ h9 => h9) rfl dX7_addAsked_45 ?_
  refine lv_topi (fun z_14 ez_14 => ?_)
  refine lv_iload_n hx hb dX7_addAsked_48 rfl (lv_at hl 0 rfl) ?_
  refine lv_iand hx hb dX7_addAsked_49 ?_
  refine lv_topi (fun z_15 ez_15 => ?_)
  refine lv_ior hx hb dX7_addAsked_50 ?_
  refine lv_topi (fun z_16 ez_16 => ?_)
  refine yputI (ci := 7) (k := 6) (ty := .int) (C := RX7) (T := TX7) (N := 18) C0 hK hP hD hS hm_h0 hk_h0 (by decide) rfl inlX7 tyX7 tyX7_ok nmX7 (by decide) mW785 (fun _ h9 => h9) rfl (by decide +kernel) rfl rfl (Nat.le_of_ble_eq_true rfl) ysi_7_6 dX7_addAsked_51 (fun H locs hP hD hS => ?_)
  obtain ⟨d_17, ed_17⟩ : ∃ z : yD, z = yi d_7 h0 6 z_16 := ⟨_, rfl⟩
  rw [← ed_17] at hP hD
  have hgd_17 : yAg S [7, 22, 23] d d_17 := by rw [ed_17]; exact yAg.i hgd_7 (by rw [hk_h0]; decide)
  have hPod_17 : yPo S d_17 := by rw [ed_17]; exact yPo.i hPod_7 hk_h0 (Or.inl rfl)
  refine lv_aload_n hx hb dX7_addAsked_54 rfl (lv_at hl 1 rfl) ?_
  refine lv_dup hx hb dX7_addAsked_55 rfl ?_
  refine yget (ci := 7) (k := 5) (v := .int (d_17.1 h0 5)) (C := RX7) (T := TX7) (N := 18) C0 hK hP hm_h0 hk_h0 (by decide) rfl inlX7 (by decide) mW784 (fun _ h9 => h9) rfl dX7_addAsked_56 ?_
  refine lv_topi (fun z_18 ez_18 => ?_)
  refine lv_iload_n hx hb dX7_addAsked_59 rfl (lv_at hl 0 rfl) ?_
  refine lv_ior hx hb dX7_addAsked_60 ?_
  refine lv_topi (fun z_19 ez_19 => ?_)
  refine yputI (ci := 7) (k := 5) (ty := .int) (C := RX7) (T := TX7) (N := 18) C0 hK hP hD hS hm_h0 hk_h0 (by decide) rfl inlX7 tyX7 tyX7_ok nmX7 (by decide) mW784 (fun _ h9 => h9) rfl (by decide +kernel) rfl rfl (Nat.le_of_ble_eq_true rfl) ysi_7_5 dX7_addAsked_61 (fun H locs hP hD hS => ?_)
  obtain ⟨d_20, ed_20⟩ : ∃ z : yD, z = yi d_17 h0 5 z_19 := ⟨_, rfl⟩
  rw [← ed_20] at hP hD
  have hgd_20 : yAg S [7, 22, 23] d d_20 := by rw [ed_20]; exact yAg.i hgd_17 (by rw [hk_h0]; decide)
  have hPod_20 : yPo S d_20 := by rw [ed_20]; exact yPo.i hPod_17 hk_h0 (Or.inl rfl)
  exact W.vret hx hb hr (fun t ht hW => ⟨⟨d_20, rfl, ⟨hgd_20, (fun _ => hPod_20), trivial⟩, by rw [ht]; exact hP, hD⟩, hS.F ht⟩) hS.2.2 dX7_addAsked_64
theorem dX7_choose_0 : decode cX7_choose 0 = .ok (.aload_n 0, 1) := by decide +kernel
theorem dX7_choose_1 : decode cX7_choose 1 = .ok (.bipush (-2), 2) := by decide +kernel
theorem dX7_choose_3 : decode cX7_choose 3 = .ok (.putfield 118, 3) := by decide +kernel
theorem dX7_choose_6 : decode cX7_choose 6 = .ok (.aload_n 0, 1) := by decide +kernel
theorem dX7_choose_7 : decode cX7_choose 7 = .ok (.iconst 2, 1) := by decide +kernel
theorem dX7_choose_8 : decode cX7_choose 8 = .ok (.putfield 121, 3) := by decide +kernel
theorem dX7_choose_11 : decode cX7_choose 11 = .ok (.aload_n 0, 1) := by decide +kernel
theorem dX7_choose_12 : decode cX7_choose 12 = .ok (.getfield 144, 3) := by decide +kernel
theorem dX7_choose_15 : decode cX7_choose 15 = .ok (.ifCond .ne 4, 3) := by decide +kernel
theorem dX7_choose_18 : decode cX7_choose 18 = .ok (.return_, 1) := by decide +kernel
theorem dX7_choose_19 : decode cX7_choose 19 = .ok (.aload_n 0, 1) := by decide +kernel
theorem dX7_choose_20 : decode cX7_choose 20 = .ok (.getfield 15, 3) := by decide +kernel
theorem dX7_choose_23 : decode cX7_choose 23 = .ok (.aload_n 0, 1) := by decide +kernel
theorem dX7_choose_24 : decode cX7_choose 24 = .ok (.getfield 144, 3) := by decide +kernel
theorem dX7_choose_27 : decode cX7_choose 27 = .ok (.iconst 1, 1) := by decide +kernel
theorem dX7_choose_28 : decode cX7_choose 28 = .ok (.isub, 1) := by decide +kernel
theorem dX7_choose_29 : decode cX7_choose 29 = .ok (.invokestatic 95, 3) := by decide +kernel
theorem dX7_choose_32 : decode cX7_choose 32 = .ok (.istore_n 1, 1) := by decide +kernel
theorem dX7_choose_33 : decode cX7_choose 33 = .ok (.aload_n 0, 1) := by decide +kernel
theorem dX7_choose_34 : decode cX7_choose 34 = .ok (.getfield 144, 3) := by decide +kernel
theorem dX7_choose_37 : decode cX7_choose 37 = .ok (.iconst 1, 1) := by decide +kernel
theorem dX7_choose_38 : decode cX7_choose 38 = .ok (.isub, 1) := by decide +kernel
theorem dX7_choose_39 : decode cX7_choose 39 = .ok (.istore_n 2, 1) := by decide +kernel
theorem dX7_choose_40 : decode cX7_choose 40 = .ok (.iload_n 2, 1) := by decide +kernel
theorem dX7_choose_41 : decode cX7_choose 41 = .ok (.ifCond .lt 80, 3) := by decide +kernel
theorem dX7_choose_44 : decode cX7_choose 44 = .ok (.aload_n 0, 1) := by decide +kernel
theorem dX7_choose_45 : decode cX7_choose 45 = .ok (.getfield 15, 3) := by decide +kernel
theorem dX7_choose_48 : decode cX7_choose 48 = .ok (.iload_n 2, 1) := by decide +kernel
theorem dX7_choose_49 : decode cX7_choose 49 = .ok (.invokestatic 95, 3) := by decide +kernel
theorem dX7_choose_52 : decode cX7_choose 52 = .ok (.istore_n 3, 1) := by decide +kernel
theorem dX7_choose_53 : decode cX7_choose 53 = .ok (.iconst 1, 1) := by decide +kernel
theorem dX7_choose_54 : decode cX7_choose 54 = .ok (.aload_n 0, 1) := by decide +kernel
theorem dX7_choose_55 : decode cX7_choose 55 = .ok (.getfield 18, 3) := by decide +kernel
theorem dX7_choose_58 : decode cX7_choose 58 = .ok (.getfield 86, 3) := by decide +kernel
theorem dX7_choose_61 : decode cX7_choose 61 = .ok (.getfield 90, 3) := by decide +kernel
theorem dX7_choose_64 : decode cX7_choose 64 = .ok (.iload_n 3, 1) := by decide +kernel
theorem dX7_choose_65 : decode cX7_choose 65 = .ok (.invokestatic 95, 3) := by decide +kernel
theorem dX7_choose_68 : decode cX7_choose 68 = .ok (.ishl, 1) := by decide +kernel
theorem dX7_choose_69 : decode cX7_choose 69 = .ok (.istore 4, 2) := by decide +kernel
theorem dX7_choose_71 : decode cX7_choose 71 = .ok (.aload_n 0, 1) := by decide +kernel
theorem dX7_choose_72 : decode cX7_choose 72 = .ok (.getfield 147, 3) := by decide +kernel
theorem dX7_choose_75 : decode cX7_choose 75 = .ok (.iload 4, 2) := by decide +kernel
theorem dX7_choose_77 : decode cX7_choose 77 = .ok (.iconst (-1), 1) := by decide +kernel
theorem dX7_choose_78 : decode cX7_choose 78 = .ok (.ixor, 1) := by decide +kernel
theorem dX7_choose_79 : decode cX7_choose 79 = .ok (.iand, 1) := by decide +kernel
theorem dX7_choose_80 : decode cX7_choose 80 = .ok (.aload_n 0, 1) := by decide +kernel
theorem dX7_choose_81 : decode cX7_choose 81 = .ok (.getfield 150, 3) := by decide +kernel
theorem dX7_choose_84 : decode cX7_choose 84 = .ok (.iload 4, 2) := by decide +kernel
theorem dX7_choose_86 : decode cX7_choose 86 = .ok (.iand, 1) := by decide +kernel
theorem dX7_choose_87 : decode cX7_choose 87 = .ok (.ior, 1) := by decide +kernel
theorem dX7_choose_88 : decode cX7_choose 88 = .ok (.istore 5, 2) := by decide +kernel
theorem dX7_choose_90 : decode cX7_choose 90 = .ok (.aload_n 0, 1) := by decide +kernel
theorem dX7_choose_91 : decode cX7_choose 91 = .ok (.getfield 18, 3) := by decide +kernel
theorem dX7_choose_94 : decode cX7_choose 94 = .ok (.getfield 86, 3) := by decide +kernel
theorem dX7_choose_97 : decode cX7_choose 97 = .ok (.getfield 172, 3) := by decide +kernel
theorem dX7_choose_100 : decode cX7_choose 100 = .ok (.iload_n 3, 1) := by decide +kernel
theorem dX7_choose_101 : decode cX7_choose 101 = .ok (.invokestatic 95, 3) := by decide +kernel
theorem dX7_choose_104 : decode cX7_choose 104 = .ok (.iload 5, 2) := by decide +kernel
theorem dX7_choose_106 : decode cX7_choose 106 = .ok (.iand, 1) := by decide +kernel
theorem dX7_choose_107 : decode cX7_choose 107 = .ok (.ifCond .ne 8, 3) := by decide +kernel
theorem dX7_choose_110 : decode cX7_choose 110 = .ok (.iload_n 3, 1) := by decide +kernel
theorem dX7_choose_111 : decode cX7_choose 111 = .ok (.istore_n 1, 1) := by decide +kernel
theorem dX7_choose_112 : decode cX7_choose 112 = .ok (.goto 9, 3) := by decide +kernel
theorem dX7_choose_115 : decode cX7_choose 115 = .ok (.iinc 2 (-1), 3) := by decide +kernel
theorem dX7_choose_118 : decode cX7_choose 118 = .ok (.goto (-78), 3) := by decide +kernel
theorem dX7_choose_121 : decode cX7_choose 121 = .ok (.aload_n 0, 1) := by decide +kernel
theorem dX7_choose_122 : decode cX7_choose 122 = .ok (.iload_n 1, 1) := by decide +kernel
theorem dX7_choose_123 : decode cX7_choose 123 = .ok (.bipush 60, 2) := by decide +kernel
theorem dX7_choose_125 : decode cX7_choose 125 = .ok (.irem, 1) := by decide +kernel
theorem dX7_choose_126 : decode cX7_choose 126 = .ok (.putfield 118, 3) := by decide +kernel
theorem dX7_choose_129 : decode cX7_choose 129 = .ok (.aload_n 0, 1) := by decide +kernel
theorem dX7_choose_130 : decode cX7_choose 130 = .ok (.aload_n 0, 1) := by decide +kernel
theorem dX7_choose_131 : decode cX7_choose 131 = .ok (.aload_n 0, 1) := by decide +kernel
theorem dX7_choose_132 : decode cX7_choose 132 = .ok (.getfield 18, 3) := by decide +kernel
theorem dX7_choose_135 : decode cX7_choose 135 = .ok (.getfield 86, 3) := by decide +kernel
theorem dX7_choose_138 : decode cX7_choose 138 = .ok (.getfield 90, 3) := by decide +kernel
theorem dX7_choose_141 : decode cX7_choose 141 = .ok (.iload_n 1, 1) := by decide +kernel
theorem dX7_choose_142 : decode cX7_choose 142 = .ok (.invokestatic 95, 3) := by decide +kernel
theorem dX7_choose_145 : decode cX7_choose 145 = .ok (.aload_n 0, 1) := by decide +kernel
theorem dX7_choose_146 : decode cX7_choose 146 = .ok (.getfield 18, 3) := by decide +kernel
theorem dX7_choose_149 : decode cX7_choose 149 = .ok (.getfield 86, 3) := by decide +kernel
theorem dX7_choose_152 : decode cX7_choose 152 = .ok (.getfield 175, 3) := by decide +kernel
theorem dX7_choose_155 : decode cX7_choose 155 = .ok (.iload_n 1, 1) := by decide +kernel
theorem dX7_choose_156 : decode cX7_choose 156 = .ok (.invokestatic 95, 3) := by decide +kernel
theorem dX7_choose_159 : decode cX7_choose 159 = .ok (.invokevirtual 178, 3) := by decide +kernel
theorem dX7_choose_162 : decode cX7_choose 162 = .ok (.putfield 121, 3) := by decide +kernel
theorem dX7_choose_165 : decode cX7_choose 165 = .ok (.return_, 1) := by decide +kernel
set_option maxHeartbeats 4000000 in
set_option maxRecDepth 100000 in
theorem g_X7_choose (l : Launch) (G : xG) (S : yS) (d : yD) (h0 : Nat) (hSh : ySh S) (hPo : yPo S d) (hm_h0 : h0 ∈ S.1) (hk_h0 : S.2.1 h0 = 7) : xWv l G yX7_choose cX7_choose 6 none 1 23 0 0 [.ref h0] (yW G S d) (fun u : yD => yAg S [7, 22, 23] d u ∧ (yPo S d → yPo S u) ∧ (True)) (fun u => yW G S u) := by
  intro sz
  refine xstart (by decide) (Nat.le_of_ble_eq_true rfl) (fun p e s m args below meth c ls C0 hr hlocks hin hsz hP hK hD hN hl => ?_)
  obtain ⟨hx, hb, hml, hown, htl⟩ := id C0
  subst hsz
  have hD := hD.self (sz := s.heap.size)
  generalize hAe : va_A (yW G S d) s.heap.size = A at hD ⊢
  have hA : ∀ q : Nat, s.heap.size ≤ q → A q := fun q h => by rw [← hAe]; exact Or.inr h
  have hS : va_S A s.heap s.heap [] := va_S.rf
  have hg0 : yAg S [7, 22, 23] d d := yAg.rf
  have hl : lv_has ls 6 [(0, .ref h0)] := hl
  refine lv_aload_n hx hb dX7_choose_0 rfl (lv_at hl 0 rfl) ?_
  refine lv_bipush (v := (-2)) hx hb dX7_choose_1 (by decide) ?_
  refine yputI (ci := 7) (k := 17) (ty := .int) (C := RX7) (T := TX7) (N := 18) C0 hK hP hD hS hm_h0 hk_h0 (by decide) rfl inlX7 tyX7 tyX7_ok nmX7 (by decide) mW767 (fun _ h9 => h9) rfl (by decide +kernel) rfl rfl (Nat.le_of_ble_eq_true rfl) ysi_7_17 dX7_choose_3 (fun H locs hP hD hS => ?_)
  obtain ⟨d_1, ed_1⟩ : ∃ z : yD, z = yi d h0 17 (-2) := ⟨_, rfl⟩
  rw [← ed_1] at hP hD
  have hgd_1 : yAg S [7, 22, 23] d d_1 := by rw [ed_1]; exact yAg.i hg0 (by rw [hk_h0]; decide)
  have hPod_1 : yPo S d_1 := by rw [ed_1]; exact yPo.i hPo hk_h0 (Or.inl rfl)
  refine lv_aload_n hx hb dX7_choose_6 rfl (lv_at hl 0 rfl) ?_
  refine lv_iconst (v := 2) hx hb dX7_choose_7 (by decide) ?_
  refine yputI (ci := 7) (k := 16) (ty := .int) (C := RX7) (T := TX7) (N := 18) C0 hK hP hD hS hm_h0 hk_h0 (by decide) rfl inlX7 tyX7 tyX7_ok nmX7 (by decide) mW768 (fun _ h9 => h9) rfl (by decide +kernel) rfl rfl (Nat.le_of_ble_eq_true rfl) ysi_7_16 dX7_choose_8 (fun H locs hP hD hS => ?_)
  obtain ⟨d_2, ed_2⟩ : ∃ z : yD, z = yi d_1 h0 16 2 := ⟨_, rfl⟩
  rw [← ed_2] at hP hD
  have hgd_2 : yAg S [7, 22, 23] d d_2 := by rw [ed_2]; exact yAg.i hgd_1 (by rw [hk_h0]; decide)
  have hPod_2 : yPo S d_2 := by rw [ed_2]; exact yPo.i hPod_1 hk_h0 (Or.inl rfl)
  refine lv_aload_n hx hb dX7_choose_11 rfl (lv_at hl 0 rfl) ?_
  refine yget (ci := 7) (k := 4) (v := .int (d_2.1 h0 4)) (C := RX7) (T := TX7) (N := 18) C0 hK hP hm_h0 hk_h0 (by decide) rfl inlX7 (by decide) mW783 (fun _ h9 => h9) rfl dX7_choose_12 ?_
  refine lv_topi (fun z_3 ez_3 => ?_)
  refine lv_if_ne (tgt := 19) hx hb dX7_choose_15 (by decide) (fun c_4 => ?_) (fun c_4 => ?_)
  · refine lv_aload_n hx hb dX7_choose_19 rfl (lv_at hl 0 rfl) ?_
    refine yget (ci := 7) (k := 2) (v := .ref (S.2.2.1 h0 2)) (C := RX7) (T := TX7) (N := 18) C0 hK hP hm_h0 hk_h0 (by decide) rfl inlX7 (by decide) mW95 (fun _ h9 => h9) rfl dX7_choose_20 ?_
    obtain ⟨hmy_5, hky_5⟩ := ySh.f7_2 hSh _ hm_h0 hk_h0
    refine lv_aload_n hx hb dX7_choose_23 rfl (lv_at hl 0 rfl) ?_
    refine yget (ci := 7) (k := 4) (v := .int (d_2.1 h0 4)) (C := RX7) (T := TX7) (N := 18) C0 hK hP hm_h0 hk_h0 (by decide) rfl inlX7 (by decide) mW783 (fun _ h9 => h9) rfl dX7_choose_24 ?_
    refine lv_topi (fun z_6 ez_6 => ?_)
    refine lv_iconst (v := 1) hx hb dX7_choose_27 (by decide) ?_
    refine lv_isub hx hb dX7_choose_28 ?_
    refine lv_topi (fun z_7 ez_7 => ?_)
    refine ySNri (As := [.ref (S.2.2.1 h0 2), .int z_7]) (rest := []) C0 (g_X8_at l G S d_2 (S.2.2.1 h0 2) 23 z_7 hmy_5 hky_5 (by decide) rfl rfl (by decide)) ok_X8_at (xN.n12 hN) ⟨Nat.le_of_ble_eq_true rfl, Nat.le_of_ble_eq_true rfl⟩ hP hD hK hN rfl hl.1 rfl (Nat.le_of_ble_eq_true rfl) ⟨Nat.le_of_ble_eq_true rfl, Nat.le_of_ble_eq_true rfl⟩ dX7_choose_29 (fun r_8 hr_8 => ?_)
    refine lv_istore_n (lv' := [(1, .int r_8), (0, .ref h0)]) hx hb dX7_choose_32 rfl hl (by decide) rfl (fun ls hl => ?_)
    refine lv_aload_n hx hb dX7_choose_33 rfl (lv_at hl 1 rfl) ?_
    refine yget (ci := 7) (k := 4) (v := .int (d_2.1 h0 4)) (C := RX7) (T := TX7) (N := 18) C0 hK hP hm_h0 hk_h0 (by decide) rfl inlX7 (by decide) mW783 (fun _ h9 => h9) rfl dX7_choose_34 ?_
    refine lv_topi (fun z_9 ez_9 => ?_)
    refine lv_iconst (v := 1) hx hb dX7_choose_37 (by decide) ?_
    refine lv_isub hx hb dX7_choose_38 ?_
    refine lv_topi (fun z_10 ez_10 => ?_)
    refine lv_istore_n (lv' := [(2, .int z_10), (1, .int r_8), (0, .ref h0)]) hx hb dX7_choose_39 rfl hl (by decide) rfl (fun ls hl => ?_)
    refine yloop (σ := Int32 × yD) (fun x => ((x.1 : Int32).toInt + 2147483648).toNat) 40 (fun x H locs ls => va_P G.1 xcl (yW G S x.2) H ∧ va_D A (yW G S x.2) ∧ va_S A s.heap H locs ∧ yAg S [7, 22, 23] d x.2 ∧ yPo S x.2 ∧ lv_has ls 6 [(2, .int x.1), (1, .int r_8), (0, .ref h0)]) (fun x H locs ls hI hnext_13 => ?_) (z_10, d_2) ⟨hP, hD, hS, hgd_2, hPod_2, lv_sub hl [0, 1, 2] rfl⟩
    obtain ⟨v_11, d_12⟩ := x
    obtain ⟨hP, hD, hS, hgd_12, hPod_12, hl⟩ := hI
    have hl : lv_has ls 6 [(2, .int v_11), (1, .int r_8), (0, .ref h0)] := hl
    refine lv_iload_n hx hb dX7_choose_40 rfl (lv_at hl 0 rfl) ?_
    refine lv_if_lt (tgt := 121) hx hb dX7_choose_41 (by decide) (fun c_14 => ?_) (fun c_14 => ?_)
    · refine lv_aload_n hx hb dX7_choose_121 rfl (lv_at hl 2 rfl) ?_
      refine lv_iload_n hx hb dX7_choose_122 rfl (lv_at hl 1 rfl) ?_
      refine lv_bipush (v := 60) hx hb dX7_choose_123 (by decide) ?_
      refine lv_irem hx hb dX7_choose_125 (by decide) ?_
      refine lv_topi (fun z_15 ez_15 => ?_)
      refine yputI (ci := 7) (k := 17) (ty := .int) (C := RX7) (T := TX7) (N := 18) C0 hK hP hD hS hm_h0 hk_h0 (by decide) rfl inlX7 tyX7 tyX7_ok nmX7 (by decide) mW767 (fun _ h9 => h9) rfl (by decide +kernel) rfl rfl (Nat.le_of_ble_eq_true rfl) ysi_7_17 dX7_choose_126 (fun H locs hP hD hS => ?_)
      obtain ⟨d_16, ed_16⟩ : ∃ z : yD, z = yi d_12 h0 17 z_15 := ⟨_, rfl⟩
      rw [← ed_16] at hP hD
      have hgd_16 : yAg S [7, 22, 23] d d_16 := by rw [ed_16]; exact yAg.i hgd_12 (by rw [hk_h0]; decide)
      have hPod_16 : yPo S d_16 := by rw [ed_16]; exact yPo.i hPod_12 hk_h0 (Or.inl rfl)
      refine lv_aload_n hx hb dX7_choose_129 rfl (lv_at hl 2 rfl) ?_
      refine lv_aload_n hx hb dX7_choose_130 rfl (lv_at hl 2 rfl) ?_
      refine lv_aload_n hx hb dX7_choose_131 rfl (lv_at hl 2 rfl) ?_
      refine yget (ci := 7) (k := 0) (v := .ref (S.2.2.1 h0 0)) (C := RX7) (T := TX7) (N := 18) C0 hK hP hm_h0 hk_h0 (by decide) rfl inlX7 (by decide) mW96 (fun _ h9 => h9) rfl dX7_choose_132 ?_
      obtain ⟨hmy_17, hky_17⟩ := ySh.f7_0 hSh _ hm_h0 hk_h0
      refine yget (ci := 0) (k := 0) (v := .ref (S.2.2.1 (S.2.2.1 h0 0) 0)) (C := RX0) (T := TX0) (N := 6) C0 hK hP hmy_17 hky_17 (by decide) rfl inlX0 (by decide) mW755 (fun _ h9 => h9) rfl dX7_choose_135 ?_
      obtain ⟨hmy_18, hky_18⟩ := ySh.f0_0 hSh _ hmy_17 hky_17
      refine yget (ci := 6) (k := 0) (v := .ref (S.2.2.1 (S.2.2.1 (S.2.2.1 h0 0) 0) 0)) (C := RX6) (T := TX6) (N := 7) C0 hK hP hmy_18 hky_18 (by decide) rfl inlX6 (by decide) mW756 (fun _ h9 => h9) rfl dX7_choose_138 ?_
      obtain ⟨hmy_19, hky_19⟩ := ySh.f6_0 hSh _ hmy_18 hky_18
      refine lv_iload_n hx hb dX7_choose_141 rfl (lv_at hl 1 rfl) ?_
      refine ySNri (As := [.ref (S.2.2.1 (S.2.2.1 (S.2.2.1 h0 0) 0) 0), .int r_8]) (rest := [.ref h0, .ref h0]) C0 (g_X8_at l G S d_16 (S.2.2.1 (S.2.2.1 (S.2.2.1 h0 0) 0) 0) 10 r_8 hmy_19 hky_19 (by decide) rfl rfl (by decide)) ok_X8_at (xN.n12 hN) ⟨Nat.le_of_ble_eq_true rfl, Nat.le_of_ble_eq_true rfl⟩ hP hD hK hN rfl hl.1 rfl (Nat.le_of_ble_eq_true rfl) ⟨Nat.le_of_ble_eq_true rfl, Nat.le_of_ble_eq_true rfl⟩ dX7_choose_142 (fun r_20 hr_20 => ?_)
      refine lv_aload_n hx hb dX7_choose_145 rfl (lv_at hl 2 rfl) ?_
      refine yget (ci := 7) (k := 0) (v := .ref (S.2.2.1 h0 0)) (C := RX7) (T := TX7) (N := 18) C0 hK hP hm_h0 hk_h0 (by decide) rfl inlX7 (by decide) mW96 (fun _ h9 => h9) rfl dX7_choose_146 ?_
      refine yget (ci := 0) (k := 0) (v := .ref (S.2.2.1 (S.2.2.1 h0 0) 0)) (C := RX0) (T := TX0) (N := 6) C0 hK hP hmy_17 hky_17 (by decide) rfl inlX0 (by decide) mW755 (fun _ h9 => h9) rfl dX7_choose_149 ?_
      refine yget (ci := 6) (k := 5) (v := .ref (S.2.2.1 (S.2.2.1 (S.2.2.1 h0 0) 0) 5)) (C := RX6) (T := TX6) (N := 7) C0 hK hP hmy_18 hky_18 (by decide) rfl inlX6 (by decide) mW803 (fun _ h9 => h9) rfl dX7_choose_152 ?_
      obtain ⟨hmy_21, hky_21⟩ := ySh.f6_5 hSh _ hmy_18 hky_18
      refine lv_iload_n hx hb dX7_choose_155 rfl (lv_at hl 1 rfl) ?_
      refine ySNri (As := [.ref (S.2.2.1 (S.2.2.1 (S.2.2.1 h0 0) 0) 5), .int r_8]) (rest := [.int r_20, .ref h0, .ref h0]) C0 (g_X8_at l G S d_16 (S.2.2.1 (S.2.2.1 (S.2.2.1 h0 0) 0) 5) 15 r_8 hmy_21 hky_21 (by decide) rfl rfl (by decide)) ok_X8_at (xN.n12 hN) ⟨Nat.le_of_ble_eq_true rfl, Nat.le_of_ble_eq_true rfl⟩ hP hD hK hN rfl hl.1 rfl (Nat.le_of_ble_eq_true rfl) ⟨Nat.le_of_ble_eq_true rfl, Nat.le_of_ble_eq_true rfl⟩ dX7_choose_156 (fun r_22 hr_22 => ?_)
      refine yVri (As := [.int r_20, .int r_22]) (rest := [.ref h0]) C0 (g_X7_halvesBy l G S d_16 h0 r_20 r_22 hSh hm_h0 hk_h0) ok_X7_halvesBy (mW804 : Cond.methodLink RX7 178 yX7_halvesBy ∈ wsT) ⟨Nat.le_of_ble_eq_true rfl, Nat.le_of_ble_eq_true rfl⟩ hP hD hK hN hm_h0 hk_h0 (by decide) rfl rfl rfl hl.1 rfl (Nat.le_of_ble_eq_true rfl) ⟨Nat.le_of_ble_eq_true rfl, Nat.le_of_ble_eq_true rfl⟩ dX7_choose_159 (fun r_23 hr_23 => ?_)
      refine yputI (ci := 7) (k := 16) (ty := .int) (C := RX7) (T := TX7) (N := 18) C0 hK hP hD hS hm_h0 hk_h0 (by decide) rfl inlX7 tyX7 tyX7_ok nmX7 (by decide) mW768 (fun _ h9 => h9) rfl (by decide +kernel) rfl rfl (Nat.le_of_ble_eq_true rfl) ysi_7_16 dX7_choose_162 (fun H locs hP hD hS => ?_)
      obtain ⟨d_24, ed_24⟩ : ∃ z : yD, z = yi d_16 h0 16 r_23 := ⟨_, rfl⟩
      rw [← ed_24] at hP hD
      have hgd_24 : yAg S [7, 22, 23] d d_24 := by rw [ed_24]; exact yAg.i hgd_16 (by rw [hk_h0]; decide)
      have hPod_24 : yPo S d_24 := by rw [ed_24]; exact yPo.i hPod_16 hk_h0 (Or.inl rfl)
      exact W.vret hx hb hr (fun t ht hW => ⟨⟨d_24, rfl, ⟨hgd_24, (fun _ => hPod_24), trivial⟩, by rw [ht]; exact hP, hD⟩, hS.F ht⟩) hS.2.2 dX7_choose_165
    · refine lv_aload_n hx hb dX7_choose_44 rfl (lv_at hl 2 rfl) ?_
      refine yget (ci := 7) (k := 2) (v := .ref (S.2.2.1 h0 2)) (C := RX7) (T := TX7) (N := 18) C0 hK hP hm_h0 hk_h0 (by decide) rfl inlX7 (by decide) mW95 (fun _ h9 => h9) rfl dX7_choose_45 ?_
      refine lv_iload_n hx hb dX7_choose_48 rfl (lv_at hl 0 rfl) ?_
      refine ySNri (As := [.ref (S.2.2.1 h0 2), .int v_11]) (rest := []) C0 (g_X8_at l G S d_12 (S.2.2.1 h0 2) 23 v_11 hmy_5 hky_5 (by decide) rfl rfl (by decide)) ok_X8_at (xN.n12 hN) ⟨Nat.le_of_ble_eq_true rfl, Nat.le_of_ble_eq_true rfl⟩ hP hD hK hN rfl hl.1 rfl (Nat.le_of_ble_eq_true rfl) ⟨Nat.le_of_ble_eq_true rfl, Nat.le_of_ble_eq_true rfl⟩ dX7_choose_49 (fun r_25 hr_25 => ?_)
      refine lv_istore_n (lv' := [(3, .int r_25), (2, .int v_11), (1, .int r_8), (0, .ref h0)]) hx hb dX7_choose_52 rfl hl (by decide) rfl (fun ls hl => ?_)
      refine lv_iconst (v := 1) hx hb dX7_choose_53 (by decide) ?_
      refine lv_aload_n hx hb dX7_choose_54 rfl (lv_at hl 3 rfl) ?_
      refine yget (ci := 7) (k := 0) (v := .ref (S.2.2.1 h0 0)) (C := RX7) (T := TX7) (N := 18) C0 hK hP hm_h0 hk_h0 (by decide) rfl inlX7 (by decide) mW96 (fun _ h9 => h9) rfl dX7_choose_55 ?_
      obtain ⟨hmy_26, hky_26⟩ := ySh.f7_0 hSh _ hm_h0 hk_h0
      refine yget (ci := 0) (k := 0) (v := .ref (S.2.2.1 (S.2.2.1 h0 0) 0)) (C := RX0) (T := TX0) (N := 6) C0 hK hP hmy_26 hky_26 (by decide) rfl inlX0 (by decide) mW755 (fun _ h9 => h9) rfl dX7_choose_58 ?_
      obtain ⟨hmy_27, hky_27⟩ := ySh.f0_0 hSh _ hmy_26 hky_26
      refine yget (ci := 6) (k := 0) (v := .ref (S.2.2.1 (S.2.2.1 (S.2.2.1 h0 0) 0) 0)) (C := RX6) (T := TX6) (N := 7) C0 hK hP hmy_27 hky_27 (by decide) rfl inlX6 (by decide) mW756 (fun _ h9 => h9) rfl dX7_choose_61 ?_
      obtain ⟨hmy_28, hky_28⟩ := ySh.f6_0 hSh _ hmy_27 hky_27
      refine lv_iload_n hx hb dX7_choose_64 rfl (lv_at hl 0 rfl) ?_
      refine ySNri (As := [.ref (S.2.2.1 (S.2.2.1 (S.2.2.1 h0 0) 0) 0), .int r_25]) (rest := [.int 1]) C0 (g_X8_at l G S d_12 (S.2.2.1 (S.2.2.1 (S.2.2.1 h0 0) 0) 0) 10 r_25 hmy_28 hky_28 (by decide) rfl rfl (by decide)) ok_X8_at (xN.n12 hN) ⟨Nat.le_of_ble_eq_true rfl, Nat.le_of_ble_eq_true rfl⟩ hP hD hK hN rfl hl.1 rfl (Nat.le_of_ble_eq_true rfl) ⟨Nat.le_of_ble_eq_true rfl, Nat.le_of_ble_eq_true rfl⟩ dX7_choose_65 (fun r_29 hr_29 => ?_)
      refine lv_ishl hx hb dX7_choose_68 ?_
      refine lv_topi (fun z_30 ez_30 => ?_)
      refine lv_istore (lv' := [(4, .int z_30), (3, .int r_25), (2, .int v_11), (1, .int r_8), (0, .ref h0)]) hx hb dX7_choose_69 hl (by decide) rfl (fun ls hl => ?_)
      refine lv_aload_n hx hb dX7_choose_71 rfl (lv_at hl 4 rfl) ?_
      refine yget (ci := 7) (k := 5) (v := .int (d_12.1 h0 5)) (C := RX7) (T := TX7) (N := 18) C0 hK hP hm_h0 hk_h0 (by decide) rfl inlX7 (by decide) mW784 (fun _ h9 => h9) rfl dX7_choose_72 ?_
      refine lv_topi (fun z_31 ez_31 => ?_)
      refine lv_iload hx hb dX7_choose_75 (lv_at hl 0 rfl) ?_
      refine lv_iconst (v := (-1)) hx hb dX7_choose_77 (by decide) ?_
      refine lv_ixor hx hb dX7_choose_78 ?_
      refine lv_topi (fun z_32 ez_32 => ?_)
      refine lv_iand hx hb dX7_choose_79 ?_
      refine lv_topi (fun z_33 ez_33 => ?_)
      refine lv_aload_n hx hb dX7_choose_80 rfl (lv_at hl 4 rfl) ?_
      refine yget (ci := 7) (k := 6) (v := .int (d_12.1 h0 6)) (C := RX7) (T := TX7) (N := 18) C0 hK hP hm_h0 hk_h0 (by decide) rfl inlX7 (by decide) mW785 (fun _ h9 => h9) rfl dX7_choose_81 ?_
      refine lv_topi (fun z_34 ez_34 => ?_)
      refine lv_iload hx hb dX7_choose_84 (lv_at hl 0 rfl) ?_
      refine lv_iand hx hb dX7_choose_86 ?_
      refine lv_topi (fun z_35 ez_35 => ?_)
      refine lv_ior hx hb dX7_choose_87 ?_
      refine lv_topi (fun z_36 ez_36 => ?_)
      refine lv_istore (lv' := [(5, .int z_36), (4, .int z_30), (3, .int r_25), (2, .int v_11), (1, .int r_8), (0, .ref h0)]) hx hb dX7_choose_88 hl (by decide) rfl (fun ls hl => ?_)
      refine lv_aload_n hx hb dX7_choose_90 rfl (lv_at hl 5 rfl) ?_
      refine yget (ci := 7) (k := 0) (v := .ref (S.2.2.1 h0 0)) (C := RX7) (T := TX7) (N := 18) C0 hK hP hm_h0 hk_h0 (by decide) rfl inlX7 (by decide) mW96 (fun _ h9 => h9) rfl dX7_choose_91 ?_
      refine yget (ci := 0) (k := 0) (v := .ref (S.2.2.1 (S.2.2.1 h0 0) 0)) (C := RX0) (T := TX0) (N := 6) C0 hK hP hmy_26 hky_26 (by decide) rfl inlX0 (by decide) mW755 (fun _ h9 => h9) rfl dX7_choose_94 ?_
      refine yget (ci := 6) (k := 4) (v := .ref (S.2.2.1 (S.2.2.1 (S.2.2.1 h0 0) 0) 4)) (C := RX6) (T := TX6) (N := 7) C0 hK hP hmy_27 hky_27 (by decide) rfl inlX6 (by decide) mW802 (fun _ h9 => h9) rfl dX7_choose_97 ?_
      obtain ⟨hmy_37, hky_37⟩ := ySh.f6_4 hSh _ hmy_27 hky_27
      refine lv_iload_n hx hb dX7_choose_100 rfl (lv_at hl 2 rfl) ?_
      refine ySNri (As := [.ref (S.2.2.1 (S.2.2.1 (S.2.2.1 h0 0) 0) 4), .int r_25]) (rest := []) C0 (g_X8_at l G S d_12 (S.2.2.1 (S.2.2.1 (S.2.2.1 h0 0) 0) 4) 14 r_25 hmy_37 hky_37 (by decide) rfl rfl (by decide)) ok_X8_at (xN.n12 hN) ⟨Nat.le_of_ble_eq_true rfl, Nat.le_of_ble_eq_true rfl⟩ hP hD hK hN rfl hl.1 rfl (Nat.le_of_ble_eq_true rfl) ⟨Nat.le_of_ble_eq_true rfl, Nat.le_of_ble_eq_true rfl⟩ dX7_choose_101 (fun r_38 hr_38 => ?_)
      refine lv_iload hx hb dX7_choose_104 (lv_at hl 0 rfl) ?_
      refine lv_iand hx hb dX7_choose_106 ?_
      refine lv_topi (fun z_39 ez_39 => ?_)
      refine lv_if_ne (tgt := 115) hx hb dX7_choose_107 (by decide) (fun c_40 => ?_) (fun c_40 => ?_)
      · refine lv_iinc (v := v_11 + (-1)) (lv' := [(2, .int (v_11 + (-1))), (5, .int z_36), (4, .int z_30), (3, .int r_25), (1, .int r_8), (0, .ref h0)]) hx hb dX7_choose_115 hl (k := 3) rfl rfl (by decide) rfl (fun ls hl => ?_)
        refine lv_goto (tgt := 40) hx hb dX7_choose_118 (by decide) ?_
        exact hnext_13 (v_11 + (-1), d_12) _ _ ls (xdn c_14 (by decide +kernel)) ⟨hP, hD, hS, hgd_12, hPod_12, lv_sub hl [0, 4, 5] rfl⟩
      · refine lv_iload_n hx hb dX7_choose_110 rfl (lv_at hl 2 rfl) ?_
        refine lv_istore_n (lv' := [(1, .int r_25), (5, .int z_36), (4, .int z_30), (3, .int r_25), (2, .int v_11), (0, .ref h0)]) hx hb dX7_choose_111 rfl hl (by decide) rfl (fun ls hl => ?_)
        refine lv_goto (tgt := 121) hx hb dX7_choose_112 (by decide) ?_
        refine lv_aload_n hx hb dX7_choose_121 rfl (lv_at hl 5 rfl) ?_
        refine lv_iload_n hx hb dX7_choose_122 rfl (lv_at hl 0 rfl) ?_
        refine lv_bipush (v := 60) hx hb dX7_choose_123 (by decide) ?_
        refine lv_irem hx hb dX7_choose_125 (by decide) ?_
        refine lv_topi (fun z_42 ez_42 => ?_)
        refine yputI (ci := 7) (k := 17) (ty := .int) (C := RX7) (T := TX7) (N := 18) C0 hK hP hD hS hm_h0 hk_h0 (by decide) rfl inlX7 tyX7 tyX7_ok nmX7 (by decide) mW767 (fun _ h9 => h9) rfl (by decide +kernel) rfl rfl (Nat.le_of_ble_eq_true rfl) ysi_7_17 dX7_choose_126 (fun H locs hP hD hS => ?_)
        obtain ⟨d_43, ed_43⟩ : ∃ z : yD, z = yi d_12 h0 17 z_42 := ⟨_, rfl⟩
        rw [← ed_43] at hP hD
        have hgd_43 : yAg S [7, 22, 23] d d_43 := by rw [ed_43]; exact yAg.i hgd_12 (by rw [hk_h0]; decide)
        have hPod_43 : yPo S d_43 := by rw [ed_43]; exact yPo.i hPod_12 hk_h0 (Or.inl rfl)
        refine lv_aload_n hx hb dX7_choose_129 rfl (lv_at hl 5 rfl) ?_
        refine lv_aload_n hx hb dX7_choose_130 rfl (lv_at hl 5 rfl) ?_
        refine lv_aload_n hx hb dX7_choose_131 rfl (lv_at hl 5 rfl) ?_
        refine yget (ci := 7) (k := 0) (v := .ref (S.2.2.1 h0 0)) (C := RX7) (T := TX7) (N := 18) C0 hK hP hm_h0 hk_h0 (by decide) rfl inlX7 (by decide) mW96 (fun _ h9 => h9) rfl dX7_choose_132 ?_
        refine yget (ci := 0) (k := 0) (v := .ref (S.2.2.1 (S.2.2.1 h0 0) 0)) (C := RX0) (T := TX0) (N := 6) C0 hK hP hmy_26 hky_26 (by decide) rfl inlX0 (by decide) mW755 (fun _ h9 => h9) rfl dX7_choose_135 ?_
        refine yget (ci := 6) (k := 0) (v := .ref (S.2.2.1 (S.2.2.1 (S.2.2.1 h0 0) 0) 0)) (C := RX6) (T := TX6) (N := 7) C0 hK hP hmy_27 hky_27 (by decide) rfl inlX6 (by decide) mW756 (fun _ h9 => h9) rfl dX7_choose_138 ?_
        refine lv_iload_n hx hb dX7_choose_141 rfl (lv_at hl 0 rfl) ?_
        refine ySNri (As := [.ref (S.2.2.1 (S.2.2.1 (S.2.2.1 h0 0) 0) 0), .int r_25]) (rest := [.ref h0, .ref h0]) C0 (g_X8_at l G S d_43 (S.2.2.1 (S.2.2.1 (S.2.2.1 h0 0) 0) 0) 10 r_25 hmy_28 hky_28 (by decide) rfl rfl (by decide)) ok_X8_at (xN.n12 hN) ⟨Nat.le_of_ble_eq_true rfl, Nat.le_of_ble_eq_true rfl⟩ hP hD hK hN rfl hl.1 rfl (Nat.le_of_ble_eq_true rfl) ⟨Nat.le_of_ble_eq_true rfl, Nat.le_of_ble_eq_true rfl⟩ dX7_choose_142 (fun r_44 hr_44 => ?_)
        refine lv_aload_n hx hb dX7_choose_145 rfl (lv_at hl 5 rfl) ?_
        refine yget (ci := 7) (k := 0) (v := .ref (S.2.2.1 h0 0)) (C := RX7) (T := TX7) (N := 18) C0 hK hP hm_h0 hk_h0 (by decide) rfl inlX7 (by decide) mW96 (fun _ h9 => h9) rfl dX7_choose_146 ?_
        refine yget (ci := 0) (k := 0) (v := .ref (S.2.2.1 (S.2.2.1 h0 0) 0)) (C := RX0) (T := TX0) (N := 6) C0 hK hP hmy_26 hky_26 (by decide) rfl inlX0 (by decide) mW755 (fun _ h9 => h9) rfl dX7_choose_149 ?_
        refine yget (ci := 6) (k := 5) (v := .ref (S.2.2.1 (S.2.2.1 (S.2.2.1 h0 0) 0) 5)) (C := RX6) (T := TX6) (N := 7) C0 hK hP hmy_27 hky_27 (by decide) rfl inlX6 (by decide) mW803 (fun _ h9 => h9) rfl dX7_choose_152 ?_
        obtain ⟨hmy_45, hky_45⟩ := ySh.f6_5 hSh _ hmy_27 hky_27
        refine lv_iload_n hx hb dX7_choose_155 rfl (lv_at hl 0 rfl) ?_
        refine ySNri (As := [.ref (S.2.2.1 (S.2.2.1 (S.2.2.1 h0 0) 0) 5), .int r_25]) (rest := [.int r_44, .ref h0, .ref h0]) C0 (g_X8_at l G S d_43 (S.2.2.1 (S.2.2.1 (S.2.2.1 h0 0) 0) 5) 15 r_25 hmy_45 hky_45 (by decide) rfl rfl (by decide)) ok_X8_at (xN.n12 hN) ⟨Nat.le_of_ble_eq_true rfl, Nat.le_of_ble_eq_true rfl⟩ hP hD hK hN rfl hl.1 rfl (Nat.le_of_ble_eq_true rfl) ⟨Nat.le_of_ble_eq_true rfl, Nat.le_of_ble_eq_true rfl⟩ dX7_choose_156 (fun r_46 hr_46 => ?_)
        refine yVri (As := [.int r_44, .int r_46]) (rest := [.ref h0]) C0 (g_X7_halvesBy l G S d_43 h0 r_44 r_46 hSh hm_h0 hk_h0) ok_X7_halvesBy (mW804 : Cond.methodLink RX7 178 yX7_halvesBy ∈ wsT) ⟨Nat.le_of_ble_eq_true rfl, Nat.le_of_ble_eq_true rfl⟩ hP hD hK hN hm_h0 hk_h0 (by decide) rfl rfl rfl hl.1 rfl (Nat.le_of_ble_eq_true rfl) ⟨Nat.le_of_ble_eq_true rfl, Nat.le_of_ble_eq_true rfl⟩ dX7_choose_159 (fun r_47 hr_47 => ?_)
        refine yputI (ci := 7) (k := 16) (ty := .int) (C := RX7) (T := TX7) (N := 18) C0 hK hP hD hS hm_h0 hk_h0 (by decide) rfl inlX7 tyX7 tyX7_ok nmX7 (by decide) mW768 (fun _ h9 => h9) rfl (by decide +kernel) rfl rfl (Nat.le_of_ble_eq_true rfl) ysi_7_16 dX7_choose_162 (fun H locs hP hD hS => ?_)
        obtain ⟨d_48, ed_48⟩ : ∃ z : yD, z = yi d_43 h0 16 r_47 := ⟨_, rfl⟩
        rw [← ed_48] at hP hD
        have hgd_48 : yAg S [7, 22, 23] d d_48 := by rw [ed_48]; exact yAg.i hgd_43 (by rw [hk_h0]; decide)
        have hPod_48 : yPo S d_48 := by rw [ed_48]; exact yPo.i hPod_43 hk_h0 (Or.inl rfl)
        exact W.vret hx hb hr (fun t ht hW => ⟨⟨d_48, rfl, ⟨hgd_48, (fun _ => hPod_48), trivial⟩, by rw [ht]; exact hP, hD⟩, hS.F ht⟩) hS.2.2 dX7_choose_165
  · exact W.vret hx hb hr (fun t ht hW => ⟨⟨d_2, rfl, ⟨hgd_2, (fun _ => hPod_2), trivial⟩, by rw [ht]; exact hP, hD⟩, hS.F ht⟩) hS.2.2 dX7_choose_18
theorem dX7_readEvents_0 : decode cX7_readEvents 0 = .ok (.aload_n 0, 1) := by decide +kernel
theorem dX7_readEvents_1 : decode cX7_readEvents 1 = .ok (.getfield 62, 3) := by decide +kernel
theorem dX7_readEvents_4 : decode cX7_readEvents 4 = .ok (.aload_n 0, 1) := by decide +kernel
theorem dX7_readEvents_5 : decode cX7_readEvents 5 = .ok (.getfield 66, 3) := by decide +kernel
theorem dX7_readEvents_8 : decode cX7_readEvents 8 = .ok (.if_icmp .ge 79, 3) := by decide +kernel
theorem dX7_readEvents_11 : decode cX7_readEvents 11 = .ok (.aload_n 0, 1) := by decide +kernel
theorem dX7_readEvents_12 : decode cX7_readEvents 12 = .ok (.getfield 18, 3) := by decide +kernel
theorem dX7_readEvents_15 : decode cX7_readEvents 15 = .ok (.getfield 52, 3) := by decide +kernel
theorem dX7_readEvents_18 : decode cX7_readEvents 18 = .ok (.aload_n 0, 1) := by decide +kernel
theorem dX7_readEvents_19 : decode cX7_readEvents 19 = .ok (.getfield 62, 3) := by decide +kernel
theorem dX7_readEvents_22 : decode cX7_readEvents 22 = .ok (.invokevirtual 153, 3) := by decide +kernel
theorem dX7_readEvents_25 : decode cX7_readEvents 25 = .ok (.istore_n 1, 1) := by decide +kernel
theorem dX7_readEvents_26 : decode cX7_readEvents 26 = .ok (.iload_n 1, 1) := by decide +kernel
theorem dX7_readEvents_27 : decode cX7_readEvents 27 = .ok (.aload_n 0, 1) := by decide +kernel
theorem dX7_readEvents_28 : decode cX7_readEvents 28 = .ok (.getfield 35, 3) := by decide +kernel
theorem dX7_readEvents_31 : decode cX7_readEvents 31 = .ok (.if_icmp .le 9, 3) := by decide +kernel
theorem dX7_readEvents_34 : decode cX7_readEvents 34 = .ok (.aload_n 0, 1) := by decide +kernel
theorem dX7_readEvents_35 : decode cX7_readEvents 35 = .ok (.iload_n 1, 1) := by decide +kernel
theorem dX7_readEvents_36 : decode cX7_readEvents 36 = .ok (.invokevirtual 127, 3) := by decide +kernel
theorem dX7_readEvents_39 : decode cX7_readEvents 39 = .ok (.return_, 1) := by decide +kernel
theorem dX7_readEvents_40 : decode cX7_readEvents 40 = .ok (.aload_n 0, 1) := by decide +kernel
theorem dX7_readEvents_41 : decode cX7_readEvents 41 = .ok (.getfield 18, 3) := by decide +kernel
theorem dX7_readEvents_44 : decode cX7_readEvents 44 = .ok (.getfield 52, 3) := by decide +kernel
theorem dX7_readEvents_47 : decode cX7_readEvents 47 = .ok (.aload_n 0, 1) := by decide +kernel
theorem dX7_readEvents_48 : decode cX7_readEvents 48 = .ok (.getfield 62, 3) := by decide +kernel
theorem dX7_readEvents_51 : decode cX7_readEvents 51 = .ok (.invokevirtual 157, 3) := by decide +kernel
theorem dX7_readEvents_54 : decode cX7_readEvents 54 = .ok (.istore_n 2, 1) := by decide +kernel
theorem dX7_readEvents_55 : decode cX7_readEvents 55 = .ok (.iload_n 2, 1) := by decide +kernel
theorem dX7_readEvents_56 : decode cX7_readEvents 56 = .ok (.iconst 3, 1) := by decide +kernel
theorem dX7_readEvents_57 : decode cX7_readEvents 57 = .ok (.bipush 6, 2) := by decide +kernel
theorem dX7_readEvents_59 : decode cX7_readEvents 59 = .ok (.invokestatic 99, 3) := by decide +kernel
theorem dX7_readEvents_62 : decode cX7_readEvents 62 = .ok (.ifCond .eq 12, 3) := by decide +kernel
theorem dX7_readEvents_65 : decode cX7_readEvents 65 = .ok (.aload_n 0, 1) := by decide +kernel
theorem dX7_readEvents_66 : decode cX7_readEvents 66 = .ok (.iload_n 2, 1) := by decide +kernel
theorem dX7_readEvents_67 : decode cX7_readEvents 67 = .ok (.iconst 3, 1) := by decide +kernel
theorem dX7_readEvents_68 : decode cX7_readEvents 68 = .ok (.isub, 1) := by decide +kernel
theorem dX7_readEvents_69 : decode cX7_readEvents 69 = .ok (.iconst 1, 1) := by decide +kernel
theorem dX7_readEvents_70 : decode cX7_readEvents 70 = .ok (.iadd, 1) := by decide +kernel
theorem dX7_readEvents_71 : decode cX7_readEvents 71 = .ok (.putfield 72, 3) := by decide +kernel
theorem dX7_readEvents_74 : decode cX7_readEvents 74 = .ok (.aload_n 0, 1) := by decide +kernel
theorem dX7_readEvents_75 : decode cX7_readEvents 75 = .ok (.dup, 1) := by decide +kernel
theorem dX7_readEvents_76 : decode cX7_readEvents 76 = .ok (.getfield 62, 3) := by decide +kernel
theorem dX7_readEvents_79 : decode cX7_readEvents 79 = .ok (.iconst 1, 1) := by decide +kernel
theorem dX7_readEvents_80 : decode cX7_readEvents 80 = .ok (.iadd, 1) := by decide +kernel
theorem dX7_readEvents_81 : decode cX7_readEvents 81 = .ok (.putfield 62, 3) := by decide +kernel
theorem dX7_readEvents_84 : decode cX7_readEvents 84 = .ok (.goto (-84), 3) := by decide +kernel
theorem dX7_readEvents_87 : decode cX7_readEvents 87 = .ok (.return_, 1) := by decide +kernel
set_option maxHeartbeats 4000000 in
set_option maxRecDepth 100000 in
theorem g_X7_readEvents (l : Launch) (G : xG) (S : yS) (d : yD) (h0 : Nat) (hSh : ySh S) (hPo : yPo S d) (hm_h0 : h0 ∈ S.1) (hk_h0 : S.2.1 h0 = 7) : xWv l G yX7_readEvents cX7_readEvents 3 none 2 42 0 0 [.ref h0] (yW G S d) (fun u : yD => yAg S [7, 22, 23] d u ∧ (yPo S d → yPo S u) ∧ (True)) (fun u => yW G S u) := by
  intro sz
  refine xstart (by decide) (Nat.le_of_ble_eq_true rfl) (fun p e s m args below meth c ls C0 hr hlocks hin hsz hP hK hD hN hl => ?_)
  obtain ⟨hx, hb, hml, hown, htl⟩ := id C0
  subst hsz
  have hD := hD.self (sz := s.heap.size)
  generalize hAe : va_A (yW G S d) s.heap.size = A at hD ⊢
  have hA : ∀ q : Nat, s.heap.size ≤ q → A q := fun q h => by rw [← hAe]; exact Or.inr h
  have hS : va_S A s.heap s.heap [] := va_S.rf
  have hg0 : yAg S [7, 22, 23] d d := yAg.rf
  have hl : lv_has ls 3 [(0, .ref h0)] := hl
  refine yloop (σ := yD) (fun x => (2147483647 - (x.1 h0 13).toInt).toNat) 0 (fun x H locs ls => va_P G.1 xcl (yW G S x) H ∧ va_D A (yW G S x) ∧ va_S A s.heap H locs ∧ yAg S [7, 22, 23] d x ∧ yPo S x ∧ lv_has ls 3 [(0, .ref h0)]) (fun x H locs ls hI hnext_2 => ?_) d ⟨hP, hD, hS, hg0, hPo, lv_sub hl [0] rfl⟩
  obtain ⟨d_1, rfl⟩ : ∃ z, z = x := ⟨_, rfl⟩
  obtain ⟨hP, hD, hS, hgd_1, hPod_1, hl⟩ := hI
  have hl : lv_has ls 3 [(0, .ref h0)] := hl
  refine lv_aload_n hx hb dX7_readEvents_0 rfl (lv_at hl 0 rfl) ?_
  refine yget (ci := 7) (k := 13) (v := .int (d_1.1 h0 13)) (C := RX7) (T := TX7) (N := 18) C0 hK hP hm_h0 hk_h0 (by decide) rfl inlX7 (by decide) mW749 (fun _ h9 => h9) rfl dX7_readEvents_1 ?_
  refine lv_topi (fun z_3 ez_3 => ?_)
  refine lv_aload_n hx hb dX7_readEvents_4 rfl (lv_at hl 0 rfl) ?_
  refine yget (ci := 7) (k := 14) (v := .int (d_1.1 h0 14)) (C := RX7) (T := TX7) (N := 18) C0 hK hP hm_h0 hk_h0 (by decide) rfl inlX7 (by decide) mW751 (fun _ h9 => h9) rfl dX7_readEvents_5 ?_
  refine lv_topi (fun z_4 ez_4 => ?_)
  refine lv_icmp_ge (tgt := 87) hx hb dX7_readEvents_8 (by decide) (fun c_5 => ?_) (fun c_5 => ?_)
  · exact W.vret hx hb hr (fun t ht hW => ⟨⟨d_1, rfl, ⟨hgd_1, (fun _ => hPod_1), trivial⟩, by rw [ht]; exact hP, hD⟩, hS.F ht⟩) hS.2.2 dX7_readEvents_87
  · refine lv_aload_n hx hb dX7_readEvents_11 rfl (lv_at hl 0 rfl) ?_
    refine yget (ci := 7) (k := 0) (v := .ref (S.2.2.1 h0 0)) (C := RX7) (T := TX7) (N := 18) C0 hK hP hm_h0 hk_h0 (by decide) rfl inlX7 (by decide) mW96 (fun _ h9 => h9) rfl dX7_readEvents_12 ?_
    obtain ⟨hmy_6, hky_6⟩ := ySh.f7_0 hSh _ hm_h0 hk_h0
    refine yget (ci := 0) (k := 1) (v := .ref (S.2.2.1 (S.2.2.1 h0 0) 1)) (C := RX0) (T := TX0) (N := 6) C0 hK hP hmy_6 hky_6 (by decide) rfl inlX0 (by decide) mW748 (fun _ h9 => h9) rfl dX7_readEvents_15 ?_
    obtain ⟨hmy_7, hky_7⟩ := ySh.f0_1 hSh _ hmy_6 hky_6
    refine lv_aload_n hx hb dX7_readEvents_18 rfl (lv_at hl 0 rfl) ?_
    refine yget (ci := 7) (k := 13) (v := .int (d_1.1 h0 13)) (C := RX7) (T := TX7) (N := 18) C0 hK hP hm_h0 hk_h0 (by decide) rfl inlX7 (by decide) mW749 (fun _ h9 => h9) rfl dX7_readEvents_19 ?_
    refine lv_topi (fun z_8 ez_8 => ?_)
    refine yVri (As := [.int z_8]) (rest := []) C0 (g_X2_minuteAt l G S d_1 (S.2.2.1 (S.2.2.1 h0 0) 1) z_8 hSh hmy_7 hky_7) ok_X2_minuteAt (mW773 : Cond.methodLink RX7 153 yX2_minuteAt ∈ wsT) ⟨Nat.le_of_ble_eq_true rfl, Nat.le_of_ble_eq_true rfl⟩ hP hD hK hN hmy_7 hky_7 (by decide) rfl rfl rfl hl.1 rfl (Nat.le_of_ble_eq_true rfl) ⟨Nat.le_of_ble_eq_true rfl, Nat.le_of_ble_eq_true rfl⟩ dX7_readEvents_22 (fun r_9 hr_9 => ?_)
    refine lv_istore_n (lv' := [(1, .int r_9), (0, .ref h0)]) hx hb dX7_readEvents_25 rfl hl (by decide) rfl (fun ls hl => ?_)
    refine lv_iload_n hx hb dX7_readEvents_26 rfl (lv_at hl 0 rfl) ?_
    refine lv_aload_n hx hb dX7_readEvents_27 rfl (lv_at hl 1 rfl) ?_
    refine yget (ci := 7) (k := 8) (v := .int (d_1.1 h0 8)) (C := RX7) (T := TX7) (N := 18) C0 hK hP hm_h0 hk_h0 (by decide) rfl inlX7 (by decide) mW743 (fun _ h9 => h9) rfl dX7_readEvents_28 ?_
    refine lv_topi (fun z_10 ez_10 => ?_)
    refine lv_icmp_le (tgt := 40) hx hb dX7_readEvents_31 (by decide) (fun c_11 => ?_) (fun c_11 => ?_)
    · refine lv_aload_n hx hb dX7_readEvents_40 rfl (lv_at hl 1 rfl) ?_
      refine yget (ci := 7) (k := 0) (v := .ref (S.2.2.1 h0 0)) (C := RX7) (T := TX7) (N := 18) C0 hK hP hm_h0 hk_h0 (by decide) rfl inlX7 (by decide) mW96 (fun _ h9 => h9) rfl dX7_readEvents_41 ?_
      refine yget (ci := 0) (k := 1) (v := .ref (S.2.2.1 (S.2.2.1 h0 0) 1)) (C := RX0) (T := TX0) (N := 6) C0 hK hP hmy_6 hky_6 (by decide) rfl inlX0 (by decide) mW748 (fun _ h9 => h9) rfl dX7_readEvents_44 ?_
      refine lv_aload_n hx hb dX7_readEvents_47 rfl (lv_at hl 1 rfl) ?_
      refine yget (ci := 7) (k := 13) (v := .int (d_1.1 h0 13)) (C := RX7) (T := TX7) (N := 18) C0 hK hP hm_h0 hk_h0 (by decide) rfl inlX7 (by decide) mW749 (fun _ h9 => h9) rfl dX7_readEvents_48 ?_
      refine lv_topi (fun z_12 ez_12 => ?_)
      refine yVri (As := [.int z_12]) (rest := []) C0 (g_X2_kindAt l G S d_1 (S.2.2.1 (S.2.2.1 h0 0) 1) z_12 hSh hmy_7 hky_7) ok_X2_kindAt (mW778 : Cond.methodLink RX7 157 yX2_kindAt ∈ wsT) ⟨Nat.le_of_ble_eq_true rfl, Nat.le_of_ble_eq_true rfl⟩ hP hD hK hN hmy_7 hky_7 (by decide) rfl rfl rfl hl.1 rfl (Nat.le_of_ble_eq_true rfl) ⟨Nat.le_of_ble_eq_true rfl, Nat.le_of_ble_eq_true rfl⟩ dX7_readEvents_51 (fun r_13 hr_13 => ?_)
      refine lv_istore_n (lv' := [(2, .int r_13), (1, .int r_9), (0, .ref h0)]) hx hb dX7_readEvents_54 rfl hl (by decide) rfl (fun ls hl => ?_)
      refine lv_iload_n hx hb dX7_readEvents_55 rfl (lv_at hl 0 rfl) ?_
      refine lv_iconst (v := 3) hx hb dX7_readEvents_56 (by decide) ?_
      refine lv_bipush (v := 6) hx hb dX7_readEvents_57 (by decide) ?_
      refine ySNri (As := [.int r_13, .int 3, .int 6]) (rest := []) C0 (g_X8_within l G S d_1 r_13 3 6 ) ok_X8_within (xN.n13 hN) ⟨Nat.le_of_ble_eq_true rfl, Nat.le_of_ble_eq_true rfl⟩ hP hD hK hN rfl hl.1 rfl (Nat.le_of_ble_eq_true rfl) ⟨Nat.le_of_ble_eq_true rfl, Nat.le_of_ble_eq_true rfl⟩ dX7_readEvents_59 (fun r_14 hr_14 => ?_)
      refine lv_if_eq (tgt := 74) hx hb dX7_readEvents_62 (by decide) (fun c_15 => ?_) (fun c_15 => ?_)
      · refine lv_aload_n hx hb dX7_readEvents_74 rfl (lv_at hl 2 rfl) ?_
        refine lv_dup hx hb dX7_readEvents_75 rfl ?_
        refine yget (ci := 7) (k := 13) (v := .int (d_1.1 h0 13)) (C := RX7) (T := TX7) (N := 18) C0 hK hP hm_h0 hk_h0 (by decide) rfl inlX7 (by decide) mW749 (fun _ h9 => h9) rfl dX7_readEvents_76 ?_
        refine lv_topi (fun z_16 ez_16 => ?_)
        refine lv_iconst (v := 1) hx hb dX7_readEvents_79 (by decide) ?_
        refine lv_iadd hx hb dX7_readEvents_80 ?_
        refine lv_topi (fun z_17 ez_17 => ?_)
        refine yputI (ci := 7) (k := 13) (ty := .int) (C := RX7) (T := TX7) (N := 18) C0 hK hP hD hS hm_h0 hk_h0 (by decide) rfl inlX7 tyX7 tyX7_ok nmX7 (by decide) mW749 (fun _ h9 => h9) rfl (by decide +kernel) rfl rfl (Nat.le_of_ble_eq_true rfl) ysi_7_13 dX7_readEvents_81 (fun H locs hP hD hS => ?_)
        obtain ⟨d_18, ed_18⟩ : ∃ z : yD, z = yi d_1 h0 13 z_17 := ⟨_, rfl⟩
        rw [← ed_18] at hP hD
        have hgd_18 : yAg S [7, 22, 23] d d_18 := by rw [ed_18]; exact yAg.i hgd_1 (by rw [hk_h0]; decide)
        have hPod_18 : yPo S d_18 := by rw [ed_18]; exact yPo.i hPod_1 hk_h0 (Or.inl rfl)
        refine lv_goto (tgt := 0) hx hb dX7_readEvents_84 (by decide) ?_
        exact hnext_2 d_18 _ _ ls ((by rw [ed_18, yi_self, ez_17, ez_16]; rw [← ez_3]; exact xup c_5)) ⟨hP, hD, hS, hgd_18, hPod_18, lv_sub hl [2] rfl⟩
      · refine lv_aload_n hx hb dX7_readEvents_65 rfl (lv_at hl 2 rfl) ?_
        refine lv_iload_n hx hb dX7_readEvents_66 rfl (lv_at hl 0 rfl) ?_
        refine lv_iconst (v := 3) hx hb dX7_readEvents_67 (by decide) ?_
        refine lv_isub hx hb dX7_readEvents_68 ?_
        refine lv_topi (fun z_19 ez_19 => ?_)
        refine lv_iconst (v := 1) hx hb dX7_readEvents_69 (by decide) ?_
        refine lv_iadd hx hb dX7_readEvents_70 ?_
        refine lv_topi (fun z_20 ez_20 => ?_)
        refine yputI (ci := 7) (k := 15) (ty := .int) (C := RX7) (T := TX7) (N := 18) C0 hK hP hD hS hm_h0 hk_h0 (by decide) rfl inlX7 tyX7 tyX7_ok nmX7 (by decide) mW752 (fun _ h9 => h9) rfl (by decide +kernel) rfl rfl (Nat.le_of_ble_eq_true rfl) ysi_7_15 dX7_readEvents_71 (fun H locs hP hD hS => ?_)
        obtain ⟨d_21, ed_21⟩ : ∃ z : yD, z = yi d_1 h0 15 z_20 := ⟨_, rfl⟩
        rw [← ed_21] at hP hD
        have hgd_21 : yAg S [7, 22, 23] d d_21 := by rw [ed_21]; exact yAg.i hgd_1 (by rw [hk_h0]; decide)
        have hPod_21 : yPo S d_21 := by rw [ed_21]; exact yPo.i hPod_1 hk_h0 (Or.inl rfl)
        refine lv_aload_n hx hb dX7_readEvents_74 rfl (lv_at hl 2 rfl) ?_
        refine lv_dup hx hb dX7_readEvents_75 rfl ?_
        refine yget (ci := 7) (k := 13) (v := .int (d_21.1 h0 13)) (C := RX7) (T := TX7) (N := 18) C0 hK hP hm_h0 hk_h0 (by decide) rfl inlX7 (by decide) mW749 (fun _ h9 => h9) rfl dX7_readEvents_76 ?_
        refine lv_topi (fun z_22 ez_22 => ?_)
        refine lv_iconst (v := 1) hx hb dX7_readEvents_79 (by decide) ?_
        refine lv_iadd hx hb dX7_readEvents_80 ?_
        refine lv_topi (fun z_23 ez_23 => ?_)
        refine yputI (ci := 7) (k := 13) (ty := .int) (C := RX7) (T := TX7) (N := 18) C0 hK hP hD hS hm_h0 hk_h0 (by decide) rfl inlX7 tyX7 tyX7_ok nmX7 (by decide) mW749 (fun _ h9 => h9) rfl (by decide +kernel) rfl rfl (Nat.le_of_ble_eq_true rfl) ysi_7_13 dX7_readEvents_81 (fun H locs hP hD hS => ?_)
        obtain ⟨d_24, ed_24⟩ : ∃ z : yD, z = yi d_21 h0 13 z_23 := ⟨_, rfl⟩
        rw [← ed_24] at hP hD
        have hgd_24 : yAg S [7, 22, 23] d d_24 := by rw [ed_24]; exact yAg.i hgd_21 (by rw [hk_h0]; decide)
        have hPod_24 : yPo S d_24 := by rw [ed_24]; exact yPo.i hPod_21 hk_h0 (Or.inl rfl)
        refine lv_goto (tgt := 0) hx hb dX7_readEvents_84 (by decide) ?_
        exact hnext_2 d_24 _ _ ls ((by rw [ed_24, yi_self, ez_23, ez_22, ed_21]; rw [yi_at (by decide)]; rw [← ez_3]; exact xup c_5)) ⟨hP, hD, hS, hgd_24, hPod_24, lv_sub hl [2] rfl⟩
    · refine lv_aload_n hx hb dX7_readEvents_34 rfl (lv_at hl 1 rfl) ?_
      refine lv_iload_n hx hb dX7_readEvents_35 rfl (lv_at hl 0 rfl) ?_
      refine yVwv (As := [.int r_9]) (rest := []) C0 (g_X7_breakAt l G S d_1 h0 r_9 hSh hPod_1 hm_h0 hk_h0) ok_X7_breakAt (mW774 : Cond.methodLink RX7 127 yX7_breakAt ∈ wsT) ⟨Nat.le_of_ble_eq_true rfl, Nat.le_of_ble_eq_true rfl⟩ hP hD hS hA hK hN hm_h0 hk_h0 (by decide) rfl rfl rfl hl.1 rfl (Nat.le_of_ble_eq_true rfl) ⟨Nat.le_of_ble_eq_true rfl, Nat.le_of_ble_eq_true rfl⟩ dX7_readEvents_36 (fun d_26 H locs hr_25 hP hD hS => ?_)
      obtain ⟨hgad_26, hpad_26, hxd_26⟩ := hr_25
      have hgd_26 : yAg S [7, 22, 23] d d_26 := yAg.tr hgd_1 hgad_26 (by decide)
      have hPod_26 : yPo S d_26 := hpad_26 hPod_1
      exact W.vret hx hb hr (fun t ht hW => ⟨⟨d_26, rfl, ⟨hgd_26, (fun _ => hPod_26), trivial⟩, by rw [ht]; exact hP, hD⟩, hS.F ht⟩) hS.2.2 dX7_readEvents_39
theorem dX7_spans_0 : decode cX7_spans 0 = .ok (.aload_n 0, 1) := by decide +kernel
theorem dX7_spans_1 : decode cX7_spans 1 = .ok (.getfield 18, 3) := by decide +kernel
theorem dX7_spans_4 : decode cX7_spans 4 = .ok (.getfield 86, 3) := by decide +kernel
theorem dX7_spans_7 : decode cX7_spans 7 = .ok (.getfield 160, 3) := by decide +kernel
theorem dX7_spans_10 : decode cX7_spans 10 = .ok (.iload_n 1, 1) := by decide +kernel
theorem dX7_spans_11 : decode cX7_spans 11 = .ok (.invokestatic 95, 3) := by decide +kernel
theorem dX7_spans_14 : decode cX7_spans 14 = .ok (.istore_n 2, 1) := by decide +kernel
theorem dX7_spans_15 : decode cX7_spans 15 = .ok (.aload_n 0, 1) := by decide +kernel
theorem dX7_spans_16 : decode cX7_spans 16 = .ok (.getfield 18, 3) := by decide +kernel
theorem dX7_spans_19 : decode cX7_spans 19 = .ok (.getfield 86, 3) := by decide +kernel
theorem dX7_spans_22 : decode cX7_spans 22 = .ok (.getfield 163, 3) := by decide +kernel
theorem dX7_spans_25 : decode cX7_spans 25 = .ok (.iload_n 1, 1) := by decide +kernel
theorem dX7_spans_26 : decode cX7_spans 26 = .ok (.invokestatic 95, 3) := by decide +kernel
theorem dX7_spans_29 : decode cX7_spans 29 = .ok (.istore_n 3, 1) := by decide +kernel
theorem dX7_spans_30 : decode cX7_spans 30 = .ok (.aload_n 0, 1) := by decide +kernel
theorem dX7_spans_31 : decode cX7_spans 31 = .ok (.getfield 18, 3) := by decide +kernel
theorem dX7_spans_34 : decode cX7_spans 34 = .ok (.getfield 86, 3) := by decide +kernel
theorem dX7_spans_37 : decode cX7_spans 37 = .ok (.getfield 166, 3) := by decide +kernel
theorem dX7_spans_40 : decode cX7_spans 40 = .ok (.iload_n 1, 1) := by decide +kernel
theorem dX7_spans_41 : decode cX7_spans 41 = .ok (.invokestatic 95, 3) := by decide +kernel
theorem dX7_spans_44 : decode cX7_spans 44 = .ok (.istore 4, 2) := by decide +kernel
theorem dX7_spans_46 : decode cX7_spans 46 = .ok (.aload_n 0, 1) := by decide +kernel
theorem dX7_spans_47 : decode cX7_spans 47 = .ok (.getfield 35, 3) := by decide +kernel
theorem dX7_spans_50 : decode cX7_spans 50 = .ok (.sipush 1440, 3) := by decide +kernel
theorem dX7_spans_53 : decode cX7_spans 53 = .ok (.idiv, 1) := by decide +kernel
theorem dX7_spans_54 : decode cX7_spans 54 = .ok (.sipush 1440, 3) := by decide +kernel
theorem dX7_spans_57 : decode cX7_spans 57 = .ok (.imul, 1) := by decide +kernel
theorem dX7_spans_58 : decode cX7_spans 58 = .ok (.istore 5, 2) := by decide +kernel
theorem dX7_spans_60 : decode cX7_spans 60 = .ok (.iload_n 2, 1) := by decide +kernel
theorem dX7_spans_61 : decode cX7_spans 61 = .ok (.tableswitch 75 0 3 #[31, 75, 33, 61], 31) := by decide +kernel
theorem dX7_spans_92 : decode cX7_spans 92 = .ok (.iconst 1, 1) := by decide +kernel
theorem dX7_spans_93 : decode cX7_spans 93 = .ok (.ireturn, 1) := by decide +kernel
theorem dX7_spans_94 : decode cX7_spans 94 = .ok (.aload_n 0, 1) := by decide +kernel
theorem dX7_spans_95 : decode cX7_spans 95 = .ok (.getfield 28, 3) := by decide +kernel
theorem dX7_spans_98 : decode cX7_spans 98 = .ok (.getfield 169, 3) := by decide +kernel
theorem dX7_spans_101 : decode cX7_spans 101 = .ok (.aload_n 0, 1) := by decide +kernel
theorem dX7_spans_102 : decode cX7_spans 102 = .ok (.getfield 35, 3) := by decide +kernel
theorem dX7_spans_105 : decode cX7_spans 105 = .ok (.sipush 1440, 3) := by decide +kernel
theorem dX7_spans_108 : decode cX7_spans 108 = .ok (.idiv, 1) := by decide +kernel
theorem dX7_spans_109 : decode cX7_spans 109 = .ok (.invokestatic 95, 3) := by decide +kernel
theorem dX7_spans_112 : decode cX7_spans 112 = .ok (.iconst 1, 1) := by decide +kernel
theorem dX7_spans_113 : decode cX7_spans 113 = .ok (.if_icmp .ne 7, 3) := by decide +kernel
theorem dX7_spans_116 : decode cX7_spans 116 = .ok (.iconst 1, 1) := by decide +kernel
theorem dX7_spans_117 : decode cX7_spans 117 = .ok (.goto 4, 3) := by decide +kernel
theorem dX7_spans_120 : decode cX7_spans 120 = .ok (.iconst 0, 1) := by decide +kernel
theorem dX7_spans_121 : decode cX7_spans 121 = .ok (.ireturn, 1) := by decide +kernel
theorem dX7_spans_122 : decode cX7_spans 122 = .ok (.aload_n 0, 1) := by decide +kernel
theorem dX7_spans_123 : decode cX7_spans 123 = .ok (.getfield 72, 3) := by decide +kernel
theorem dX7_spans_126 : decode cX7_spans 126 = .ok (.iload_n 3, 1) := by decide +kernel
theorem dX7_spans_127 : decode cX7_spans 127 = .ok (.if_icmp .ne 7, 3) := by decide +kernel
theorem dX7_spans_130 : decode cX7_spans 130 = .ok (.iconst 1, 1) := by decide +kernel
theorem dX7_spans_131 : decode cX7_spans 131 = .ok (.goto 4, 3) := by decide +kernel
theorem dX7_spans_134 : decode cX7_spans 134 = .ok (.iconst 0, 1) := by decide +kernel
theorem dX7_spans_135 : decode cX7_spans 135 = .ok (.ireturn, 1) := by decide +kernel
theorem dX7_spans_136 : decode cX7_spans 136 = .ok (.iload_n 2, 1) := by decide +kernel
theorem dX7_spans_137 : decode cX7_spans 137 = .ok (.iconst 1, 1) := by decide +kernel
theorem dX7_spans_138 : decode cX7_spans 138 = .ok (.if_icmp .ne 10, 3) := by decide +kernel
theorem dX7_spans_141 : decode cX7_spans 141 = .ok (.iload 5, 2) := by decide +kernel
theorem dX7_spans_143 : decode cX7_spans 143 = .ok (.iload_n 3, 1) := by decide +kernel
theorem dX7_spans_144 : decode cX7_spans 144 = .ok (.iadd, 1) := by decide +kernel
theorem dX7_spans_145 : decode cX7_spans 145 = .ok (.goto 4, 3) := by decide +kernel
theorem dX7_spans_148 : decode cX7_spans 148 = .ok (.iload_n 3, 1) := by decide +kernel
theorem dX7_spans_149 : decode cX7_spans 149 = .ok (.istore 6, 2) := by decide +kernel
theorem dX7_spans_151 : decode cX7_spans 151 = .ok (.iload_n 2, 1) := by decide +kernel
theorem dX7_spans_152 : decode cX7_spans 152 = .ok (.iconst 1, 1) := by decide +kernel
theorem dX7_spans_153 : decode cX7_spans 153 = .ok (.if_icmp .ne 11, 3) := by decide +kernel
theorem dX7_spans_156 : decode cX7_spans 156 = .ok (.iload 5, 2) := by decide +kernel
theorem dX7_spans_158 : decode cX7_spans 158 = .ok (.iload 4, 2) := by decide +kernel
theorem dX7_spans_160 : decode cX7_spans 160 = .ok (.iadd, 1) := by decide +kernel
theorem dX7_spans_161 : decode cX7_spans 161 = .ok (.goto 5, 3) := by decide +kernel
theorem dX7_spans_164 : decode cX7_spans 164 = .ok (.iload 4, 2) := by decide +kernel
theorem dX7_spans_166 : decode cX7_spans 166 = .ok (.istore 7, 2) := by decide +kernel
theorem dX7_spans_168 : decode cX7_spans 168 = .ok (.aload_n 0, 1) := by decide +kernel
theorem dX7_spans_169 : decode cX7_spans 169 = .ok (.iload 6, 2) := by decide +kernel
theorem dX7_spans_171 : decode cX7_spans 171 = .ok (.invokevirtual 127, 3) := by decide +kernel
theorem dX7_spans_174 : decode cX7_spans 174 = .ok (.aload_n 0, 1) := by decide +kernel
theorem dX7_spans_175 : decode cX7_spans 175 = .ok (.iload 7, 2) := by decide +kernel
theorem dX7_spans_177 : decode cX7_spans 177 = .ok (.invokevirtual 127, 3) := by decide +kernel
theorem dX7_spans_180 : decode cX7_spans 180 = .ok (.iload_n 2, 1) := by decide +kernel
theorem dX7_spans_181 : decode cX7_spans 181 = .ok (.iconst 1, 1) := by decide +kernel
theorem dX7_spans_182 : decode cX7_spans 182 = .ok (.if_icmp .ne 33, 3) := by decide +kernel
theorem dX7_spans_185 : decode cX7_spans 185 = .ok (.iload_n 3, 1) := by decide +kernel
theorem dX7_spans_186 : decode cX7_spans 186 = .ok (.iload 4, 2) := by decide +kernel
theorem dX7_spans_188 : decode cX7_spans 188 = .ok (.if_icmp .le 27, 3) := by decide +kernel
theorem dX7_spans_191 : decode cX7_spans 191 = .ok (.aload_n 0, 1) := by decide +kernel
theorem dX7_spans_192 : decode cX7_spans 192 = .ok (.getfield 35, 3) := by decide +kernel
theorem dX7_spans_195 : decode cX7_spans 195 = .ok (.iload 6, 2) := by decide +kernel
theorem dX7_spans_197 : decode cX7_spans 197 = .ok (.if_icmp .ge 12, 3) := by decide +kernel
theorem dX7_spans_200 : decode cX7_spans 200 = .ok (.aload_n 0, 1) := by decide +kernel
theorem dX7_spans_201 : decode cX7_spans 201 = .ok (.getfield 35, 3) := by decide +kernel
theorem dX7_spans_204 : decode cX7_spans 204 = .ok (.iload 7, 2) := by decide +kernel
theorem dX7_spans_206 : decode cX7_spans 206 = .ok (.if_icmp .ge 7, 3) := by decide +kernel
theorem dX7_spans_209 : decode cX7_spans 209 = .ok (.iconst 1, 1) := by decide +kernel
theorem dX7_spans_210 : decode cX7_spans 210 = .ok (.goto 4, 3) := by decide +kernel
theorem dX7_spans_213 : decode cX7_spans 213 = .ok (.iconst 0, 1) := by decide +kernel
theorem dX7_spans_214 : decode cX7_spans 214 = .ok (.ireturn, 1) := by decide +kernel
theorem dX7_spans_215 : decode cX7_spans 215 = .ok (.aload_n 0, 1) := by decide +kernel
theorem dX7_spans_216 : decode cX7_spans 216 = .ok (.getfield 35, 3) := by decide +kernel
theorem dX7_spans_219 : decode cX7_spans 219 = .ok (.iload 6, 2) := by decide +kernel
theorem dX7_spans_221 : decode cX7_spans 221 = .ok (.if_icmp .lt 16, 3) := by decide +kernel
theorem dX7_spans_224 : decode cX7_spans 224 = .ok (.aload_n 0, 1) := by decide +kernel
theorem dX7_spans_225 : decode cX7_spans 225 = .ok (.getfield 35, 3) := by decide +kernel
theorem dX7_spans_228 : decode cX7_spans 228 = .ok (.iload 7, 2) := by decide +kernel
theorem dX7_spans_230 : decode cX7_spans 230 = .ok (.if_icmp .ge 7, 3) := by decide +kernel
theorem dX7_spans_233 : decode cX7_spans 233 = .ok (.iconst 1, 1) := by decide +kernel
theorem dX7_spans_234 : decode cX7_spans 234 = .ok (.goto 4, 3) := by decide +kernel
theorem dX7_spans_237 : decode cX7_spans 237 = .ok (.iconst 0, 1) := by decide +kernel
theorem dX7_spans_238 : decode cX7_spans 238 = .ok (.ireturn, 1) := by decide +kernel
set_option maxHeartbeats 4000000 in
set_option maxRecDepth 100000 in
theorem g_X7_spans (l : Launch) (G : xG) (S : yS) (d : yD) (h0 : Nat) (p0 : Int32) (hSh : ySh S) (hPo : yPo S d) (hm_h0 : h0 ∈ S.1) (hk_h0 : S.2.1 h0 = 7) : xWi l G yX7_spans cX7_spans 8 (some .boolean) 1 21 0 0 [.ref h0, .int p0] (yW G S d) (fun r (u : yD) => yAg S [7, 22, 23] d u ∧ (yPo S d → yPo S u) ∧ (r = 0 ∨ r = 1)) (fun u => yW G S u) := by
  intro sz
  refine xstart (by decide) (Nat.le_of_ble_eq_true rfl) (fun p e s m args below meth c ls C0 hr hlocks hin hsz hP hK hD hN hl => ?_)
  obtain ⟨hx, hb, hml, hown, htl⟩ := id C0
  subst hsz
  have hD := hD.self (sz := s.heap.size)
  generalize hAe : va_A (yW G S d) s.heap.size = A at hD ⊢
  have hA : ∀ q : Nat, s.heap.size ≤ q → A q := fun q h => by rw [← hAe]; exact Or.inr h
  have hS : va_S A s.heap s.heap [] := va_S.rf
  have hg0 : yAg S [7, 22, 23] d d := yAg.rf
  have hl : lv_has ls 8 [(0, .ref h0), (1, .int p0)] := hl
  refine lv_aload_n hx hb dX7_spans_0 rfl (lv_at hl 0 rfl) ?_
  refine yget (ci := 7) (k := 0) (v := .ref (S.2.2.1 h0 0)) (C := RX7) (T := TX7) (N := 18) C0 hK hP hm_h0 hk_h0 (by decide) rfl inlX7 (by decide) mW96 (fun _ h9 => h9) rfl dX7_spans_1 ?_
  obtain ⟨hmy_1, hky_1⟩ := ySh.f7_0 hSh _ hm_h0 hk_h0
  refine yget (ci := 0) (k := 0) (v := .ref (S.2.2.1 (S.2.2.1 h0 0) 0)) (C := RX0) (T := TX0) (N := 6) C0 hK hP hmy_1 hky_1 (by decide) rfl inlX0 (by decide) mW755 (fun _ h9 => h9) rfl dX7_spans_4 ?_
  obtain ⟨hmy_2, hky_2⟩ := ySh.f0_0 hSh _ hmy_1 hky_1
  refine yget (ci := 6) (k := 1) (v := .ref (S.2.2.1 (S.2.2.1 (S.2.2.1 h0 0) 0) 1)) (C := RX6) (T := TX6) (N := 7) C0 hK hP hmy_2 hky_2 (by decide) rfl inlX6 (by decide) mW790 (fun _ h9 => h9) rfl dX7_spans_7 ?_
  obtain ⟨hmy_3, hky_3⟩ := ySh.f6_1 hSh _ hmy_2 hky_2
  refine lv_iload_n hx hb dX7_spans_10 rfl (lv_at hl 1 rfl) ?_
  refine ySNri (As := [.ref (S.2.2.1 (S.2.2.1 (S.2.2.1 h0 0) 0) 1), .int p0]) (rest := []) C0 (g_X8_at l G S d (S.2.2.1 (S.2.2.1 (S.2.2.1 h0 0) 0) 1) 11 p0 hmy_3 hky_3 (by decide) rfl rfl (by decide)) ok_X8_at (xN.n12 hN) ⟨Nat.le_of_ble_eq_true rfl, Nat.le_of_ble_eq_true rfl⟩ hP hD hK hN rfl hl.1 rfl (Nat.le_of_ble_eq_true rfl) ⟨Nat.le_of_ble_eq_true rfl, Nat.le_of_ble_eq_true rfl⟩ dX7_spans_11 (fun r_4 hr_4 => ?_)
  refine lv_istore_n (lv' := [(2, .int r_4), (0, .ref h0), (1, .int p0)]) hx hb dX7_spans_14 rfl hl (by decide) rfl (fun ls hl => ?_)
  refine lv_aload_n hx hb dX7_spans_15 rfl (lv_at hl 1 rfl) ?_
  refine yget (ci := 7) (k := 0) (v := .ref (S.2.2.1 h0 0)) (C := RX7) (T := TX7) (N := 18) C0 hK hP hm_h0 hk_h0 (by decide) rfl inlX7 (by decide) mW96 (fun _ h9 => h9) rfl dX7_spans_16 ?_
  refine yget (ci := 0) (k := 0) (v := .ref (S.2.2.1 (S.2.2.1 h0 0) 0)) (C := RX0) (T := TX0) (N := 6) C0 hK hP hmy_1 hky_1 (by decide) rfl inlX0 (by decide) mW755 (fun _ h9 => h9) rfl dX7_spans_19 ?_
  refine yget (ci := 6) (k := 2) (v := .ref (S.2.2.1 (S.2.2.1 (S.2.2.1 h0 0) 0) 2)) (C := RX6) (T := TX6) (N := 7) C0 hK hP hmy_2 hky_2 (by decide) rfl inlX6 (by decide) mW791 (fun _ h9 => h9) rfl dX7_spans_22 ?_
  obtain ⟨hmy_5, hky_5⟩ := ySh.f6_2 hSh _ hmy_2 hky_2
  refine lv_iload_n hx hb dX7_spans_25 rfl (lv_at hl 2 rfl) ?_
  refine ySNri (As := [.ref (S.2.2.1 (S.2.2.1 (S.2.2.1 h0 0) 0) 2), .int p0]) (rest := []) C0 (g_X8_at l G S d (S.2.2.1 (S.2.2.1 (S.2.2.1 h0 0) 0) 2) 12 p0 hmy_5 hky_5 (by decide) rfl rfl (by decide)) ok_X8_at (xN.n12 hN) ⟨Nat.le_of_ble_eq_true rfl, Nat.le_of_ble_eq_true rfl⟩ hP hD hK hN rfl hl.1 rfl (Nat.le_of_ble_eq_true rfl) ⟨Nat.le_of_ble_eq_true rfl, Nat.le_of_ble_eq_true rfl⟩ dX7_spans_26 (fun r_6 hr_6 => ?_)
  refine lv_istore_n (lv' := [(3, .int r_6), (2, .int r_4), (0, .ref h0), (1, .int p0)]) hx hb dX7_spans_29 rfl hl (by decide) rfl (fun ls hl => ?_)
  refine lv_aload_n hx hb dX7_spans_30 rfl (lv_at hl 2 rfl) ?_
  refine yget (ci := 7) (k := 0) (v := .ref (S.2.2.1 h0 0)) (C := RX7) (T := TX7) (N := 18) C0 hK hP hm_h0 hk_h0 (by decide) rfl inlX7 (by decide) mW96 (fun _ h9 => h9) rfl dX7_spans_31 ?_
  refine yget (ci := 0) (k := 0) (v := .ref (S.2.2.1 (S.2.2.1 h0 0) 0)) (C := RX0) (T := TX0) (N := 6) C0 hK hP hmy_1 hky_1 (by decide) rfl inlX0 (by decide) mW755 (fun _ h9 => h9) rfl dX7_spans_34 ?_
  refine yget (ci := 6) (k := 3) (v := .ref (S.2.2.1 (S.2.2.1 (S.2.2.1 h0 0) 0) 3)) (C := RX6) (T := TX6) (N := 7) C0 hK hP hmy_2 hky_2 (by decide) rfl inlX6 (by decide) mW792 (fun _ h9 => h9) rfl dX7_spans_37 ?_
  obtain ⟨hmy_7, hky_7⟩ := ySh.f6_3 hSh _ hmy_2 hky_2
  refine lv_iload_n hx hb dX7_spans_40 rfl (lv_at hl 3 rfl) ?_
  refine ySNri (As := [.ref (S.2.2.1 (S.2.2.1 (S.2.2.1 h0 0) 0) 3), .int p0]) (rest := []) C0 (g_X8_at l G S d (S.2.2.1 (S.2.2.1 (S.2.2.1 h0 0) 0) 3) 13 p0 hmy_7 hky_7 (by decide) rfl rfl (by decide)) ok_X8_at (xN.n12 hN) ⟨Nat.le_of_ble_eq_true rfl, Nat.le_of_ble_eq_true rfl⟩ hP hD hK hN rfl hl.1 rfl (Nat.le_of_ble_eq_true rfl) ⟨Nat.le_of_ble_eq_true rfl, Nat.le_of_ble_eq_true rfl⟩ dX7_spans_41 (fun r_8 hr_8 => ?_)
  refine lv_istore (lv' := [(4, .int r_8), (3, .int r_6), (2, .int r_4), (0, .ref h0), (1, .int p0)]) hx hb dX7_spans_44 hl (by decide) rfl (fun ls hl => ?_)
  refine lv_aload_n hx hb dX7_spans_46 rfl (lv_at hl 3 rfl) ?_
  refine yget (ci := 7) (k := 8) (v := .int (d.1 h0 8)) (C := RX7) (T := TX7) (N := 18) C0 hK hP hm_h0 hk_h0 (by decide) rfl inlX7 (by decide) mW743 (fun _ h9 => h9) rfl dX7_spans_47 ?_
  refine lv_topi (fun z_9 ez_9 => ?_)
  refine lv_sipush (v := 1440) hx hb dX7_spans_50 (by decide) ?_
  refine lv_idiv hx hb dX7_spans_53 (by decide) ?_
  refine lv_topi (fun z_10 ez_10 => ?_)
  refine lv_sipush (v := 1440) hx hb dX7_spans_54 (by decide) ?_
  refine lv_imul hx hb dX7_spans_57 ?_
  refine lv_topi (fun z_11 ez_11 => ?_)
  refine lv_istore (lv' := [(5, .int z_11), (4, .int r_8), (3, .int r_6), (2, .int r_4), (0, .ref h0), (1, .int p0)]) hx hb dX7_spans_58 hl (by decide) rfl (fun ls hl => ?_)
  refine lv_iload_n hx hb dX7_spans_60 rfl (lv_at hl 3 rfl) ?_
  rcases xtab r_4 4 (by decide) with hsw_12 | ⟨k_13, hk_13, hsw_12⟩
  · refine lv_tableOut (tgt := 136) hx hb dX7_spans_61 (by omega) (by decide) ?_
    refine lv_iload_n hx hb dX7_spans_136 rfl (lv_at hl 3 rfl) ?_
    refine lv_iconst (v := 1) hx hb dX7_spans_137 (by decide) ?_
    refine yjoinR (σ := Int32) 149 (fun x ls st => st = [.int x] ∧ lv_has ls 8 [(5, .int z_11), (4, .int r_8), (3, .int r_6), (2, .int r_4), (0, .ref h0)]) (fun x ls st hI => ?_) (fun J149_14 => ?_)
    · obtain ⟨v_14, rfl⟩ : ∃ z, z = x := ⟨_, rfl⟩
      obtain ⟨rfl, hl⟩ := hI
      have hl : lv_has ls 8 [(5, .int z_11), (4, .int r_8), (3, .int r_6), (2, .int r_4), (0, .ref h0)] := hl
      refine lv_istore (lv' := [(6, .int v_14), (5, .int z_11), (4, .int r_8), (3, .int r_6), (2, .int r_4), (0, .ref h0)]) hx hb dX7_spans_149 hl (by decide) rfl (fun ls hl => ?_)
      refine lv_iload_n hx hb dX7_spans_151 rfl (lv_at hl 4 rfl) ?_
      refine lv_iconst (v := 1) hx hb dX7_spans_152 (by decide) ?_
      refine yjoinR (σ := Int32) 166 (fun x ls st => st = [.int x] ∧ lv_has ls 8 [(6, .int v_14), (4, .int r_8), (3, .int r_6), (2, .int r_4), (0, .ref h0)]) (fun x ls st hI => ?_) (fun J166_15 => ?_)
      · obtain ⟨v_15, rfl⟩ : ∃ z, z = x := ⟨_, rfl⟩
        obtain ⟨rfl, hl⟩ := hI
        have hl : lv_has ls 8 [(6, .int v_14), (4, .int r_8), (3, .int r_6), (2, .int r_4), (0, .ref h0)] := hl
        refine lv_istore (lv' := [(7, .int v_15), (6, .int v_14), (4, .int r_8), (3, .int r_6), (2, .int r_4), (0, .ref h0)]) hx hb dX7_spans_166 hl (by decide) rfl (fun ls hl => ?_)
        refine lv_aload_n hx hb dX7_spans_168 rfl (lv_at hl 5 rfl) ?_
        refine lv_iload hx hb dX7_spans_169 (lv_at hl 1 rfl) ?_
        refine yVwv (As := [.int v_14]) (rest := []) C0 (g_X7_breakAt l G S d h0 v_14 hSh hPo hm_h0 hk_h0) ok_X7_breakAt (mW774 : Cond.methodLink RX7 127 yX7_breakAt ∈ wsT) ⟨Nat.le_of_ble_eq_true rfl, Nat.le_of_ble_eq_true rfl⟩ hP hD hS hA hK hN hm_h0 hk_h0 (by decide) rfl rfl rfl hl.1 rfl (Nat.le_of_ble_eq_true rfl) ⟨Nat.le_of_ble_eq_true rfl, Nat.le_of_ble_eq_true rfl⟩ dX7_spans_171 (fun d_17 H locs hr_16 hP hD hS => ?_)
        obtain ⟨hgad_17, hpad_17, hxd_17⟩ := hr_16
        have hgd_17 : yAg S [7, 22, 23] d d_17 := yAg.tr hg0 hgad_17 (by decide)
        have hPod_17 : yPo S d_17 := hpad_17 hPo
        refine lv_aload_n hx hb dX7_spans_174 rfl (lv_at hl 5 rfl) ?_
        refine lv_iload hx hb dX7_spans_175 (lv_at hl 0 rfl) ?_
        refine yVwv (As := [.int v_15]) (rest := []) C0 (g_X7_breakAt l G S d_17 h0 v_15 hSh hPod_17 hm_h0 hk_h0) ok_X7_breakAt (mW774 : Cond.methodLink RX7 127 yX7_breakAt ∈ wsT) ⟨Nat.le_of_ble_eq_true rfl, Nat.le_of_ble_eq_true rfl⟩ hP hD hS hA hK hN hm_h0 hk_h0 (by decide) rfl rfl rfl hl.1 rfl (Nat.le_of_ble_eq_true rfl) ⟨Nat.le_of_ble_eq_true rfl, Nat.le_of_ble_eq_true rfl⟩ dX7_spans_177 (fun d_19 H locs hr_18 hP hD hS => ?_)
        obtain ⟨hgad_19, hpad_19, hxd_19⟩ := hr_18
        have hgd_19 : yAg S [7, 22, 23] d d_19 := yAg.tr hgd_17 hgad_19 (by decide)
        have hPod_19 : yPo S d_19 := hpad_19 hPod_17
        refine lv_iload_n hx hb dX7_spans_180 rfl (lv_at hl 4 rfl) ?_
        refine lv_iconst (v := 1) hx hb dX7_spans_181 (by decide) ?_
        refine lv_icmp_ne (tgt := 215) hx hb dX7_spans_182 (by decide) (fun c_20 => ?_) (fun c_20 => ?_)
        · refine lv_aload_n hx hb dX7_spans_215 rfl (lv_at hl 5 rfl) ?_
          refine yget (ci := 7) (k := 8) (v := .int (d_19.1 h0 8)) (C := RX7) (T := TX7) (N := 18) C0 hK hP hm_h0 hk_h0 (by decide) rfl inlX7 (by decide) mW743 (fun _ h9 => h9) rfl dX7_spans_216 ?_
          refine lv_topi (fun z_21 ez_21 => ?_)
          refine lv_iload hx hb dX7_spans_219 (lv_at hl 1 rfl) ?_
          refine lv_icmp_lt (tgt := 237) hx hb dX7_spans_221 (by decide) (fun c_22 => ?_) (fun c_22 => ?_)
          · refine lv_iconst (v := 0) hx hb dX7_spans_237 (by decide) ?_
            exact W.zret (v := 0) (ty := .boolean) hx hb hr rfl (fun t ht hW => ⟨⟨0, d_19, rfl, ⟨hgd_19, (fun _ => hPod_19), Or.inl rfl⟩, by rw [ht]; exact hP, hD⟩, hS.F ht⟩) hS.2.2 dX7_spans_238
          · refine lv_aload_n hx hb dX7_spans_224 rfl (lv_at hl 5 rfl) ?_
            refine yget (ci := 7) (k := 8) (v := .int (d_19.1 h0 8)) (C := RX7) (T := TX7) (N := 18) C0 hK hP hm_h0 hk_h0 (by decide) rfl inlX7 (by decide) mW743 (fun _ h9 => h9) rfl dX7_spans_225 ?_
            refine lv_topi (fun z_23 ez_23 => ?_)
            refine lv_iload hx hb dX7_spans_228 (lv_at hl 0 rfl) ?_
            refine lv_icmp_ge (tgt := 237) hx hb dX7_spans_230 (by decide) (fun c_24 => ?_) (fun c_24 => ?_)
            · refine lv_iconst (v := 0) hx hb dX7_spans_237 (by decide) ?_
              exact W.zret (v := 0) (ty := .boolean) hx hb hr rfl (fun t ht hW => ⟨⟨0, d_19, rfl, ⟨hgd_19, (fun _ => hPod_19), Or.inl rfl⟩, by rw [ht]; exact hP, hD⟩, hS.F ht⟩) hS.2.2 dX7_spans_238
            · refine lv_iconst (v := 1) hx hb dX7_spans_233 (by decide) ?_
              refine lv_goto (tgt := 238) hx hb dX7_spans_234 (by decide) ?_
              exact W.zret (v := 1) (ty := .boolean) hx hb hr rfl (fun t ht hW => ⟨⟨1, d_19, rfl, ⟨hgd_19, (fun _ => hPod_19), Or.inr rfl⟩, by rw [ht]; exact hP, hD⟩, hS.F ht⟩) hS.2.2 dX7_spans_238
        · refine lv_iload_n hx hb dX7_spans_185 rfl (lv_at hl 3 rfl) ?_
          refine lv_iload hx hb dX7_spans_186 (lv_at hl 2 rfl) ?_
          refine lv_icmp_le (tgt := 215) hx hb dX7_spans_188 (by decide) (fun c_25 => ?_) (fun c_25 => ?_)
          · refine lv_aload_n hx hb dX7_spans_215 rfl (lv_at hl 5 rfl) ?_
            refine yget (ci := 7) (k := 8) (v := .int (d_19.1 h0 8)) (C := RX7) (T := TX7) (N := 18) C0 hK hP hm_h0 hk_h0 (by decide) rfl inlX7 (by decide) mW743 (fun _ h9 => h9) rfl dX7_spans_216 ?_
            refine lv_topi (fun z_26 ez_26 => ?_)
            refine lv_iload hx hb dX7_spans_219 (lv_at hl 1 rfl) ?_
            refine lv_icmp_lt (tgt := 237) hx hb dX7_spans_221 (by decide) (fun c_27 => ?_) (fun c_27 => ?_)
            · refine lv_iconst (v := 0) hx hb dX7_spans_237 (by decide) ?_
              exact W.zret (v := 0) (ty := .boolean) hx hb hr rfl (fun t ht hW => ⟨⟨0, d_19, rfl, ⟨hgd_19, (fun _ => hPod_19), Or.inl rfl⟩, by rw [ht]; exact hP, hD⟩, hS.F ht⟩) hS.2.2 dX7_spans_238
            · refine lv_aload_n hx hb dX7_spans_224 rfl (lv_at hl 5 rfl) ?_
              refine yget (ci := 7) (k := 8) (v := .int (d_19.1 h0 8)) (C := RX7) (T := TX7) (N := 18) C0 hK hP hm_h0 hk_h0 (by decide) rfl inlX7 (by decide) mW743 (fun _ h9 => h9) rfl dX7_spans_225 ?_
              refine lv_topi (fun z_28 ez_28 => ?_)
              refine lv_iload hx hb dX7_spans_228 (lv_at hl 0 rfl) ?_
              refine lv_icmp_ge (tgt := 237) hx hb dX7_spans_230 (by decide) (fun c_29 => ?_) (fun c_29 => ?_)
              · refine lv_iconst (v := 0) hx hb dX7_spans_237 (by decide) ?_
                exact W.zret (v := 0) (ty := .boolean) hx hb hr rfl (fun t ht hW => ⟨⟨0, d_19, rfl, ⟨hgd_19, (fun _ => hPod_19), Or.inl rfl⟩, by rw [ht]; exact hP, hD⟩, hS.F ht⟩) hS.2.2 dX7_spans_238
              · refine lv_iconst (v := 1) hx hb dX7_spans_233 (by decide) ?_
                refine lv_goto (tgt := 238) hx hb dX7_spans_234 (by decide) ?_
                exact W.zret (v := 1) (ty := .boolean) hx hb hr rfl (fun t ht hW => ⟨⟨1, d_19, rfl, ⟨hgd_19, (fun _ => hPod_19), Or.inr rfl⟩, by rw [ht]; exact hP, hD⟩, hS.F ht⟩) hS.2.2 dX7_spans_238
          · refine lv_aload_n hx hb dX7_spans_191 rfl (lv_at hl 5 rfl) ?_
            refine yget (ci := 7) (k := 8) (v := .int (d_19.1 h0 8)) (C := RX7) (T := TX7) (N := 18) C0 hK hP hm_h0 hk_h0 (by decide) rfl inlX7 (by decide) mW743 (fun _ h9 => h9) rfl dX7_spans_192 ?_
            refine lv_topi (fun z_30 ez_30 => ?_)
            refine lv_iload hx hb dX7_spans_195 (lv_at hl 1 rfl) ?_
            refine lv_icmp_ge (tgt := 209) hx hb dX7_spans_197 (by decide) (fun c_31 => ?_) (fun c_31 => ?_)
            · refine lv_iconst (v := 1) hx hb dX7_spans_209 (by decide) ?_
              refine lv_goto (tgt := 214) hx hb dX7_spans_210 (by decide) ?_
              exact W.zret (v := 1) (ty := .boolean) hx hb hr rfl (fun t ht hW => ⟨⟨1, d_19, rfl, ⟨hgd_19, (fun _ => hPod_19), Or.inr rfl⟩, by rw [ht]; exact hP, hD⟩, hS.F ht⟩) hS.2.2 dX7_spans_214
            · refine lv_aload_n hx hb dX7_spans_200 rfl (lv_at hl 5 rfl) ?_
              refine yget (ci := 7) (k := 8) (v := .int (d_19.1 h0 8)) (C := RX7) (T := TX7) (N := 18) C0 hK hP hm_h0 hk_h0 (by decide) rfl inlX7 (by decide) mW743 (fun _ h9 => h9) rfl dX7_spans_201 ?_
              refine lv_topi (fun z_32 ez_32 => ?_)
              refine lv_iload hx hb dX7_spans_204 (lv_at hl 0 rfl) ?_
              refine lv_icmp_ge (tgt := 213) hx hb dX7_spans_206 (by decide) (fun c_33 => ?_) (fun c_33 => ?_)
              · refine lv_iconst (v := 0) hx hb dX7_spans_213 (by decide) ?_
                exact W.zret (v := 0) (ty := .boolean) hx hb hr rfl (fun t ht hW => ⟨⟨0, d_19, rfl, ⟨hgd_19, (fun _ => hPod_19), Or.inl rfl⟩, by rw [ht]; exact hP, hD⟩, hS.F ht⟩) hS.2.2 dX7_spans_214
              · refine lv_iconst (v := 1) hx hb dX7_spans_209 (by decide) ?_
                refine lv_goto (tgt := 214) hx hb dX7_spans_210 (by decide) ?_
                exact W.zret (v := 1) (ty := .boolean) hx hb hr rfl (fun t ht hW => ⟨⟨1, d_19, rfl, ⟨hgd_19, (fun _ => hPod_19), Or.inr rfl⟩, by rw [ht]; exact hP, hD⟩, hS.F ht⟩) hS.2.2 dX7_spans_214
      refine lv_icmp_ne (tgt := 164) hx hb dX7_spans_153 (by decide) (fun c_34 => ?_) (fun c_34 => ?_)
      · refine lv_iload hx hb dX7_spans_164 (lv_at hl 2 rfl) ?_
        exact J166_15 r_8 ls _ ⟨rfl, lv_sub hl [0, 2, 3, 4, 5] rfl⟩
      · refine lv_iload hx hb dX7_spans_156 (lv_at hl 1 rfl) ?_
        refine lv_iload hx hb dX7_spans_158 (lv_at hl 2 rfl) ?_
        refine lv_iadd hx hb dX7_spans_160 ?_
        refine lv_topi (fun z_35 ez_35 => ?_)
        refine lv_goto (tgt := 166) hx hb dX7_spans_161 (by decide) ?_
        exact J166_15 z_35 ls _ ⟨rfl, lv_sub hl [0, 2, 3, 4, 5] rfl⟩
    refine lv_icmp_ne (tgt := 148) hx hb dX7_spans_138 (by decide) (fun c_36 => ?_) (fun c_36 => ?_)
    · refine lv_iload_n hx hb dX7_spans_148 rfl (lv_at hl 2 rfl) ?_
      exact J149_14 r_6 ls _ ⟨rfl, lv_sub hl [0, 1, 2, 3, 4] rfl⟩
    · refine lv_iload hx hb dX7_spans_141 (lv_at hl 0 rfl) ?_
      refine lv_iload_n hx hb dX7_spans_143 rfl (lv_at hl 2 rfl) ?_
      refine lv_iadd hx hb dX7_spans_144 ?_
      refine lv_topi (fun z_37 ez_37 => ?_)
      refine lv_goto (tgt := 149) hx hb dX7_spans_145 (by decide) ?_
      exact J149_14 z_37 ls _ ⟨rfl, lv_sub hl [0, 1, 2, 3, 4] rfl⟩
  · obtain rfl | rfl | rfl | rfl : k_13 = 0 ∨ k_13 = 1 ∨ k_13 = 2 ∨ k_13 = 3 := by omega
    · subst hsw_12
      refine lv_tableIn (tgt := 92) (off := 31) hx hb dX7_spans_61 (by decide +kernel) (by decide +kernel) (by decide +kernel) (by decide) ?_
      refine lv_iconst (v := 1) hx hb dX7_spans_92 (by decide) ?_
      exact W.zret (v := 1) (ty := .boolean) hx hb hr rfl (fun t ht hW => ⟨⟨1, d, rfl, ⟨hg0, (fun _ => hPo), Or.inr rfl⟩, by rw [ht]; exact hP, hD⟩, hS.F ht⟩) hS.2.2 dX7_spans_93
    · subst hsw_12
      refine lv_tableIn (tgt := 136) (off := 75) hx hb dX7_spans_61 (by decide +kernel) (by decide +kernel) (by decide +kernel) (by decide) ?_
      refine lv_iload_n hx hb dX7_spans_136 rfl (lv_at hl 3 rfl) ?_
      refine lv_iconst (v := 1) hx hb dX7_spans_137 (by decide) ?_
      refine yjoinR (σ := Int32) 149 (fun x ls st => st = [.int x] ∧ lv_has ls 8 [(5, .int z_11), (4, .int r_8), (3, .int r_6), (2, .int (nI 1)), (0, .ref h0)]) (fun x ls st hI => ?_) (fun J149_38 => ?_)
      · obtain ⟨v_38, rfl⟩ : ∃ z, z = x := ⟨_, rfl⟩
        obtain ⟨rfl, hl⟩ := hI
        have hl : lv_has ls 8 [(5, .int z_11), (4, .int r_8), (3, .int r_6), (2, .int (nI 1)), (0, .ref h0)] := hl
        refine lv_istore (lv' := [(6, .int v_38), (5, .int z_11), (4, .int r_8), (3, .int r_6), (2, .int (nI 1)), (0, .ref h0)]) hx hb dX7_spans_149 hl (by decide) rfl (fun ls hl => ?_)
        refine lv_iload_n hx hb dX7_spans_151 rfl (lv_at hl 4 rfl) ?_
        refine lv_iconst (v := 1) hx hb dX7_spans_152 (by decide) ?_
        refine yjoinR (σ := Int32) 166 (fun x ls st => st = [.int x] ∧ lv_has ls 8 [(6, .int v_38), (4, .int r_8), (3, .int r_6), (2, .int (nI 1)), (0, .ref h0)]) (fun x ls st hI => ?_) (fun J166_39 => ?_)
        · obtain ⟨v_39, rfl⟩ : ∃ z, z = x := ⟨_, rfl⟩
          obtain ⟨rfl, hl⟩ := hI
          have hl : lv_has ls 8 [(6, .int v_38), (4, .int r_8), (3, .int r_6), (2, .int (nI 1)), (0, .ref h0)] := hl
          refine lv_istore (lv' := [(7, .int v_39), (6, .int v_38), (4, .int r_8), (3, .int r_6), (2, .int (nI 1)), (0, .ref h0)]) hx hb dX7_spans_166 hl (by decide) rfl (fun ls hl => ?_)
          refine lv_aload_n hx hb dX7_spans_168 rfl (lv_at hl 5 rfl) ?_
          refine lv_iload hx hb dX7_spans_169 (lv_at hl 1 rfl) ?_
          refine yVwv (As := [.int v_38]) (rest := []) C0 (g_X7_breakAt l G S d h0 v_38 hSh hPo hm_h0 hk_h0) ok_X7_breakAt (mW774 : Cond.methodLink RX7 127 yX7_breakAt ∈ wsT) ⟨Nat.le_of_ble_eq_true rfl, Nat.le_of_ble_eq_true rfl⟩ hP hD hS hA hK hN hm_h0 hk_h0 (by decide) rfl rfl rfl hl.1 rfl (Nat.le_of_ble_eq_true rfl) ⟨Nat.le_of_ble_eq_true rfl, Nat.le_of_ble_eq_true rfl⟩ dX7_spans_171 (fun d_41 H locs hr_40 hP hD hS => ?_)
          obtain ⟨hgad_41, hpad_41, hxd_41⟩ := hr_40
          have hgd_41 : yAg S [7, 22, 23] d d_41 := yAg.tr hg0 hgad_41 (by decide)
          have hPod_41 : yPo S d_41 := hpad_41 hPo
          refine lv_aload_n hx hb dX7_spans_174 rfl (lv_at hl 5 rfl) ?_
          refine lv_iload hx hb dX7_spans_175 (lv_at hl 0 rfl) ?_
          refine yVwv (As := [.int v_39]) (rest := []) C0 (g_X7_breakAt l G S d_41 h0 v_39 hSh hPod_41 hm_h0 hk_h0) ok_X7_breakAt (mW774 : Cond.methodLink RX7 127 yX7_breakAt ∈ wsT) ⟨Nat.le_of_ble_eq_true rfl, Nat.le_of_ble_eq_true rfl⟩ hP hD hS hA hK hN hm_h0 hk_h0 (by decide) rfl rfl rfl hl.1 rfl (Nat.le_of_ble_eq_true rfl) ⟨Nat.le_of_ble_eq_true rfl, Nat.le_of_ble_eq_true rfl⟩ dX7_spans_177 (fun d_43 H locs hr_42 hP hD hS => ?_)
          obtain ⟨hgad_43, hpad_43, hxd_43⟩ := hr_42
          have hgd_43 : yAg S [7, 22, 23] d d_43 := yAg.tr hgd_41 hgad_43 (by decide)
          have hPod_43 : yPo S d_43 := hpad_43 hPod_41
          refine lv_iload_n hx hb dX7_spans_180 rfl (lv_at hl 4 rfl) ?_
          refine lv_iconst (v := 1) hx hb dX7_spans_181 (by decide) ?_
          refine lv_icmp_ne (tgt := 215) hx hb dX7_spans_182 (by decide) (fun c_44 => ?_) (fun c_44 => ?_)
          · refine lv_aload_n hx hb dX7_spans_215 rfl (lv_at hl 5 rfl) ?_
            refine yget (ci := 7) (k := 8) (v := .int (d_43.1 h0 8)) (C := RX7) (T := TX7) (N := 18) C0 hK hP hm_h0 hk_h0 (by decide) rfl inlX7 (by decide) mW743 (fun _ h9 => h9) rfl dX7_spans_216 ?_
            refine lv_topi (fun z_45 ez_45 => ?_)
            refine lv_iload hx hb dX7_spans_219 (lv_at hl 1 rfl) ?_
            refine lv_icmp_lt (tgt := 237) hx hb dX7_spans_221 (by decide) (fun c_46 => ?_) (fun c_46 => ?_)
            · refine lv_iconst (v := 0) hx hb dX7_spans_237 (by decide) ?_
              exact W.zret (v := 0) (ty := .boolean) hx hb hr rfl (fun t ht hW => ⟨⟨0, d_43, rfl, ⟨hgd_43, (fun _ => hPod_43), Or.inl rfl⟩, by rw [ht]; exact hP, hD⟩, hS.F ht⟩) hS.2.2 dX7_spans_238
            · refine lv_aload_n hx hb dX7_spans_224 rfl (lv_at hl 5 rfl) ?_
              refine yget (ci := 7) (k := 8) (v := .int (d_43.1 h0 8)) (C := RX7) (T := TX7) (N := 18) C0 hK hP hm_h0 hk_h0 (by decide) rfl inlX7 (by decide) mW743 (fun _ h9 => h9) rfl dX7_spans_225 ?_
              refine lv_topi (fun z_47 ez_47 => ?_)
              refine lv_iload hx hb dX7_spans_228 (lv_at hl 0 rfl) ?_
              refine lv_icmp_ge (tgt := 237) hx hb dX7_spans_230 (by decide) (fun c_48 => ?_) (fun c_48 => ?_)
              · refine lv_iconst (v := 0) hx hb dX7_spans_237 (by decide) ?_
                exact W.zret (v := 0) (ty := .boolean) hx hb hr rfl (fun t ht hW => ⟨⟨0, d_43, rfl, ⟨hgd_43, (fun _ => hPod_43), Or.inl rfl⟩, by rw [ht]; exact hP, hD⟩, hS.F ht⟩) hS.2.2 dX7_spans_238
              · refine lv_iconst (v := 1) hx hb dX7_spans_233 (by decide) ?_
                refine lv_goto (tgt := 238) hx hb dX7_spans_234 (by decide) ?_
                exact W.zret (v := 1) (ty := .boolean) hx hb hr rfl (fun t ht hW => ⟨⟨1, d_43, rfl, ⟨hgd_43, (fun _ => hPod_43), Or.inr rfl⟩, by rw [ht]; exact hP, hD⟩, hS.F ht⟩) hS.2.2 dX7_spans_238
          · refine lv_iload_n hx hb dX7_spans_185 rfl (lv_at hl 3 rfl) ?_
            refine lv_iload hx hb dX7_spans_186 (lv_at hl 2 rfl) ?_
            refine lv_icmp_le (tgt := 215) hx hb dX7_spans_188 (by decide) (fun c_49 => ?_) (fun c_49 => ?_)
            · refine lv_aload_n hx hb dX7_spans_215 rfl (lv_at hl 5 rfl) ?_
              refine yget (ci := 7) (k := 8) (v := .int (d_43.1 h0 8)) (C := RX7) (T := TX7) (N := 18) C0 hK hP hm_h0 hk_h0 (by decide) rfl inlX7 (by decide) mW743 (fun _ h9 => h9) rfl dX7_spans_216 ?_
              refine lv_topi (fun z_50 ez_50 => ?_)
              refine lv_iload hx hb dX7_spans_219 (lv_at hl 1 rfl) ?_
              refine lv_icmp_lt (tgt := 237) hx hb dX7_spans_221 (by decide) (fun c_51 => ?_) (fun c_51 => ?_)
              · refine lv_iconst (v := 0) hx hb dX7_spans_237 (by decide) ?_
                exact W.zret (v := 0) (ty := .boolean) hx hb hr rfl (fun t ht hW => ⟨⟨0, d_43, rfl, ⟨hgd_43, (fun _ => hPod_43), Or.inl rfl⟩, by rw [ht]; exact hP, hD⟩, hS.F ht⟩) hS.2.2 dX7_spans_238
              · refine lv_aload_n hx hb dX7_spans_224 rfl (lv_at hl 5 rfl) ?_
                refine yget (ci := 7) (k := 8) (v := .int (d_43.1 h0 8)) (C := RX7) (T := TX7) (N := 18) C0 hK hP hm_h0 hk_h0 (by decide) rfl inlX7 (by decide) mW743 (fun _ h9 => h9) rfl dX7_spans_225 ?_
                refine lv_topi (fun z_52 ez_52 => ?_)
                refine lv_iload hx hb dX7_spans_228 (lv_at hl 0 rfl) ?_
                refine lv_icmp_ge (tgt := 237) hx hb dX7_spans_230 (by decide) (fun c_53 => ?_) (fun c_53 => ?_)
                · refine lv_iconst (v := 0) hx hb dX7_spans_237 (by decide) ?_
                  exact W.zret (v := 0) (ty := .boolean) hx hb hr rfl (fun t ht hW => ⟨⟨0, d_43, rfl, ⟨hgd_43, (fun _ => hPod_43), Or.inl rfl⟩, by rw [ht]; exact hP, hD⟩, hS.F ht⟩) hS.2.2 dX7_spans_238
                · refine lv_iconst (v := 1) hx hb dX7_spans_233 (by decide) ?_
                  refine lv_goto (tgt := 238) hx hb dX7_spans_234 (by decide) ?_
                  exact W.zret (v := 1) (ty := .boolean) hx hb hr rfl (fun t ht hW => ⟨⟨1, d_43, rfl, ⟨hgd_43, (fun _ => hPod_43), Or.inr rfl⟩, by rw [ht]; exact hP, hD⟩, hS.F ht⟩) hS.2.2 dX7_spans_238
            · refine lv_aload_n hx hb dX7_spans_191 rfl (lv_at hl 5 rfl) ?_
              refine yget (ci := 7) (k := 8) (v := .int (d_43.1 h0 8)) (C := RX7) (T := TX7) (N := 18) C0 hK hP hm_h0 hk_h0 (by decide) rfl inlX7 (by decide) mW743 (fun _ h9 => h9) rfl dX7_spans_192 ?_
              refine lv_topi (fun z_54 ez_54 => ?_)
              refine lv_iload hx hb dX7_spans_195 (lv_at hl 1 rfl) ?_
              refine lv_icmp_ge (tgt := 209) hx hb dX7_spans_197 (by decide) (fun c_55 => ?_) (fun c_55 => ?_)
              · refine lv_iconst (v := 1) hx hb dX7_spans_209 (by decide) ?_
                refine lv_goto (tgt := 214) hx hb dX7_spans_210 (by decide) ?_
                exact W.zret (v := 1) (ty := .boolean) hx hb hr rfl (fun t ht hW => ⟨⟨1, d_43, rfl, ⟨hgd_43, (fun _ => hPod_43), Or.inr rfl⟩, by rw [ht]; exact hP, hD⟩, hS.F ht⟩) hS.2.2 dX7_spans_214
              · refine lv_aload_n hx hb dX7_spans_200 rfl (lv_at hl 5 rfl) ?_
                refine yget (ci := 7) (k := 8) (v := .int (d_43.1 h0 8)) (C := RX7) (T := TX7) (N := 18) C0 hK hP hm_h0 hk_h0 (by decide) rfl inlX7 (by decide) mW743 (fun _ h9 => h9) rfl dX7_spans_201 ?_
                refine lv_topi (fun z_56 ez_56 => ?_)
                refine lv_iload hx hb dX7_spans_204 (lv_at hl 0 rfl) ?_
                refine lv_icmp_ge (tgt := 213) hx hb dX7_spans_206 (by decide) (fun c_57 => ?_) (fun c_57 => ?_)
                · refine lv_iconst (v := 0) hx hb dX7_spans_213 (by decide) ?_
                  exact W.zret (v := 0) (ty := .boolean) hx hb hr rfl (fun t ht hW => ⟨⟨0, d_43, rfl, ⟨hgd_43, (fun _ => hPod_43), Or.inl rfl⟩, by rw [ht]; exact hP, hD⟩, hS.F ht⟩) hS.2.2 dX7_spans_214
                · refine lv_iconst (v := 1) hx hb dX7_spans_209 (by decide) ?_
                  refine lv_goto (tgt := 214) hx hb dX7_spans_210 (by decide) ?_
                  exact W.zret (v := 1) (ty := .boolean) hx hb hr rfl (fun t ht hW => ⟨⟨1, d_43, rfl, ⟨hgd_43, (fun _ => hPod_43), Or.inr rfl⟩, by rw [ht]; exact hP, hD⟩, hS.F ht⟩) hS.2.2 dX7_spans_214
        refine lv_icmp_ne (tgt := 164) hx hb dX7_spans_153 (by decide) (fun c_58 => ?_) (fun c_58 => ?_)
        · refine lv_iload hx hb dX7_spans_164 (lv_at hl 2 rfl) ?_
          exact J166_39 r_8 ls _ ⟨rfl, lv_sub hl [0, 2, 3, 4, 5] rfl⟩
        · refine lv_iload hx hb dX7_spans_156 (lv_at hl 1 rfl) ?_
          refine lv_iload hx hb dX7_spans_158 (lv_at hl 2 rfl) ?_
          refine lv_iadd hx hb dX7_spans_160 ?_
          refine lv_topi (fun z_59 ez_59 => ?_)
          refine lv_goto (tgt := 166) hx hb dX7_spans_161 (by decide) ?_
          exact J166_39 z_59 ls _ ⟨rfl, lv_sub hl [0, 2, 3, 4, 5] rfl⟩
      refine lv_icmp_ne (tgt := 148) hx hb dX7_spans_138 (by decide) (fun c_60 => ?_) (fun c_60 => ?_)
      · refine lv_iload_n hx hb dX7_spans_148 rfl (lv_at hl 2 rfl) ?_
        exact J149_38 r_6 ls _ ⟨rfl, lv_sub hl [0, 1, 2, 3, 4] rfl⟩
      · refine lv_iload hx hb dX7_spans_141 (lv_at hl 0 rfl) ?_
        refine lv_iload_n hx hb dX7_spans_143 rfl (lv_at hl 2 rfl) ?_
        refine lv_iadd hx hb dX7_spans_144 ?_
        refine lv_topi (fun z_61 ez_61 => ?_)
        refine lv_goto (tgt := 149) hx hb dX7_spans_145 (by decide) ?_
        exact J149_38 z_61 ls _ ⟨rfl, lv_sub hl [0, 1, 2, 3, 4] rfl⟩
    · subst hsw_12
      refine lv_tableIn (tgt := 94) (off := 33) hx hb dX7_spans_61 (by decide +kernel) (by decide +kernel) (by decide +kernel) (by decide) ?_
      refine lv_aload_n hx hb dX7_spans_94 rfl (lv_at hl 4 rfl) ?_
      refine yget (ci := 7) (k := 7) (v := .ref (d.2.2.1 h0)) (C := RX7) (T := TX7) (N := 18) C0 hK hP hm_h0 hk_h0 (by decide) rfl inlX7 (by decide) mW98 (fun _ h9 => h9) rfl dX7_spans_95 ?_
      obtain ⟨hmy_62, hky_62⟩ := hPo.1 _ hm_h0 hk_h0
      refine yget (ci := 4) (k := 1) (v := .ref (S.2.2.1 (d.2.2.1 h0) 1)) (C := RX4) (T := TX4) (N := 11) C0 hK hP hmy_62 hky_62 (by decide) rfl inlX4 (by decide) mW793 (fun _ h9 => h9) rfl dX7_spans_98 ?_
      obtain ⟨hmy_63, hky_63⟩ := ySh.f4_1 hSh _ hmy_62 hky_62
      refine lv_aload_n hx hb dX7_spans_101 rfl (lv_at hl 4 rfl) ?_
      refine yget (ci := 7) (k := 8) (v := .int (d.1 h0 8)) (C := RX7) (T := TX7) (N := 18) C0 hK hP hm_h0 hk_h0 (by decide) rfl inlX7 (by decide) mW743 (fun _ h9 => h9) rfl dX7_spans_102 ?_
      refine lv_topi (fun z_64 ez_64 => ?_)
      refine lv_sipush (v := 1440) hx hb dX7_spans_105 (by decide) ?_
      refine lv_idiv hx hb dX7_spans_108 (by decide) ?_
      refine lv_topi (fun z_65 ez_65 => ?_)
      refine ySNri (As := [.ref (S.2.2.1 (d.2.2.1 h0) 1), .int z_65]) (rest := []) C0 (g_X8_at l G S d (S.2.2.1 (d.2.2.1 h0) 1) 21 z_65 hmy_63 hky_63 (by decide) rfl rfl (by decide)) ok_X8_at (xN.n12 hN) ⟨Nat.le_of_ble_eq_true rfl, Nat.le_of_ble_eq_true rfl⟩ hP hD hK hN rfl hl.1 rfl (Nat.le_of_ble_eq_true rfl) ⟨Nat.le_of_ble_eq_true rfl, Nat.le_of_ble_eq_true rfl⟩ dX7_spans_109 (fun r_66 hr_66 => ?_)
      refine lv_iconst (v := 1) hx hb dX7_spans_112 (by decide) ?_
      refine lv_icmp_ne (tgt := 120) hx hb dX7_spans_113 (by decide) (fun c_67 => ?_) (fun c_67 => ?_)
      · refine lv_iconst (v := 0) hx hb dX7_spans_120 (by decide) ?_
        exact W.zret (v := 0) (ty := .boolean) hx hb hr rfl (fun t ht hW => ⟨⟨0, d, rfl, ⟨hg0, (fun _ => hPo), Or.inl rfl⟩, by rw [ht]; exact hP, hD⟩, hS.F ht⟩) hS.2.2 dX7_spans_121
      · refine lv_iconst (v := 1) hx hb dX7_spans_116 (by decide) ?_
        refine lv_goto (tgt := 121) hx hb dX7_spans_117 (by decide) ?_
        exact W.zret (v := 1) (ty := .boolean) hx hb hr rfl (fun t ht hW => ⟨⟨1, d, rfl, ⟨hg0, (fun _ => hPo), Or.inr rfl⟩, by rw [ht]; exact hP, hD⟩, hS.F ht⟩) hS.2.2 dX7_spans_121
    · subst hsw_12
      refine lv_tableIn (tgt := 122) (off := 61) hx hb dX7_spans_61 (by decide +kernel) (by decide +kernel) (by decide +kernel) (by decide) ?_
      refine lv_aload_n hx hb dX7_spans_122 rfl (lv_at hl 4 rfl) ?_
      refine yget (ci := 7) (k := 15) (v := .int (d.1 h0 15)) (C := RX7) (T := TX7) (N := 18) C0 hK hP hm_h0 hk_h0 (by decide) rfl inlX7 (by decide) mW752 (fun _ h9 => h9) rfl dX7_spans_123 ?_
      refine lv_topi (fun z_68 ez_68 => ?_)
      refine lv_iload_n hx hb dX7_spans_126 rfl (lv_at hl 2 rfl) ?_
      refine lv_icmp_ne (tgt := 134) hx hb dX7_spans_127 (by decide) (fun c_69 => ?_) (fun c_69 => ?_)
      · refine lv_iconst (v := 0) hx hb dX7_spans_134 (by decide) ?_
        exact W.zret (v := 0) (ty := .boolean) hx hb hr rfl (fun t ht hW => ⟨⟨0, d, rfl, ⟨hg0, (fun _ => hPo), Or.inl rfl⟩, by rw [ht]; exact hP, hD⟩, hS.F ht⟩) hS.2.2 dX7_spans_135
      · refine lv_iconst (v := 1) hx hb dX7_spans_130 (by decide) ?_
        refine lv_goto (tgt := 135) hx hb dX7_spans_131 (by decide) ?_
        exact W.zret (v := 1) (ty := .boolean) hx hb hr rfl (fun t ht hW => ⟨⟨1, d, rfl, ⟨hg0, (fun _ => hPo), Or.inr rfl⟩, by rw [ht]; exact hP, hD⟩, hS.F ht⟩) hS.2.2 dX7_spans_135
theorem dX5_read_0 : decode cX5_read 0 = .ok (.aload_n 1, 1) := by decide +kernel
theorem dX5_read_1 : decode cX5_read 1 = .ok (.iload_n 2, 1) := by decide +kernel
theorem dX5_read_2 : decode cX5_read 2 = .ok (.invokevirtual 9, 3) := by decide +kernel
theorem dX5_read_5 : decode cX5_read 5 = .ok (.astore_n 3, 1) := by decide +kernel
theorem dX5_read_6 : decode cX5_read 6 = .ok (.aload_n 1, 1) := by decide +kernel
theorem dX5_read_7 : decode cX5_read 7 = .ok (.getfield 15, 3) := by decide +kernel
theorem dX5_read_10 : decode cX5_read 10 = .ok (.astore 4, 2) := by decide +kernel
theorem dX5_read_12 : decode cX5_read 12 = .ok (.aload 4, 2) := by decide +kernel
theorem dX5_read_14 : decode cX5_read 14 = .ok (.iload_n 2, 1) := by decide +kernel
theorem dX5_read_15 : decode cX5_read 15 = .ok (.iconst 0, 1) := by decide +kernel
theorem dX5_read_16 : decode cX5_read 16 = .ok (.iconst 0, 1) := by decide +kernel
theorem dX5_read_17 : decode cX5_read 17 = .ok (.invokevirtual 19, 3) := by decide +kernel
theorem dX5_read_20 : decode cX5_read 20 = .ok (.istore 5, 2) := by decide +kernel
theorem dX5_read_22 : decode cX5_read 22 = .ok (.aload 4, 2) := by decide +kernel
theorem dX5_read_24 : decode cX5_read 24 = .ok (.iload_n 2, 1) := by decide +kernel
theorem dX5_read_25 : decode cX5_read 25 = .ok (.iconst 0, 1) := by decide +kernel
theorem dX5_read_26 : decode cX5_read 26 = .ok (.iconst 1, 1) := by decide +kernel
theorem dX5_read_27 : decode cX5_read 27 = .ok (.invokevirtual 19, 3) := by decide +kernel
theorem dX5_read_30 : decode cX5_read 30 = .ok (.istore 6, 2) := by decide +kernel
theorem dX5_read_32 : decode cX5_read 32 = .ok (.iload 5, 2) := by decide +kernel
theorem dX5_read_34 : decode cX5_read 34 = .ok (.iconst (-1), 1) := by decide +kernel
theorem dX5_read_35 : decode cX5_read 35 = .ok (.if_icmp .eq 13, 3) := by decide +kernel
theorem dX5_read_38 : decode cX5_read 38 = .ok (.iload 6, 2) := by decide +kernel
theorem dX5_read_40 : decode cX5_read 40 = .ok (.iconst (-1), 1) := by decide +kernel
theorem dX5_read_41 : decode cX5_read 41 = .ok (.if_icmp .eq 7, 3) := by decide +kernel
theorem dX5_read_44 : decode cX5_read 44 = .ok (.iconst 1, 1) := by decide +kernel
theorem dX5_read_45 : decode cX5_read 45 = .ok (.goto 4, 3) := by decide +kernel
theorem dX5_read_48 : decode cX5_read 48 = .ok (.iconst 0, 1) := by decide +kernel
theorem dX5_read_49 : decode cX5_read 49 = .ok (.istore 7, 2) := by decide +kernel
theorem dX5_read_51 : decode cX5_read 51 = .ok (.aload_n 0, 1) := by decide +kernel
theorem dX5_read_52 : decode cX5_read 52 = .ok (.iload 7, 2) := by decide +kernel
theorem dX5_read_54 : decode cX5_read 54 = .ok (.ifCond .eq 17, 3) := by decide +kernel
theorem dX5_read_57 : decode cX5_read 57 = .ok (.aload_n 3, 1) := by decide +kernel
theorem dX5_read_58 : decode cX5_read 58 = .ok (.iload 5, 2) := by decide +kernel
theorem dX5_read_60 : decode cX5_read 60 = .ok (.iload 6, 2) := by decide +kernel
theorem dX5_read_62 : decode cX5_read 62 = .ok (.invokestatic 25, 3) := by decide +kernel
theorem dX5_read_65 : decode cX5_read 65 = .ok (.invokevirtual 31, 3) := by decide +kernel
theorem dX5_read_68 : decode cX5_read 68 = .ok (.goto 4, 3) := by decide +kernel
theorem dX5_read_71 : decode cX5_read 71 = .ok (.iconst (-1), 1) := by decide +kernel
theorem dX5_read_72 : decode cX5_read 72 = .ok (.putfield 37, 3) := by decide +kernel
theorem dX5_read_75 : decode cX5_read 75 = .ok (.aload_n 0, 1) := by decide +kernel
theorem dX5_read_76 : decode cX5_read 76 = .ok (.aload_n 0, 1) := by decide +kernel
theorem dX5_read_77 : decode cX5_read 77 = .ok (.getfield 37, 3) := by decide +kernel
theorem dX5_read_80 : decode cX5_read 80 = .ok (.iconst (-1), 1) := by decide +kernel
theorem dX5_read_81 : decode cX5_read 81 = .ok (.if_icmp .ne 7, 3) := by decide +kernel
theorem dX5_read_84 : decode cX5_read 84 = .ok (.iconst (-1), 1) := by decide +kernel
theorem dX5_read_85 : decode cX5_read 85 = .ok (.goto 12, 3) := by decide +kernel
theorem dX5_read_88 : decode cX5_read 88 = .ok (.aload_n 0, 1) := by decide +kernel
theorem dX5_read_89 : decode cX5_read 89 = .ok (.getfield 37, 3) := by decide +kernel
theorem dX5_read_92 : decode cX5_read 92 = .ok (.aload_n 3, 1) := by decide +kernel
theorem dX5_read_93 : decode cX5_read 93 = .ok (.getfield 43, 3) := by decide +kernel
theorem dX5_read_96 : decode cX5_read 96 = .ok (.iadd, 1) := by decide +kernel
theorem dX5_read_97 : decode cX5_read 97 = .ok (.putfield 46, 3) := by decide +kernel
theorem dX5_read_100 : decode cX5_read 100 = .ok (.aload_n 0, 1) := by decide +kernel
theorem dX5_read_101 : decode cX5_read 101 = .ok (.aload_n 0, 1) := by decide +kernel
theorem dX5_read_102 : decode cX5_read 102 = .ok (.getfield 37, 3) := by decide +kernel
theorem dX5_read_105 : decode cX5_read 105 = .ok (.iconst (-1), 1) := by decide +kernel
theorem dX5_read_106 : decode cX5_read 106 = .ok (.if_icmp .eq 18, 3) := by decide +kernel
theorem dX5_read_109 : decode cX5_read 109 = .ok (.aload_n 0, 1) := by decide +kernel
theorem dX5_read_110 : decode cX5_read 110 = .ok (.getfield 46, 3) := by decide +kernel
theorem dX5_read_113 : decode cX5_read 113 = .ok (.aload_n 3, 1) := by decide +kernel
theorem dX5_read_114 : decode cX5_read 114 = .ok (.invokevirtual 49, 3) := by decide +kernel
theorem dX5_read_117 : decode cX5_read 117 = .ok (.if_icmp .ge 7, 3) := by decide +kernel
theorem dX5_read_120 : decode cX5_read 120 = .ok (.iconst 1, 1) := by decide +kernel
theorem dX5_read_121 : decode cX5_read 121 = .ok (.goto 4, 3) := by decide +kernel
theorem dX5_read_124 : decode cX5_read 124 = .ok (.iconst 0, 1) := by decide +kernel
theorem dX5_read_125 : decode cX5_read 125 = .ok (.putfield 53, 3) := by decide +kernel
theorem dX5_read_128 : decode cX5_read 128 = .ok (.aload_n 0, 1) := by decide +kernel
theorem dX5_read_129 : decode cX5_read 129 = .ok (.aload_n 1, 1) := by decide +kernel
theorem dX5_read_130 : decode cX5_read 130 = .ok (.getfield 57, 3) := by decide +kernel
theorem dX5_read_133 : decode cX5_read 133 = .ok (.aload_n 3, 1) := by decide +kernel
theorem dX5_read_134 : decode cX5_read 134 = .ok (.getfield 61, 3) := by decide +kernel
theorem dX5_read_137 : decode cX5_read 137 = .ok (.aload_n 3, 1) := by decide +kernel
theorem dX5_read_138 : decode cX5_read 138 = .ok (.getfield 64, 3) := by decide +kernel
theorem dX5_read_141 : decode cX5_read 141 = .ok (.invokevirtual 68, 3) := by decide +kernel
theorem dX5_read_144 : decode cX5_read 144 = .ok (.putfield 74, 3) := by decide +kernel
theorem dX5_read_147 : decode cX5_read 147 = .ok (.aload_n 0, 1) := by decide +kernel
theorem dX5_read_148 : decode cX5_read 148 = .ok (.getfield 53, 3) := by decide +kernel
theorem dX5_read_151 : decode cX5_read 151 = .ok (.ifCond .eq 18, 3) := by decide +kernel
theorem dX5_read_154 : decode cX5_read 154 = .ok (.aload 4, 2) := by decide +kernel
theorem dX5_read_156 : decode cX5_read 156 = .ok (.iload_n 2, 1) := by decide +kernel
theorem dX5_read_157 : decode cX5_read 157 = .ok (.aload_n 0, 1) := by decide +kernel
theorem dX5_read_158 : decode cX5_read 158 = .ok (.getfield 46, 3) := by decide +kernel
theorem dX5_read_161 : decode cX5_read 161 = .ok (.bipush 7, 2) := by decide +kernel
theorem dX5_read_163 : decode cX5_read 163 = .ok (.invokevirtual 19, 3) := by decide +kernel
theorem dX5_read_166 : decode cX5_read 166 = .ok (.goto 4, 3) := by decide +kernel
theorem dX5_read_169 : decode cX5_read 169 = .ok (.iconst (-1), 1) := by decide +kernel
theorem dX5_read_170 : decode cX5_read 170 = .ok (.istore 8, 2) := by decide +kernel
theorem dX5_read_172 : decode cX5_read 172 = .ok (.aload_n 0, 1) := by decide +kernel
theorem dX5_read_173 : decode cX5_read 173 = .ok (.iload 8, 2) := by decide +kernel
theorem dX5_read_175 : decode cX5_read 175 = .ok (.iconst (-1), 1) := by decide +kernel
theorem dX5_read_176 : decode cX5_read 176 = .ok (.if_icmp .eq 7, 3) := by decide +kernel
theorem dX5_read_179 : decode cX5_read 179 = .ok (.iconst 1, 1) := by decide +kernel
theorem dX5_read_180 : decode cX5_read 180 = .ok (.goto 4, 3) := by decide +kernel
theorem dX5_read_183 : decode cX5_read 183 = .ok (.iconst 0, 1) := by decide +kernel
theorem dX5_read_184 : decode cX5_read 184 = .ok (.putfield 77, 3) := by decide +kernel
theorem dX5_read_187 : decode cX5_read 187 = .ok (.aload_n 0, 1) := by decide +kernel
theorem dX5_read_188 : decode cX5_read 188 = .ok (.aload_n 0, 1) := by decide +kernel
theorem dX5_read_189 : decode cX5_read 189 = .ok (.getfield 53, 3) := by decide +kernel
theorem dX5_read_192 : decode cX5_read 192 = .ok (.ifCond .eq 10, 3) := by decide +kernel
theorem dX5_read_195 : decode cX5_read 195 = .ok (.aload_n 0, 1) := by decide +kernel
theorem dX5_read_196 : decode cX5_read 196 = .ok (.getfield 46, 3) := by decide +kernel
theorem dX5_read_199 : decode cX5_read 199 = .ok (.goto 4, 3) := by decide +kernel
theorem dX5_read_202 : decode cX5_read 202 = .ok (.iconst 0, 1) := by decide +kernel
theorem dX5_read_203 : decode cX5_read 203 = .ok (.putfield 80, 3) := by decide +kernel
theorem dX5_read_206 : decode cX5_read 206 = .ok (.aload_n 0, 1) := by decide +kernel
theorem dX5_read_207 : decode cX5_read 207 = .ok (.aload_n 0, 1) := by decide +kernel
theorem dX5_read_208 : decode cX5_read 208 = .ok (.getfield 77, 3) := by decide +kernel
theorem dX5_read_211 : decode cX5_read 211 = .ok (.ifCond .eq 8, 3) := by decide +kernel
theorem dX5_read_214 : decode cX5_read 214 = .ok (.iload 8, 2) := by decide +kernel
theorem dX5_read_216 : decode cX5_read 216 = .ok (.goto 18, 3) := by decide +kernel
theorem dX5_read_219 : decode cX5_read 219 = .ok (.aload_n 0, 1) := by decide +kernel
theorem dX5_read_220 : decode cX5_read 220 = .ok (.getfield 53, 3) := by decide +kernel
theorem dX5_read_223 : decode cX5_read 223 = .ok (.ifCond .eq 10, 3) := by decide +kernel
theorem dX5_read_226 : decode cX5_read 226 = .ok (.aload_n 3, 1) := by decide +kernel
theorem dX5_read_227 : decode cX5_read 227 = .ok (.invokevirtual 49, 3) := by decide +kernel
theorem dX5_read_230 : decode cX5_read 230 = .ok (.goto 4, 3) := by decide +kernel
theorem dX5_read_233 : decode cX5_read 233 = .ok (.iconst 0, 1) := by decide +kernel
theorem dX5_read_234 : decode cX5_read 234 = .ok (.putfield 83, 3) := by decide +kernel
theorem dX5_read_237 : decode cX5_read 237 = .ok (.return_, 1) := by decide +kernel
set_option maxHeartbeats 4000000 in
set_option maxRecDepth 100000 in
theorem g_X5_read (l : Launch) (G : xG) (S : yS) (d : yD) (h0 : Nat) (b0 : Nat) (p0 : Int32) (hSh : ySh S) (hPo : yPo S d) (hm_h0 : h0 ∈ S.1) (hk_h0 : S.2.1 h0 = 5) (hm_b0 : b0 ∈ S.1) (hk_b0 : S.2.1 b0 = 0) : xWv l G yX5_read cX5_read 9 none 3 74 0 0 [.ref h0, .ref b0, .int p0] (yW G S d) (fun u : yD => yAg S [5] d u ∧ (yPo S d → yPo S u) ∧ (True)) (fun u => yW G S u) := by
  intro sz
  refine xstart (by decide) (Nat.le_of_ble_eq_true rfl) (fun p e s m args below meth c ls C0 hr hlocks hin hsz hP hK hD hN hl => ?_)
  obtain ⟨hx, hb, hml, hown, htl⟩ := id C0
  subst hsz
  have hD := hD.self (sz := s.heap.size)
  generalize hAe : va_A (yW G S d) s.heap.size = A at hD ⊢
  have hA : ∀ q : Nat, s.heap.size ≤ q → A q := fun q h => by rw [← hAe]; exact Or.inr h
  have hS : va_S A s.heap s.heap [] := va_S.rf
  have hg0 : yAg S [5] d d := yAg.rf
  have hl : lv_has ls 9 [(0, .ref h0), (1, .ref b0), (2, .int p0)] := hl
  refine lv_aload_n hx hb dX5_read_0 rfl (lv_at hl 1 rfl) ?_
  refine lv_iload_n hx hb dX5_read_1 rfl (lv_at hl 2 rfl) ?_
  refine yVrr (As := [.int p0]) (rest := []) C0 (g_X0_portAt l G S d b0 p0 hSh hm_b0 hk_b0) ok_X0_portAt (mW593 : Cond.methodLink RX5 9 yX0_portAt ∈ wsT) ⟨Nat.le_of_ble_eq_true rfl, Nat.le_of_ble_eq_true rfl⟩ hP hD hK hN hm_b0 hk_b0 (by decide) rfl rfl rfl hl.1 rfl (Nat.le_of_ble_eq_true rfl) ⟨Nat.le_of_ble_eq_true rfl, Nat.le_of_ble_eq_true rfl⟩ dX5_read_2 (fun r_1 hr_1 => ?_)
  obtain ⟨hmr_1, hkr_1, her_1⟩ := hr_1
  refine lv_astore_n (lv' := [(3, .ref r_1), (0, .ref h0), (1, .ref b0), (2, .int p0)]) hx hb dX5_read_5 rfl hl (by decide) rfl (fun ls hl => ?_)
  refine lv_aload_n hx hb dX5_read_6 rfl (lv_at hl 2 rfl) ?_
  refine yget (ci := 0) (k := 1) (v := .ref (S.2.2.1 b0 1)) (C := RX0) (T := TX0) (N := 6) C0 hK hP hm_b0 hk_b0 (by decide) rfl inlX0 (by decide) mW578 (fun _ h9 => h9) rfl dX5_read_7 ?_
  obtain ⟨hmy_2, hky_2⟩ := ySh.f0_1 hSh _ hm_b0 hk_b0
  refine lv_astore (lv' := [(4, .ref (S.2.2.1 b0 1)), (3, .ref r_1), (0, .ref h0), (1, .ref b0), (2, .int p0)]) hx hb dX5_read_10 hl (by decide) rfl (fun ls hl => ?_)
  refine lv_aload hx hb dX5_read_12 (lv_at hl 0 rfl) ?_
  refine lv_iload_n hx hb dX5_read_14 rfl (lv_at hl 4 rfl) ?_
  refine lv_iconst (v := 0) hx hb dX5_read_15 (by decide) ?_
  refine lv_iconst (v := 0) hx hb dX5_read_16 (by decide) ?_
  refine yVri (As := [.int p0, .int 0, .int 0]) (rest := []) C0 (g_X2_firstOf l G S d (S.2.2.1 b0 1) p0 0 0 hSh hmy_2 hky_2) ok_X2_firstOf (mW594 : Cond.methodLink RX5 19 yX2_firstOf ∈ wsT) ⟨Nat.le_of_ble_eq_true rfl, Nat.le_of_ble_eq_true rfl⟩ hP hD hK hN hmy_2 hky_2 (by decide) rfl rfl rfl hl.1 rfl (Nat.le_of_ble_eq_true rfl) ⟨Nat.le_of_ble_eq_true rfl, Nat.le_of_ble_eq_true rfl⟩ dX5_read_17 (fun r_3 hr_3 => ?_)
  refine lv_istore (lv' := [(5, .int r_3), (4, .ref (S.2.2.1 b0 1)), (3, .ref r_1), (0, .ref h0), (1, .ref b0), (2, .int p0)]) hx hb dX5_read_20 hl (by decide) rfl (fun ls hl => ?_)
  refine lv_aload hx hb dX5_read_22 (lv_at hl 1 rfl) ?_
  refine lv_iload_n hx hb dX5_read_24 rfl (lv_at hl 5 rfl) ?_
  refine lv_iconst (v := 0) hx hb dX5_read_25 (by decide) ?_
  refine lv_iconst (v := 1) hx hb dX5_read_26 (by decide) ?_
  refine yVri (As := [.int p0, .int 0, .int 1]) (rest := []) C0 (g_X2_firstOf l G S d (S.2.2.1 b0 1) p0 0 1 hSh hmy_2 hky_2) ok_X2_firstOf (mW594 : Cond.methodLink RX5 19 yX2_firstOf ∈ wsT) ⟨Nat.le_of_ble_eq_true rfl, Nat.le_of_ble_eq_true rfl⟩ hP hD hK hN hmy_2 hky_2 (by decide) rfl rfl rfl hl.1 rfl (Nat.le_of_ble_eq_true rfl) ⟨Nat.le_of_ble_eq_true rfl, Nat.le_of_ble_eq_true rfl⟩ dX5_read_27 (fun r_4 hr_4 => ?_)
  refine lv_istore (lv' := [(6, .int r_4), (5, .int r_3), (4, .ref (S.2.2.1 b0 1)), (3, .ref r_1), (0, .ref h0), (1, .ref b0), (2, .int p0)]) hx hb dX5_read_30 hl (by decide) rfl (fun ls hl => ?_)
  refine lv_iload hx hb dX5_read_32 (lv_at hl 1 rfl) ?_
  refine lv_iconst (v := (-1)) hx hb dX5_read_34 (by decide) ?_
  refine yjoinR (σ := Int32) 49 (fun x ls st => st = [.int x] ∧ lv_has ls 9 [(6, .int r_4), (5, .int r_3), (4, .ref (S.2.2.1 b0 1)), (3, .ref r_1), (0, .ref h0), (1, .ref b0), (2, .int p0)]) (fun x ls st hI => ?_) (fun J49_5 => ?_)
  · obtain ⟨v_5, rfl⟩ : ∃ z, z = x := ⟨_, rfl⟩
    obtain ⟨rfl, hl⟩ := hI
    have hl : lv_has ls 9 [(6, .int r_4), (5, .int r_3), (4, .ref (S.2.2.1 b0 1)), (3, .ref r_1), (0, .ref h0), (1, .ref b0), (2, .int p0)] := hl
    refine lv_istore (lv' := [(7, .int v_5), (6, .int r_4), (5, .int r_3), (4, .ref (S.2.2.1 b0 1)), (3, .ref r_1), (0, .ref h0), (1, .ref b0), (2, .int p0)]) hx hb dX5_read_49 hl (by decide) rfl (fun ls hl => ?_)
    refine lv_aload_n hx hb dX5_read_51 rfl (lv_at hl 5 rfl) ?_
    refine lv_iload hx hb dX5_read_52 (lv_at hl 0 rfl) ?_
    refine yjoinR (σ := Int32) 72 (fun x ls st => st = [.int x, .ref h0] ∧ lv_has ls 9 [(4, .ref (S.2.2.1 b0 1)), (3, .ref r_1), (0, .ref h0), (1, .ref b0), (2, .int p0)]) (fun x ls st hI => ?_) (fun J72_6 => ?_)
    · obtain ⟨v_6, rfl⟩ : ∃ z, z = x := ⟨_, rfl⟩
      obtain ⟨rfl, hl⟩ := hI
      have hl : lv_has ls 9 [(4, .ref (S.2.2.1 b0 1)), (3, .ref r_1), (0, .ref h0), (1, .ref b0), (2, .int p0)] := hl
      refine yputI (ci := 5) (k := 0) (ty := .int) (C := RX5) (T := TX5) (N := 7) C0 hK hP hD hS hm_h0 hk_h0 (by decide) rfl inlX5 tyX5 tyX5_ok nmX5 (by decide) mW582 (fun _ h9 => h9) rfl (by decide +kernel) rfl rfl (Nat.le_of_ble_eq_true rfl) ysi_5_0 dX5_read_72 (fun H locs hP hD hS => ?_)
      obtain ⟨d_7, ed_7⟩ : ∃ z : yD, z = yi d h0 0 v_6 := ⟨_, rfl⟩
      rw [← ed_7] at hP hD
      have hgd_7 : yAg S [5] d d_7 := by rw [ed_7]; exact yAg.i hg0 (by rw [hk_h0]; decide)
      have hPod_7 : yPo S d_7 := by rw [ed_7]; exact yPo.i hPo hk_h0 (Or.inl rfl)
      refine lv_aload_n hx hb dX5_read_75 rfl (lv_at hl 2 rfl) ?_
      refine lv_aload_n hx hb dX5_read_76 rfl (lv_at hl 2 rfl) ?_
      refine yget (ci := 5) (k := 0) (v := .int (d_7.1 h0 0)) (C := RX5) (T := TX5) (N := 7) C0 hK hP hm_h0 hk_h0 (by decide) rfl inlX5 (by decide) mW582 (fun _ h9 => h9) rfl dX5_read_77 ?_
      refine lv_topi (fun z_8 ez_8 => ?_)
      refine lv_iconst (v := (-1)) hx hb dX5_read_80 (by decide) ?_
      refine yjoinR (σ := Int32) 97 (fun x ls st => st = [.int x, .ref h0] ∧ lv_has ls 9 [(4, .ref (S.2.2.1 b0 1)), (3, .ref r_1), (0, .ref h0), (1, .ref b0), (2, .int p0)]) (fun x ls st hI => ?_) (fun J97_9 => ?_)
      · obtain ⟨v_9, rfl⟩ : ∃ z, z = x := ⟨_, rfl⟩
        obtain ⟨rfl, hl⟩ := hI
        have hl : lv_has ls 9 [(4, .ref (S.2.2.1 b0 1)), (3, .ref r_1), (0, .ref h0), (1, .ref b0), (2, .int p0)] := hl
        refine yputI (ci := 5) (k := 1) (ty := .int) (C := RX5) (T := TX5) (N := 7) C0 hK hP hD hS hm_h0 hk_h0 (by decide) rfl inlX5 tyX5 tyX5_ok nmX5 (by decide) mW584 (fun _ h9 => h9) rfl (by decide +kernel) rfl rfl (Nat.le_of_ble_eq_true rfl) ysi_5_1 dX5_read_97 (fun H locs hP hD hS => ?_)
        obtain ⟨d_10, ed_10⟩ : ∃ z : yD, z = yi d_7 h0 1 v_9 := ⟨_, rfl⟩
        rw [← ed_10] at hP hD
        have hgd_10 : yAg S [5] d d_10 := by rw [ed_10]; exact yAg.i hgd_7 (by rw [hk_h0]; decide)
        have hPod_10 : yPo S d_10 := by rw [ed_10]; exact yPo.i hPod_7 hk_h0 (Or.inl rfl)
        refine lv_aload_n hx hb dX5_read_100 rfl (lv_at hl 2 rfl) ?_
        refine lv_aload_n hx hb dX5_read_101 rfl (lv_at hl 2 rfl) ?_
        refine yget (ci := 5) (k := 0) (v := .int (d_10.1 h0 0)) (C := RX5) (T := TX5) (N := 7) C0 hK hP hm_h0 hk_h0 (by decide) rfl inlX5 (by decide) mW582 (fun _ h9 => h9) rfl dX5_read_102 ?_
        refine lv_topi (fun z_11 ez_11 => ?_)
        refine lv_iconst (v := (-1)) hx hb dX5_read_105 (by decide) ?_
        refine yjoinR (σ := Int32) 125 (fun x ls st => st = [.int x, .ref h0] ∧ lv_has ls 9 [(4, .ref (S.2.2.1 b0 1)), (3, .ref r_1), (0, .ref h0), (1, .ref b0), (2, .int p0)] ∧ (x = 0 ∨ x = 1)) (fun x ls st hI => ?_) (fun J125_12 => ?_)
        · obtain ⟨v_12, rfl⟩ : ∃ z, z = x := ⟨_, rfl⟩
          obtain ⟨rfl, hl, hzv_12⟩ := hI
          have hl : lv_has ls 9 [(4, .ref (S.2.2.1 b0 1)), (3, .ref r_1), (0, .ref h0), (1, .ref b0), (2, .int p0)] := hl
          refine yputI (ci := 5) (k := 5) (ty := .boolean) (C := RX5) (T := TX5) (N := 7) C0 hK hP hD hS hm_h0 hk_h0 (by decide) rfl inlX5 tyX5 tyX5_ok nmX5 (by decide) mW585 (fun _ h9 => h9) rfl (by decide +kernel) (znb hzv_12).1 (znb hzv_12).2 (Nat.le_of_ble_eq_true rfl) ysi_5_5 dX5_read_125 (fun H locs hP hD hS => ?_)
          obtain ⟨d_13, ed_13⟩ : ∃ z : yD, z = yi d_10 h0 5 v_12 := ⟨_, rfl⟩
          rw [← ed_13] at hP hD
          have hgd_13 : yAg S [5] d d_13 := by rw [ed_13]; exact yAg.i hgd_10 (by rw [hk_h0]; decide)
          have hPod_13 : yPo S d_13 := by rw [ed_13]; exact yPo.i hPod_10 hk_h0 (Or.inr hzv_12)
          refine lv_aload_n hx hb dX5_read_128 rfl (lv_at hl 2 rfl) ?_
          refine lv_aload_n hx hb dX5_read_129 rfl (lv_at hl 3 rfl) ?_
          refine yget (ci := 0) (k := 0) (v := .ref (S.2.2.1 b0 0)) (C := RX0) (T := TX0) (N := 6) C0 hK hP hm_b0 hk_b0 (by decide) rfl inlX0 (by decide) mW586 (fun _ h9 => h9) rfl dX5_read_130 ?_
          obtain ⟨hmy_14, hky_14⟩ := ySh.f0_0 hSh _ hm_b0 hk_b0
          refine lv_aload_n hx hb dX5_read_133 rfl (lv_at hl 1 rfl) ?_
          refine yget (ci := 4) (k := 3) (v := .int (d_13.1 r_1 3)) (C := RX4) (T := TX4) (N := 11) C0 hK hP hmr_1 hkr_1 (by decide) rfl inlX4 (by decide) mW587 (fun _ h9 => h9) rfl dX5_read_134 ?_
          refine lv_topi (fun z_15 ez_15 => ?_)
          refine lv_aload_n hx hb dX5_read_137 rfl (lv_at hl 1 rfl) ?_
          refine yget (ci := 4) (k := 8) (v := .long (d_13.2.1 r_1 8)) (C := RX4) (T := TX4) (N := 11) C0 hK hP hmr_1 hkr_1 (by decide) rfl inlX4 (by decide) mW588 (fun _ h9 => h9) rfl dX5_read_138 ?_
          refine lv_topl (fun z_16 ez_16 => ?_)
          refine yVrl (As := [.int z_15, .long z_16]) (rest := [.ref h0]) C0 (g_X6_allowedBy l G S d_13 (S.2.2.1 b0 0) z_15 z_16 hSh hmy_14 hky_14) ok_X6_allowedBy (mW613 : Cond.methodLink RX5 68 yX6_allowedBy ∈ wsT) ⟨Nat.le_of_ble_eq_true rfl, Nat.le_of_ble_eq_true rfl⟩ hP hD hK hN hmy_14 hky_14 (by decide) rfl rfl rfl hl.1 rfl (Nat.le_of_ble_eq_true rfl) ⟨Nat.le_of_ble_eq_true rfl, Nat.le_of_ble_eq_true rfl⟩ dX5_read_141 (fun r_17 hr_17 => ?_)
          refine yputJ (ci := 5) (k := 4) (C := RX5) (T := TX5) (N := 7) C0 hK hP hD hS hm_h0 hk_h0 (by decide) rfl inlX5 tyX5 tyX5_ok nmX5 (by decide) mW589 (fun _ h9 => h9) rfl (by decide +kernel) (Nat.le_of_ble_eq_true rfl) ysj_5_4 dX5_read_144 (fun H locs hP hD hS => ?_)
          obtain ⟨d_18, ed_18⟩ : ∃ z : yD, z = yj d_13 h0 4 r_17 := ⟨_, rfl⟩
          rw [← ed_18] at hP hD
          have hgd_18 : yAg S [5] d d_18 := by rw [ed_18]; exact yAg.j hgd_13 (by rw [hk_h0]; decide)
          have hPod_18 : yPo S d_18 := by rw [ed_18]; exact hPod_13
          refine lv_aload_n hx hb dX5_read_147 rfl (lv_at hl 2 rfl) ?_
          refine yget (ci := 5) (k := 5) (v := .int (d_18.1 h0 5)) (C := RX5) (T := TX5) (N := 7) C0 hK hP hm_h0 hk_h0 (by decide) rfl inlX5 (by decide) mW585 (fun _ h9 => h9) rfl dX5_read_148 ?_
          refine lv_topi (fun z_19 ez_19 => ?_)
          have hzz_19 : z_19 = 0 ∨ z_19 = 1 := by rw [ez_19]; exact yPo.b hPod_18 hm_h0 hk_h0 rfl
          refine yjoinR (σ := Int32) 170 (fun x ls st => st = [.int x] ∧ lv_has ls 9 [(3, .ref r_1), (0, .ref h0)]) (fun x ls st hI => ?_) (fun J170_20 => ?_)
          · obtain ⟨v_20, rfl⟩ : ∃ z, z = x := ⟨_, rfl⟩
            obtain ⟨rfl, hl⟩ := hI
            have hl : lv_has ls 9 [(3, .ref r_1), (0, .ref h0)] := hl
            refine lv_istore (lv' := [(8, .int v_20), (3, .ref r_1), (0, .ref h0)]) hx hb dX5_read_170 hl (by decide) rfl (fun ls hl => ?_)
            refine lv_aload_n hx hb dX5_read_172 rfl (lv_at hl 2 rfl) ?_
            refine lv_iload hx hb dX5_read_173 (lv_at hl 0 rfl) ?_
            refine lv_iconst (v := (-1)) hx hb dX5_read_175 (by decide) ?_
            refine yjoinR (σ := Int32) 184 (fun x ls st => st = [.int x, .ref h0] ∧ lv_has ls 9 [(8, .int v_20), (3, .ref r_1), (0, .ref h0)] ∧ (x = 0 ∨ x = 1)) (fun x ls st hI => ?_) (fun J184_21 => ?_)
            · obtain ⟨v_21, rfl⟩ : ∃ z, z = x := ⟨_, rfl⟩
              obtain ⟨rfl, hl, hzv_21⟩ := hI
              have hl : lv_has ls 9 [(8, .int v_20), (3, .ref r_1), (0, .ref h0)] := hl
              refine yputI (ci := 5) (k := 6) (ty := .boolean) (C := RX5) (T := TX5) (N := 7) C0 hK hP hD hS hm_h0 hk_h0 (by decide) rfl inlX5 tyX5 tyX5_ok nmX5 (by decide) mW590 (fun _ h9 => h9) rfl (by decide +kernel) (znb hzv_21).1 (znb hzv_21).2 (Nat.le_of_ble_eq_true rfl) ysi_5_6 dX5_read_184 (fun H locs hP hD hS => ?_)
              obtain ⟨d_22, ed_22⟩ : ∃ z : yD, z = yi d_18 h0 6 v_21 := ⟨_, rfl⟩
              rw [← ed_22] at hP hD
              have hgd_22 : yAg S [5] d d_22 := by rw [ed_22]; exact yAg.i hgd_18 (by rw [hk_h0]; decide)
              have hPod_22 : yPo S d_22 := by rw [ed_22]; exact yPo.i hPod_18 hk_h0 (Or.inr hzv_21)
              refine lv_aload_n hx hb dX5_read_187 rfl (lv_at hl 2 rfl) ?_
              refine lv_aload_n hx hb dX5_read_188 rfl (lv_at hl 2 rfl) ?_
              refine yget (ci := 5) (k := 5) (v := .int (d_22.1 h0 5)) (C := RX5) (T := TX5) (N := 7) C0 hK hP hm_h0 hk_h0 (by decide) rfl inlX5 (by decide) mW585 (fun _ h9 => h9) rfl dX5_read_189 ?_
              refine lv_topi (fun z_23 ez_23 => ?_)
              have hzz_23 : z_23 = 0 ∨ z_23 = 1 := by rw [ez_23]; exact yPo.b hPod_22 hm_h0 hk_h0 rfl
              refine yjoinR (σ := Int32) 203 (fun x ls st => st = [.int x, .ref h0] ∧ lv_has ls 9 [(8, .int v_20), (3, .ref r_1), (0, .ref h0)]) (fun x ls st hI => ?_) (fun J203_24 => ?_)
              · obtain ⟨v_24, rfl⟩ : ∃ z, z = x := ⟨_, rfl⟩
                obtain ⟨rfl, hl⟩ := hI
                have hl : lv_has ls 9 [(8, .int v_20), (3, .ref r_1), (0, .ref h0)] := hl
                refine yputI (ci := 5) (k := 2) (ty := .int) (C := RX5) (T := TX5) (N := 7) C0 hK hP hD hS hm_h0 hk_h0 (by decide) rfl inlX5 tyX5 tyX5_ok nmX5 (by decide) mW591 (fun _ h9 => h9) rfl (by decide +kernel) rfl rfl (Nat.le_of_ble_eq_true rfl) ysi_5_2 dX5_read_203 (fun H locs hP hD hS => ?_)
                obtain ⟨d_25, ed_25⟩ : ∃ z : yD, z = yi d_22 h0 2 v_24 := ⟨_, rfl⟩
                rw [← ed_25] at hP hD
                have hgd_25 : yAg S [5] d d_25 := by rw [ed_25]; exact yAg.i hgd_22 (by rw [hk_h0]; decide)
                have hPod_25 : yPo S d_25 := by rw [ed_25]; exact yPo.i hPod_22 hk_h0 (Or.inl rfl)
                refine lv_aload_n hx hb dX5_read_206 rfl (lv_at hl 2 rfl) ?_
                refine lv_aload_n hx hb dX5_read_207 rfl (lv_at hl 2 rfl) ?_
                refine yget (ci := 5) (k := 6) (v := .int (d_25.1 h0 6)) (C := RX5) (T := TX5) (N := 7) C0 hK hP hm_h0 hk_h0 (by decide) rfl inlX5 (by decide) mW590 (fun _ h9 => h9) rfl dX5_read_208 ?_
                refine lv_topi (fun z_26 ez_26 => ?_)
                have hzz_26 : z_26 = 0 ∨ z_26 = 1 := by rw [ez_26]; exact yPo.b hPod_25 hm_h0 hk_h0 rfl
                refine lv_if_eq (tgt := 219) hx hb dX5_read_211 (by decide) (fun c_27 => ?_) (fun c_27 => ?_)
                · refine lv_aload_n hx hb dX5_read_219 rfl (lv_at hl 2 rfl) ?_
                  refine yget (ci := 5) (k := 5) (v := .int (d_25.1 h0 5)) (C := RX5) (T := TX5) (N := 7) C0 hK hP hm_h0 hk_h0 (by decide) rfl inlX5 (by decide) mW585 (fun _ h9 => h9) rfl dX5_read_220 ?_
                  refine lv_topi (fun z_28 ez_28 => ?_)
                  have hzz_28 : z_28 = 0 ∨ z_28 = 1 := by rw [ez_28]; exact yPo.b hPod_25 hm_h0 hk_h0 rfl
                  refine lv_if_eq (tgt := 233) hx hb dX5_read_223 (by decide) (fun c_29 => ?_) (fun c_29 => ?_)
                  · refine lv_iconst (v := 0) hx hb dX5_read_233 (by decide) ?_
                    refine yputI (ci := 5) (k := 3) (ty := .int) (C := RX5) (T := TX5) (N := 7) C0 hK hP hD hS hm_h0 hk_h0 (by decide) rfl inlX5 tyX5 tyX5_ok nmX5 (by decide) mW592 (fun _ h9 => h9) rfl (by decide +kernel) rfl rfl (Nat.le_of_ble_eq_true rfl) ysi_5_3 dX5_read_234 (fun H locs hP hD hS => ?_)
                    obtain ⟨d_30, ed_30⟩ : ∃ z : yD, z = yi d_25 h0 3 0 := ⟨_, rfl⟩
                    rw [← ed_30] at hP hD
                    have hgd_30 : yAg S [5] d d_30 := by rw [ed_30]; exact yAg.i hgd_25 (by rw [hk_h0]; decide)
                    have hPod_30 : yPo S d_30 := by rw [ed_30]; exact yPo.i hPod_25 hk_h0 (Or.inl rfl)
                    exact W.vret hx hb hr (fun t ht hW => ⟨⟨d_30, rfl, ⟨hgd_30, (fun _ => hPod_30), trivial⟩, by rw [ht]; exact hP, hD⟩, hS.F ht⟩) hS.2.2 dX5_read_237
                  · refine lv_aload_n hx hb dX5_read_226 rfl (lv_at hl 1 rfl) ?_
                    refine yVri (As := []) (rest := [.ref h0]) C0 (g_X4_logLong l G S d_25 r_1 hSh hmr_1 hkr_1) ok_X4_logLong (mW612 : Cond.methodLink RX5 49 yX4_logLong ∈ wsT) ⟨Nat.le_of_ble_eq_true rfl, Nat.le_of_ble_eq_true rfl⟩ hP hD hK hN hmr_1 hkr_1 (by decide) rfl rfl rfl hl.1 rfl (Nat.le_of_ble_eq_true rfl) ⟨Nat.le_of_ble_eq_true rfl, Nat.le_of_ble_eq_true rfl⟩ dX5_read_227 (fun r_31 hr_31 => ?_)
                    refine lv_goto (tgt := 234) hx hb dX5_read_230 (by decide) ?_
                    refine yputI (ci := 5) (k := 3) (ty := .int) (C := RX5) (T := TX5) (N := 7) C0 hK hP hD hS hm_h0 hk_h0 (by decide) rfl inlX5 tyX5 tyX5_ok nmX5 (by decide) mW592 (fun _ h9 => h9) rfl (by decide +kernel) rfl rfl (Nat.le_of_ble_eq_true rfl) ysi_5_3 dX5_read_234 (fun H locs hP hD hS => ?_)
                    obtain ⟨d_32, ed_32⟩ : ∃ z : yD, z = yi d_25 h0 3 r_31 := ⟨_, rfl⟩
                    rw [← ed_32] at hP hD
                    have hgd_32 : yAg S [5] d d_32 := by rw [ed_32]; exact yAg.i hgd_25 (by rw [hk_h0]; decide)
                    have hPod_32 : yPo S d_32 := by rw [ed_32]; exact yPo.i hPod_25 hk_h0 (Or.inl rfl)
                    exact W.vret hx hb hr (fun t ht hW => ⟨⟨d_32, rfl, ⟨hgd_32, (fun _ => hPod_32), trivial⟩, by rw [ht]; exact hP, hD⟩, hS.F ht⟩) hS.2.2 dX5_read_237
                · refine lv_iload hx hb dX5_read_214 (lv_at hl 0 rfl) ?_
                  refine lv_goto (tgt := 234) hx hb dX5_read_216 (by decide) ?_
                  refine yputI (ci := 5) (k := 3) (ty := .int) (C := RX5) (T := TX5) (N := 7) C0 hK hP hD hS hm_h0 hk_h0 (by decide) rfl inlX5 tyX5 tyX5_ok nmX5 (by decide) mW592 (fun _ h9 => h9) rfl (by decide +kernel) rfl rfl (Nat.le_of_ble_eq_true rfl) ysi_5_3 dX5_read_234 (fun H locs hP hD hS => ?_)
                  obtain ⟨d_33, ed_33⟩ : ∃ z : yD, z = yi d_25 h0 3 v_20 := ⟨_, rfl⟩
                  rw [← ed_33] at hP hD
                  have hgd_33 : yAg S [5] d d_33 := by rw [ed_33]; exact yAg.i hgd_25 (by rw [hk_h0]; decide)
                  have hPod_33 : yPo S d_33 := by rw [ed_33]; exact yPo.i hPod_25 hk_h0 (Or.inl rfl)
                  exact W.vret hx hb hr (fun t ht hW => ⟨⟨d_33, rfl, ⟨hgd_33, (fun _ => hPod_33), trivial⟩, by rw [ht]; exact hP, hD⟩, hS.F ht⟩) hS.2.2 dX5_read_237
              refine lv_if_eq (tgt := 202) hx hb dX5_read_192 (by decide) (fun c_34 => ?_) (fun c_34 => ?_)
              · refine lv_iconst (v := 0) hx hb dX5_read_202 (by decide) ?_
                exact J203_24 0 ls _ ⟨rfl, lv_sub hl [0, 1, 2] rfl⟩
              · refine lv_aload_n hx hb dX5_read_195 rfl (lv_at hl 2 rfl) ?_
                refine yget (ci := 5) (k := 1) (v := .int (d_22.1 h0 1)) (C := RX5) (T := TX5) (N := 7) C0 hK hP hm_h0 hk_h0 (by decide) rfl inlX5 (by decide) mW584 (fun _ h9 => h9) rfl dX5_read_196 ?_
                refine lv_topi (fun z_35 ez_35 => ?_)
                refine lv_goto (tgt := 203) hx hb dX5_read_199 (by decide) ?_
                exact J203_24 z_35 ls _ ⟨rfl, lv_sub hl [0, 1, 2] rfl⟩
            refine lv_icmp_eq (tgt := 183) hx hb dX5_read_176 (by decide) (fun c_36 => ?_) (fun c_36 => ?_)
            · refine lv_iconst (v := 0) hx hb dX5_read_183 (by decide) ?_
              exact J184_21 0 ls _ ⟨rfl, lv_sub hl [0, 1, 2] rfl, Or.inl rfl⟩
            · refine lv_iconst (v := 1) hx hb dX5_read_179 (by decide) ?_
              refine lv_goto (tgt := 184) hx hb dX5_read_180 (by decide) ?_
              exact J184_21 1 ls _ ⟨rfl, lv_sub hl [0, 1, 2] rfl, Or.inr rfl⟩
          refine lv_if_eq (tgt := 169) hx hb dX5_read_151 (by decide) (fun c_37 => ?_) (fun c_37 => ?_)
          · refine lv_iconst (v := (-1)) hx hb dX5_read_169 (by decide) ?_
            exact J170_20 (-1) ls _ ⟨rfl, lv_sub hl [1, 2] rfl⟩
          · refine lv_aload hx hb dX5_read_154 (lv_at hl 0 rfl) ?_
            refine lv_iload_n hx hb dX5_read_156 rfl (lv_at hl 4 rfl) ?_
            refine lv_aload_n hx hb dX5_read_157 rfl (lv_at hl 2 rfl) ?_
            refine yget (ci := 5) (k := 1) (v := .int (d_18.1 h0 1)) (C := RX5) (T := TX5) (N := 7) C0 hK hP hm_h0 hk_h0 (by decide) rfl inlX5 (by decide) mW584 (fun _ h9 => h9) rfl dX5_read_158 ?_
            refine lv_topi (fun z_38 ez_38 => ?_)
            refine lv_bipush (v := 7) hx hb dX5_read_161 (by decide) ?_
            refine yVri (As := [.int p0, .int z_38, .int 7]) (rest := []) C0 (g_X2_firstOf l G S d_18 (S.2.2.1 b0 1) p0 z_38 7 hSh hmy_2 hky_2) ok_X2_firstOf (mW594 : Cond.methodLink RX5 19 yX2_firstOf ∈ wsT) ⟨Nat.le_of_ble_eq_true rfl, Nat.le_of_ble_eq_true rfl⟩ hP hD hK hN hmy_2 hky_2 (by decide) rfl rfl rfl hl.1 rfl (Nat.le_of_ble_eq_true rfl) ⟨Nat.le_of_ble_eq_true rfl, Nat.le_of_ble_eq_true rfl⟩ dX5_read_163 (fun r_39 hr_39 => ?_)
            refine lv_goto (tgt := 170) hx hb dX5_read_166 (by decide) ?_
            exact J170_20 r_39 ls _ ⟨rfl, lv_sub hl [1, 2] rfl⟩
        refine lv_icmp_eq (tgt := 124) hx hb dX5_read_106 (by decide) (fun c_40 => ?_) (fun c_40 => ?_)
        · refine lv_iconst (v := 0) hx hb dX5_read_124 (by decide) ?_
          exact J125_12 0 ls _ ⟨rfl, lv_sub hl [0, 1, 2, 3, 4] rfl, Or.inl rfl⟩
        · refine lv_aload_n hx hb dX5_read_109 rfl (lv_at hl 2 rfl) ?_
          refine yget (ci := 5) (k := 1) (v := .int (d_10.1 h0 1)) (C := RX5) (T := TX5) (N := 7) C0 hK hP hm_h0 hk_h0 (by decide) rfl inlX5 (by decide) mW584 (fun _ h9 => h9) rfl dX5_read_110 ?_
          refine lv_topi (fun z_41 ez_41 => ?_)
          refine lv_aload_n hx hb dX5_read_113 rfl (lv_at hl 1 rfl) ?_
          refine yVri (As := []) (rest := [.int z_41, .ref h0]) C0 (g_X4_logLong l G S d_10 r_1 hSh hmr_1 hkr_1) ok_X4_logLong (mW612 : Cond.methodLink RX5 49 yX4_logLong ∈ wsT) ⟨Nat.le_of_ble_eq_true rfl, Nat.le_of_ble_eq_true rfl⟩ hP hD hK hN hmr_1 hkr_1 (by decide) rfl rfl rfl hl.1 rfl (Nat.le_of_ble_eq_true rfl) ⟨Nat.le_of_ble_eq_true rfl, Nat.le_of_ble_eq_true rfl⟩ dX5_read_114 (fun r_42 hr_42 => ?_)
          refine lv_icmp_ge (tgt := 124) hx hb dX5_read_117 (by decide) (fun c_43 => ?_) (fun c_43 => ?_)
          · refine lv_iconst (v := 0) hx hb dX5_read_124 (by decide) ?_
            exact J125_12 0 ls _ ⟨rfl, lv_sub hl [0, 1, 2, 3, 4] rfl, Or.inl rfl⟩
          · refine lv_iconst (v := 1) hx hb dX5_read_120 (by decide) ?_
            refine lv_goto (tgt := 125) hx hb dX5_read_121 (by decide) ?_
            exact J125_12 1 ls _ ⟨rfl, lv_sub hl [0, 1, 2, 3, 4] rfl, Or.inr rfl⟩
      refine lv_icmp_ne (tgt := 88) hx hb dX5_read_81 (by decide) (fun c_44 => ?_) (fun c_44 => ?_)
      · refine lv_aload_n hx hb dX5_read_88 rfl (lv_at hl 2 rfl) ?_
        refine yget (ci := 5) (k := 0) (v := .int (d_7.1 h0 0)) (C := RX5) (T := TX5) (N := 7) C0 hK hP hm_h0 hk_h0 (by decide) rfl inlX5 (by decide) mW582 (fun _ h9 => h9) rfl dX5_read_89 ?_
        refine lv_topi (fun z_45 ez_45 => ?_)
        refine lv_aload_n hx hb dX5_read_92 rfl (lv_at hl 1 rfl) ?_
        refine yget (ci := 4) (k := 6) (v := .int (d_7.1 r_1 6)) (C := RX4) (T := TX4) (N := 11) C0 hK hP hmr_1 hkr_1 (by decide) rfl inlX4 (by decide) mW583 (fun _ h9 => h9) rfl dX5_read_93 ?_
        refine lv_topi (fun z_46 ez_46 => ?_)
        refine lv_iadd hx hb dX5_read_96 ?_
        refine lv_topi (fun z_47 ez_47 => ?_)
        exact J97_9 z_47 ls _ ⟨rfl, lv_sub hl [0, 1, 2, 3, 4] rfl⟩
      · refine lv_iconst (v := (-1)) hx hb dX5_read_84 (by decide) ?_
        refine lv_goto (tgt := 97) hx hb dX5_read_85 (by decide) ?_
        exact J97_9 (-1) ls _ ⟨rfl, lv_sub hl [0, 1, 2, 3, 4] rfl⟩
    refine lv_if_eq (tgt := 71) hx hb dX5_read_54 (by decide) (fun c_48 => ?_) (fun c_48 => ?_)
    · refine lv_iconst (v := (-1)) hx hb dX5_read_71 (by decide) ?_
      exact J72_6 (-1) ls _ ⟨rfl, lv_sub hl [3, 4, 5, 6, 7] rfl⟩
    · refine lv_aload_n hx hb dX5_read_57 rfl (lv_at hl 4 rfl) ?_
      refine lv_iload hx hb dX5_read_58 (lv_at hl 2 rfl) ?_
      refine lv_iload hx hb dX5_read_60 (lv_at hl 1 rfl) ?_
      refine va_mmax hx hb (by rw [hml]; exact hl.1.symm) hown (htl (.methodLink RX5 25 Lib.Math.max.name) mW579) (htl (.static Lib.Math.max.name) mW580) (htl (.initialized "java/lang/Math") mW204) (htl (.code Lib.Math.max.name Lib.Math.max.code 2 (some .int)) mW581) (Nat.le_of_ble_eq_true rfl) (Nat.le_of_ble_eq_true rfl) (Nat.le_of_ble_eq_true rfl) (Nat.le_of_ble_eq_true rfl) dX5_read_62 ?_
      refine lv_topi (fun z_49 ez_49 => ?_)
      refine yVri (As := [.int z_49]) (rest := [.ref h0]) C0 (g_X4_firstOffice l G S d r_1 z_49 hSh hmr_1 hkr_1) ok_X4_firstOffice (mW606 : Cond.methodLink RX5 31 yX4_firstOffice ∈ wsT) ⟨Nat.le_of_ble_eq_true rfl, Nat.le_of_ble_eq_true rfl⟩ hP hD hK hN hmr_1 hkr_1 (by decide) rfl rfl rfl hl.1 rfl (Nat.le_of_ble_eq_true rfl) ⟨Nat.le_of_ble_eq_true rfl, Nat.le_of_ble_eq_true rfl⟩ dX5_read_65 (fun r_50 hr_50 => ?_)
      refine lv_goto (tgt := 72) hx hb dX5_read_68 (by decide) ?_
      exact J72_6 r_50 ls _ ⟨rfl, lv_sub hl [3, 4, 5, 6, 7] rfl⟩
  refine lv_icmp_eq (tgt := 48) hx hb dX5_read_35 (by decide) (fun c_51 => ?_) (fun c_51 => ?_)
  · refine lv_iconst (v := 0) hx hb dX5_read_48 (by decide) ?_
    exact J49_5 0 ls _ ⟨rfl, lv_sub hl [0, 1, 2, 3, 4, 5, 6] rfl⟩
  · refine lv_iload hx hb dX5_read_38 (lv_at hl 0 rfl) ?_
    refine lv_iconst (v := (-1)) hx hb dX5_read_40 (by decide) ?_
    refine lv_icmp_eq (tgt := 48) hx hb dX5_read_41 (by decide) (fun c_52 => ?_) (fun c_52 => ?_)
    · refine lv_iconst (v := 0) hx hb dX5_read_48 (by decide) ?_
      exact J49_5 0 ls _ ⟨rfl, lv_sub hl [0, 1, 2, 3, 4, 5, 6] rfl⟩
    · refine lv_iconst (v := 1) hx hb dX5_read_44 (by decide) ?_
      refine lv_goto (tgt := 49) hx hb dX5_read_45 (by decide) ?_
      exact J49_5 1 ls _ ⟨rfl, lv_sub hl [0, 1, 2, 3, 4, 5, 6] rfl⟩
