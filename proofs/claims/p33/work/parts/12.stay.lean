theorem dX7_forgetAsked_0 : decode cX7_forgetAsked 0 = .ok (.aload_n 0, 1) := by decide +kernel
theorem dX7_forgetAsked_1 : decode cX7_forgetAsked 1 = .ok (.iconst 0, 1) := by decide +kernel
theorem dX7_forgetAsked_2 : decode cX7_forgetAsked 2 = .ok (.putfield 144, 3) := by decide +kernel
theorem dX7_forgetAsked_5 : decode cX7_forgetAsked 5 = .ok (.aload_n 0, 1) := by decide +kernel
theorem dX7_forgetAsked_6 : decode cX7_forgetAsked 6 = .ok (.iconst 0, 1) := by decide +kernel
theorem dX7_forgetAsked_7 : decode cX7_forgetAsked 7 = .ok (.putfield 147, 3) := by decide +kernel
theorem dX7_forgetAsked_10 : decode cX7_forgetAsked 10 = .ok (.aload_n 0, 1) := by decide +kernel
theorem dX7_forgetAsked_11 : decode cX7_forgetAsked 11 = .ok (.iconst 0, 1) := by decide +kernel
theorem dX7_forgetAsked_12 : decode cX7_forgetAsked 12 = .ok (.putfield 150, 3) := by decide +kernel
theorem dX7_forgetAsked_15 : decode cX7_forgetAsked 15 = .ok (.return_, 1) := by decide +kernel
set_option maxHeartbeats 4000000 in
set_option maxRecDepth 100000 in
theorem g_X7_forgetAsked (l : Launch) (G : xG) (S : yS) (d : yD) (h0 : Nat) (hSh : ySh S) (hPo : yPo S d) (hm_h0 : h0 ∈ S.1) (hk_h0 : S.2.1 h0 = 7) : xWv l G yX7_forgetAsked cX7_forgetAsked 1 none 0 0 0 0 [.ref h0] (yW G S d) (fun u : yD => yAg S [7, 22, 23] d u ∧ (yPo S d → yPo S u) ∧ (True)) (fun u => yW G S u) := by
  intro sz
  refine xstart (by decide) (Nat.le_of_ble_eq_true rfl) (fun p e s m args below meth c ls C0 hr hlocks hin hsz hP hK hD hN hl => ?_)
  obtain ⟨hx, hb, hml, hown, htl⟩ := id C0
  subst hsz
  have hD := hD.self (sz := s.heap.size)
  generalize hAe : va_A (yW G S d) s.heap.size = A at hD ⊢
  have hA : ∀ q : Nat, s.heap.size ≤ q → A q := fun q h => by rw [← hAe]; exact Or.inr h
  have hS : va_S A s.heap s.heap [] := va_S.rf
  have hg0 : yAg S [7, 22, 23] d d := yAg.rf
  have hl : lv_has ls 1 [(0, .ref h0)] := hl
  refine lv_aload_n hx hb dX7_forgetAsked_0 rfl (lv_at hl 0 rfl) ?_
  refine lv_iconst (v := 0) hx hb dX7_forgetAsked_1 (by decide) ?_
  refine yputI (ci := 7) (k := 4) (ty := .int) (C := RX7) (T := TX7) (N := 18) C0 hK hP hD hS hm_h0 hk_h0 (by decide) rfl inlX7 tyX7 tyX7_ok nmX7 (by decide) mW783 (fun _ h9 => h9) rfl (by decide +kernel) rfl rfl (Nat.le_of_ble_eq_true rfl) ysi_7_4 dX7_forgetAsked_2 (fun H locs hP hD hS => ?_)
  obtain ⟨d_1, ed_1⟩ : ∃ z : yD, z = yi d h0 4 0 := ⟨_, rfl⟩
  rw [← ed_1] at hP hD
  have hgd_1 : yAg S [7, 22, 23] d d_1 := by rw [ed_1]; exact yAg.i hg0 (by rw [hk_h0]; decide)
  have hPod_1 : yPo S d_1 := by rw [ed_1]; exact yPo.i hPo hk_h0 (Or.inl rfl)
  refine lv_aload_n hx hb dX7_forgetAsked_5 rfl (lv_at hl 0 rfl) ?_
  refine lv_iconst (v := 0) hx hb dX7_forgetAsked_6 (by decide) ?_
  refine yputI (ci := 7) (k := 5) (ty := .int) (C := RX7) (T := TX7) (N := 18) C0 hK hP hD hS hm_h0 hk_h0 (by decide) rfl inlX7 tyX7 tyX7_ok nmX7 (by decide) mW784 (fun _ h9 => h9) rfl (by decide +kernel) rfl rfl (Nat.le_of_ble_eq_true rfl) ysi_7_5 dX7_forgetAsked_7 (fun H locs hP hD hS => ?_)
  obtain ⟨d_2, ed_2⟩ : ∃ z : yD, z = yi d_1 h0 5 0 := ⟨_, rfl⟩
  rw [← ed_2] at hP hD
  have hgd_2 : yAg S [7, 22, 23] d d_2 := by rw [ed_2]; exact yAg.i hgd_1 (by rw [hk_h0]; decide)
  have hPod_2 : yPo S d_2 := by rw [ed_2]; exact yPo.i hPod_1 hk_h0 (Or.inl rfl)
  refine lv_aload_n hx hb dX7_forgetAsked_10 rfl (lv_at hl 0 rfl) ?_
  refine lv_iconst (v := 0) hx hb dX7_forgetAsked_11 (by decide) ?_
  refine yputI (ci := 7) (k := 6) (ty := .int) (C := RX7) (T := TX7) (N := 18) C0 hK hP hD hS hm_h0 hk_h0 (by decide) rfl inlX7 tyX7 tyX7_ok nmX7 (by decide) mW785 (fun _ h9 => h9) rfl (by decide +kernel) rfl rfl (Nat.le_of_ble_eq_true rfl) ysi_7_6 dX7_forgetAsked_12 (fun H locs hP hD hS => ?_)
  obtain ⟨d_3, ed_3⟩ : ∃ z : yD, z = yi d_2 h0 6 0 := ⟨_, rfl⟩
  rw [← ed_3] at hP hD
  have hgd_3 : yAg S [7, 22, 23] d d_3 := by rw [ed_3]; exact yAg.i hgd_2 (by rw [hk_h0]; decide)
  have hPod_3 : yPo S d_3 := by rw [ed_3]; exact yPo.i hPod_2 hk_h0 (Or.inl rfl)
  exact W.vret hx hb hr (fun t ht hW => ⟨⟨d_3, rfl, ⟨hgd_3, (fun _ => hPod_3), trivial⟩, by rw [ht]; exact hP, hD⟩, hS.F ht⟩) hS.2.2 dX7_forgetAsked_15
theorem dX7_breakAt_0 : decode cX7_breakAt 0 = .ok (.iload_n 1, 1) := by decide +kernel
theorem dX7_breakAt_1 : decode cX7_breakAt 1 = .ok (.aload_n 0, 1) := by decide +kernel
theorem dX7_breakAt_2 : decode cX7_breakAt 2 = .ok (.getfield 35, 3) := by decide +kernel
theorem dX7_breakAt_5 : decode cX7_breakAt 5 = .ok (.if_icmp .le 16, 3) := by decide +kernel
theorem dX7_breakAt_8 : decode cX7_breakAt 8 = .ok (.iload_n 1, 1) := by decide +kernel
theorem dX7_breakAt_9 : decode cX7_breakAt 9 = .ok (.aload_n 0, 1) := by decide +kernel
theorem dX7_breakAt_10 : decode cX7_breakAt 10 = .ok (.getfield 39, 3) := by decide +kernel
theorem dX7_breakAt_13 : decode cX7_breakAt 13 = .ok (.if_icmp .ge 8, 3) := by decide +kernel
theorem dX7_breakAt_16 : decode cX7_breakAt 16 = .ok (.aload_n 0, 1) := by decide +kernel
theorem dX7_breakAt_17 : decode cX7_breakAt 17 = .ok (.iload_n 1, 1) := by decide +kernel
theorem dX7_breakAt_18 : decode cX7_breakAt 18 = .ok (.putfield 39, 3) := by decide +kernel
theorem dX7_breakAt_21 : decode cX7_breakAt 21 = .ok (.return_, 1) := by decide +kernel
set_option maxHeartbeats 4000000 in
set_option maxRecDepth 100000 in
theorem g_X7_breakAt (l : Launch) (G : xG) (S : yS) (d : yD) (h0 : Nat) (p0 : Int32) (hSh : ySh S) (hPo : yPo S d) (hm_h0 : h0 ∈ S.1) (hk_h0 : S.2.1 h0 = 7) : xWv l G yX7_breakAt cX7_breakAt 2 none 0 0 0 0 [.ref h0, .int p0] (yW G S d) (fun u : yD => yAg S [7, 22, 23] d u ∧ (yPo S d → yPo S u) ∧ (True)) (fun u => yW G S u) := by
  intro sz
  refine xstart (by decide) (Nat.le_of_ble_eq_true rfl) (fun p e s m args below meth c ls C0 hr hlocks hin hsz hP hK hD hN hl => ?_)
  obtain ⟨hx, hb, hml, hown, htl⟩ := id C0
  subst hsz
  have hD := hD.self (sz := s.heap.size)
  generalize hAe : va_A (yW G S d) s.heap.size = A at hD ⊢
  have hA : ∀ q : Nat, s.heap.size ≤ q → A q := fun q h => by rw [← hAe]; exact Or.inr h
  have hS : va_S A s.heap s.heap [] := va_S.rf
  have hg0 : yAg S [7, 22, 23] d d := yAg.rf
  have hl : lv_has ls 2 [(0, .ref h0), (1, .int p0)] := hl
  refine lv_iload_n hx hb dX7_breakAt_0 rfl (lv_at hl 1 rfl) ?_
  refine lv_aload_n hx hb dX7_breakAt_1 rfl (lv_at hl 0 rfl) ?_
  refine yget (ci := 7) (k := 8) (v := .int (d.1 h0 8)) (C := RX7) (T := TX7) (N := 18) C0 hK hP hm_h0 hk_h0 (by decide) rfl inlX7 (by decide) mW743 (fun _ h9 => h9) rfl dX7_breakAt_2 ?_
  refine lv_topi (fun z_1 ez_1 => ?_)
  refine lv_icmp_le (tgt := 21) hx hb dX7_breakAt_5 (by decide) (fun c_2 => ?_) (fun c_2 => ?_)
  · exact W.vret hx hb hr (fun t ht hW => ⟨⟨d, rfl, ⟨hg0, (fun _ => hPo), trivial⟩, by rw [ht]; exact hP, hD⟩, hS.F ht⟩) hS.2.2 dX7_breakAt_21
  · refine lv_iload_n hx hb dX7_breakAt_8 rfl (lv_at hl 1 rfl) ?_
    refine lv_aload_n hx hb dX7_breakAt_9 rfl (lv_at hl 0 rfl) ?_
    refine yget (ci := 7) (k := 9) (v := .int (d.1 h0 9)) (C := RX7) (T := TX7) (N := 18) C0 hK hP hm_h0 hk_h0 (by decide) rfl inlX7 (by decide) mW744 (fun _ h9 => h9) rfl dX7_breakAt_10 ?_
    refine lv_topi (fun z_3 ez_3 => ?_)
    refine lv_icmp_ge (tgt := 21) hx hb dX7_breakAt_13 (by decide) (fun c_4 => ?_) (fun c_4 => ?_)
    · exact W.vret hx hb hr (fun t ht hW => ⟨⟨d, rfl, ⟨hg0, (fun _ => hPo), trivial⟩, by rw [ht]; exact hP, hD⟩, hS.F ht⟩) hS.2.2 dX7_breakAt_21
    · refine lv_aload_n hx hb dX7_breakAt_16 rfl (lv_at hl 0 rfl) ?_
      refine lv_iload_n hx hb dX7_breakAt_17 rfl (lv_at hl 1 rfl) ?_
      refine yputI (ci := 7) (k := 9) (ty := .int) (C := RX7) (T := TX7) (N := 18) C0 hK hP hD hS hm_h0 hk_h0 (by decide) rfl inlX7 tyX7 tyX7_ok nmX7 (by decide) mW744 (fun _ h9 => h9) rfl (by decide +kernel) rfl rfl (Nat.le_of_ble_eq_true rfl) ysi_7_9 dX7_breakAt_18 (fun H locs hP hD hS => ?_)
      obtain ⟨d_5, ed_5⟩ : ∃ z : yD, z = yi d h0 9 p0 := ⟨_, rfl⟩
      rw [← ed_5] at hP hD
      have hgd_5 : yAg S [7, 22, 23] d d_5 := by rw [ed_5]; exact yAg.i hg0 (by rw [hk_h0]; decide)
      have hPod_5 : yPo S d_5 := by rw [ed_5]; exact yPo.i hPo hk_h0 (Or.inl rfl)
      exact W.vret hx hb hr (fun t ht hW => ⟨⟨d_5, rfl, ⟨hgd_5, (fun _ => hPod_5), trivial⟩, by rw [ht]; exact hP, hD⟩, hS.F ht⟩) hS.2.2 dX7_breakAt_21
theorem dX7_addAsked_0 : decode cX7_addAsked 0 = .ok (.aload_n 0, 1) := by decide +kernel
theorem dX7_addAsked_1 : decode cX7_addAsked 1 = .ok (.getfield 15, 3) := by decide +kernel
theorem dX7_addAsked_4 : decode cX7_addAsked 4 = .ok (.aload_n 0, 1) := by decide +kernel
theorem dX7_addAsked_5 : decode cX7_addAsked 5 = .ok (.getfield 144, 3) := by decide +kernel
theorem dX7_addAsked_8 : decode cX7_addAsked 8 = .ok (.iload_n 1, 1) := by decide +kernel
theorem dX7_addAsked_9 : decode cX7_addAsked 9 = .ok (.invokestatic 103, 3) := by decide +kernel
theorem dX7_addAsked_12 : decode cX7_addAsked 12 = .ok (.aload_n 0, 1) := by decide +kernel
theorem dX7_addAsked_13 : decode cX7_addAsked 13 = .ok (.dup, 1) := by decide +kernel
theorem dX7_addAsked_14 : decode cX7_addAsked 14 = .ok (.getfield 144, 3) := by decide +kernel
theorem dX7_addAsked_17 : decode cX7_addAsked 17 = .ok (.iconst 1, 1) := by decide +kernel
theorem dX7_addAsked_18 : decode cX7_addAsked 18 = .ok (.iadd, 1) := by decide +kernel
theorem dX7_addAsked_19 : decode cX7_addAsked 19 = .ok (.putfield 144, 3) := by decide +kernel
theorem dX7_addAsked_22 : decode cX7_addAsked 22 = .ok (.iconst 1, 1) := by decide +kernel
theorem dX7_addAsked_23 : decode cX7_addAsked 23 = .ok (.aload_n 0, 1) := by decide +kernel
theorem dX7_addAsked_24 : decode cX7_addAsked 24 = .ok (.getfield 18, 3) := by decide +kernel
theorem dX7_addAsked_27 : decode cX7_addAsked 27 = .ok (.getfield 86, 3) := by decide +kernel
theorem dX7_addAsked_30 : decode cX7_addAsked 30 = .ok (.getfield 90, 3) := by decide +kernel
theorem dX7_addAsked_33 : decode cX7_addAsked 33 = .ok (.iload_n 1, 1) := by decide +kernel
theorem dX7_addAsked_34 : decode cX7_addAsked 34 = .ok (.invokestatic 95, 3) := by decide +kernel
theorem dX7_addAsked_37 : decode cX7_addAsked 37 = .ok (.ishl, 1) := by decide +kernel
theorem dX7_addAsked_38 : decode cX7_addAsked 38 = .ok (.istore_n 2, 1) := by decide +kernel
theorem dX7_addAsked_39 : decode cX7_addAsked 39 = .ok (.aload_n 0, 1) := by decide +kernel
theorem dX7_addAsked_40 : decode cX7_addAsked 40 = .ok (.dup, 1) := by decide +kernel
theorem dX7_addAsked_41 : decode cX7_addAsked 41 = .ok (.getfield 150, 3) := by decide +kernel
theorem dX7_addAsked_44 : decode cX7_addAsked 44 = .ok (.aload_n 0, 1) := by decide +kernel
theorem dX7_addAsked_45 : decode cX7_addAsked 45 = .ok (.getfield 147, 3) := by decide +kernel
theorem dX7_addAsked_48 : decode cX7_addAsked 48 = .ok (.iload_n 2, 1) := by decide +kernel
theorem dX7_addAsked_49 : decode cX7_addAsked 49 = .ok (.iand, 1) := by decide +kernel
theorem dX7_addAsked_50 : decode cX7_addAsked 50 = .ok (.ior, 1) := by decide +kernel
theorem dX7_addAsked_51 : decode cX7_addAsked 51 = .ok (.putfield 150, 3) := by decide +kernel
theorem dX7_addAsked_54 : decode cX7_addAsked 54 = .ok (.aload_n 0, 1) := by decide +kernel
theorem dX7_addAsked_55 : decode cX7_addAsked 55 = .ok (.dup, 1) := by decide +kernel
theorem dX7_addAsked_56 : decode cX7_addAsked 56 = .ok (.getfield 147, 3) := by decide +kernel
theorem dX7_addAsked_59 : decode cX7_addAsked 59 = .ok (.iload_n 2, 1) := by decide +kernel
theorem dX7_addAsked_60 : decode cX7_addAsked 60 = .ok (.ior, 1) := by decide +kernel
theorem dX7_addAsked_61 : decode cX7_addAsked 61 = .ok (.putfield 147, 3) := by decide +kernel
theorem dX7_addAsked_64 : decode cX7_addAsked 64 = .ok (.return_, 1) := by decide +kernel
set_option maxHeartbeats 4000000 in
set_option maxRecDepth 100000 in
theorem g_X7_addAsked (l : Launch) (G : xG) (S : yS) (d : yD) (h0 : Nat) (p0 : Int32) (hSh : ySh S) (hPo : yPo S d) (hm_h0 : h0 ∈ S.1) (hk_h0 : S.2.1 h0 = 7) : xWv l G yX7_addAsked cX7_addAsked 3 none 1 22 0 0 [.ref h0, .int p0] (yW G S d) (fun u : yD => yAg S [7, 22, 23] d u ∧ (yPo S d → yPo S u) ∧ (True)) (fun u => yW G S u) := by
  intro sz
  refine xstart (by decide) (Nat.le_of_ble_eq_true rfl) (fun p e s m args below meth c ls C0 hr hlocks hin hsz hP hK hD hN hl => ?_)
  obtain ⟨hx, hb, hml, hown, htl⟩ := id C0
  subst hsz
  have hD := hD.self (sz := s.heap.size)
  generalize hAe : va_A (yW G S d) s.heap.size = A at hD ⊢
  have hA : ∀ q : Nat, s.heap.size ≤ q → A q := fun q h => by rw [← hAe]; exact Or.inr h
  have hS : va_S A s.heap s.heap [] := va_S.rf
  have hg0 : yAg S [7, 22, 23] d d := yAg.rf
  have hl : lv_has ls 3 [(0, .ref h0), (1, .int p0)] := hl
  refine lv_aload_n hx hb dX7_addAsked_0 rfl (lv_at hl 0 rfl) ?_
  refine yget (ci := 7) (k := 2) (v := .ref (S.2.2.1 h0 2)) (C := RX7) (T := TX7) (N := 18) C0 hK hP hm_h0 hk_h0 (by decide) rfl inlX7 (by decide) mW95 (fun _ h9 => h9) rfl dX7_addAsked_1 ?_
  obtain ⟨hmy_1, hky_1⟩ := ySh.f7_2 hSh _ hm_h0 hk_h0
  refine lv_aload_n hx hb dX7_addAsked_4 rfl (lv_at hl 0 rfl) ?_
  refine yget (ci := 7) (k := 4) (v := .int (d.1 h0 4)) (C := RX7) (T := TX7) (N := 18) C0 hK hP hm_h0 hk_h0 (by decide) rfl inlX7 (by decide) mW783 (fun _ h9 => h9) rfl dX7_addAsked_5 ?_
  refine lv_topi (fun z_2 ez_2 => ?_)
  refine lv_iload_n hx hb dX7_addAsked_8 rfl (lv_at hl 1 rfl) ?_
  refine ySNwv (As := [.ref (S.2.2.1 h0 2), .int z_2, .int p0]) (rest := []) C0 (g_X8_put l G S d (S.2.2.1 h0 2) 23 z_2 p0 hPo hmy_1 hky_1 (by decide) rfl rfl (by decide)) ok_X8_put (xN.n14 hN) ⟨Nat.le_of_ble_eq_true rfl, Nat.le_of_ble_eq_true rfl⟩ hP hD hS hA hK hN rfl hl.1 rfl (Nat.le_of_ble_eq_true rfl) ⟨Nat.le_of_ble_eq_true rfl, Nat.le_of_ble_eq_true rfl⟩ dX7_addAsked_9 (fun d_4 H locs hr_3 hP hD hS => ?_)
  obtain ⟨hgad_4, hpad_4, hxd_4⟩ := hr_3
  have hgd_4 : yAg S [7, 22, 23] d d_4 := yAg.tr hg0 hgad_4 (by first | decide | exact fun _ h => h)
  have hPod_4 : yPo S d_4 := hpad_4 hPo
  refine lv_aload_n hx hb dX7_addAsked_12 rfl (lv_at hl 0 rfl) ?_
  refine lv_dup hx hb dX7_addAsked_13 rfl ?_
  refine yget (ci := 7) (k := 4) (v := .int (d_4.1 h0 4)) (C := RX7) (T := TX7) (N := 18) C0 hK hP hm_h0 hk_h0 (by decide) rfl inlX7 (by decide) mW783 (fun _ h9 => h9) rfl dX7_addAsked_14 ?_
  refine lv_topi (fun z_5 ez_5 => ?_)
  refine lv_iconst (v := 1) hx hb dX7_addAsked_17 (by decide) ?_
  refine lv_iadd hx hb dX7_addAsked_18 ?_
  refine lv_topi (fun z_6 ez_6 => ?_)
  refine yputI (ci := 7) (k := 4) (ty := .int) (C := RX7) (T := TX7) (N := 18) C0 hK hP hD hS hm_h0 hk_h0 (by decide) rfl inlX7 tyX7 tyX7_ok nmX7 (by decide) mW783 (fun _ h9 => h9) rfl (by decide +kernel) rfl rfl (Nat.le_of_ble_eq_true rfl) ysi_7_4 dX7_addAsked_19 (fun H locs hP hD hS => ?_)
  obtain ⟨d_7, ed_7⟩ : ∃ z : yD, z = yi d_4 h0 4 z_6 := ⟨_, rfl⟩
  rw [← ed_7] at hP hD
  have hgd_7 : yAg S [7, 22, 23] d d_7 := by rw [ed_7]; exact yAg.i hgd_4 (by rw [hk_h0]; decide)
  have hPod_7 : yPo S d_7 := by rw [ed_7]; exact yPo.i hPod_4 hk_h0 (Or.inl rfl)
  refine lv_iconst (v := 1) hx hb dX7_addAsked_22 (by decide) ?_
  refine lv_aload_n hx hb dX7_addAsked_23 rfl (lv_at hl 0 rfl) ?_
  refine yget (ci := 7) (k := 0) (v := .ref (S.2.2.1 h0 0)) (C := RX7) (T := TX7) (N := 18) C0 hK hP hm_h0 hk_h0 (by decide) rfl inlX7 (by decide) mW96 (fun _ h9 => h9) rfl dX7_addAsked_24 ?_
  obtain ⟨hmy_8, hky_8⟩ := ySh.f7_0 hSh _ hm_h0 hk_h0
  refine yget (ci := 0) (k := 0) (v := .ref (S.2.2.1 (S.2.2.1 h0 0) 0)) (C := RX0) (T := TX0) (N := 6) C0 hK hP hmy_8 hky_8 (by decide) rfl inlX0 (by decide) mW755 (fun _ h9 => h9) rfl dX7_addAsked_27 ?_
  obtain ⟨hmy_9, hky_9⟩ := ySh.f0_0 hSh _ hmy_8 hky_8
  refine yget (ci := 6) (k := 0) (v := .ref (S.2.2.1 (S.2.2.1 (S.2.2.1 h0 0) 0) 0)) (C := RX6) (T := TX6) (N := 7) C0 hK hP hmy_9 hky_9 (by decide) rfl inlX6 (by decide) mW756 (fun _ h9 => h9) rfl dX7_addAsked_30 ?_
  obtain ⟨hmy_10, hky_10⟩ := ySh.f6_0 hSh _ hmy_9 hky_9
  refine lv_iload_n hx hb dX7_addAsked_33 rfl (lv_at hl 1 rfl) ?_
  refine ySNri (As := [.ref (S.2.2.1 (S.2.2.1 (S.2.2.1 h0 0) 0) 0), .int p0]) (rest := [.int 1]) C0 (g_X8_at l G S d_7 (S.2.2.1 (S.2.2.1 (S.2.2.1 h0 0) 0) 0) 10 p0 hmy_10 hky_10 (by decide) rfl rfl (by decide)) ok_X8_at (xN.n12 hN) ⟨Nat.le_of_ble_eq_true rfl, Nat.le_of_ble_eq_true rfl⟩ hP hD hK hN rfl hl.1 rfl (Nat.le_of_ble_eq_true rfl) ⟨Nat.le_of_ble_eq_true rfl, Nat.le_of_ble_eq_true rfl⟩ dX7_addAsked_34 (fun r_11 hr_11 => ?_)
  refine lv_ishl hx hb dX7_addAsked_37 ?_
  refine lv_topi (fun z_12 ez_12 => ?_)
  refine lv_istore_n (lv' := [(2, .int z_12), (0, .ref h0), (1, .int p0)]) hx hb dX7_addAsked_38 rfl hl (by decide) rfl (fun ls hl => ?_)
  refine lv_aload_n hx hb dX7_addAsked_39 rfl (lv_at hl 1 rfl) ?_
  refine lv_dup hx hb dX7_addAsked_40 rfl ?_
  refine yget (ci := 7) (k := 6) (v := .int (d_7.1 h0 6)) (C := RX7) (T := TX7) (N := 18) C0 hK hP hm_h0 hk_h0 (by decide) rfl inlX7 (by decide) mW785 (fun _ h9 => h9) rfl dX7_addAsked_41 ?_
  refine lv_topi (fun z_13 ez_13 => ?_)
  refine lv_aload_n hx hb dX7_addAsked_44 rfl (lv_at hl 1 rfl) ?_
  refine yget (ci := 7) (k := 5) (v := .int (d_7.1 h0 5)) (C := RX7) (T := TX7) (N := 18) C0 hK hP hm_h0 hk_h0 (by decide) rfl inlX7 (by decide) mW784 (fun _ h9 => h9) rfl dX7_addAsked_45 ?_
  refine lv_topi (fun z_14 ez_14 => ?_)
  refine lv_iload_n hx hb dX7_addAsked_48 rfl (lv_at hl 0 rfl) ?_
  refine lv_iand hx hb dX7_addAsked_49 ?_
  refine lv_topi (fun z_15 ez_15 => ?_)
  refine lv_ior hx hb dX7_addAsked_50 ?_
  refine lv_topi (fun z_16 ez_16 => ?_)
  refine yputI (ci := 7) (k := 6) (ty := .int) (C := RX7) (T := TX7) (N := 18) C0 hK hP hD hS hm_h0 hk_h0 (by decide) rfl inlX7 tyX7 tyX7_ok nmX7 (by decide) mW785 (fun _ h9 => h9) rfl (by decide +kernel) rfl rfl (Nat.le_of_ble_eq_true rfl) ysi_7_6 dX7_addAsked_51 (fun H locs hP hD hS => ?_)
  obtain ⟨d_17, ed_17⟩ : ∃ z : yD, z = yi d_7 h0 6 z_16 := ⟨_, rfl⟩
  rw [← ed_17] at hP hD
  have hgd_17 : yAg S [7, 22, 23] d d_17 := by rw [ed_17]; exact yAg.i hgd_7 (by rw [hk_h0]; decide)
  have hPod_17 : yPo S d_17 := by rw [ed_17]; exact yPo.i hPod_7 hk_h0 (Or.inl rfl)
  refine lv_aload_n hx hb dX7_addAsked_54 rfl (lv_at hl 1 rfl) ?_
  refine lv_dup hx hb dX7_addAsked_55 rfl ?_
  refine yget (ci := 7) (k := 5) (v := .int (d_17.1 h0 5)) (C := RX7) (T := TX7) (N := 18) C0 hK hP hm_h0 hk_h0 (by decide) rfl inlX7 (by decide) mW784 (fun _ h9 => h9) rfl dX7_addAsked_56 ?_
  refine lv_topi (fun z_18 ez_18 => ?_)
  refine lv_iload_n hx hb dX7_addAsked_59 rfl (lv_at hl 0 rfl) ?_
  refine lv_ior hx hb dX7_addAsked_60 ?_
  refine lv_topi (fun z_19 ez_19 => ?_)
  refine yputI (ci := 7) (k := 5) (ty := .int) (C := RX7) (T := TX7) (N := 18) C0 hK hP hD hS hm_h0 hk_h0 (by decide) rfl inlX7 tyX7 tyX7_ok nmX7 (by decide) mW784 (fun _ h9 => h9) rfl (by decide +kernel) rfl rfl (Nat.le_of_ble_eq_true rfl) ysi_7_5 dX7_addAsked_61 (fun H locs hP hD hS => ?_)
  obtain ⟨d_20, ed_20⟩ : ∃ z : yD, z = yi d_17 h0 5 z_19 := ⟨_, rfl⟩
  rw [← ed_20] at hP hD
  have hgd_20 : yAg S [7, 22, 23] d d_20 := by rw [ed_20]; exact yAg.i hgd_17 (by rw [hk_h0]; decide)
  have hPod_20 : yPo S d_20 := by rw [ed_20]; exact yPo.i hPod_17 hk_h0 (Or.inl rfl)
  exact W.vret hx hb hr (fun t ht hW => ⟨⟨d_20, rfl, ⟨hgd_20, (fun _ => hPod_20), trivial⟩, by rw [ht]; exact hP, hD⟩, hS.F ht⟩) hS.2.2 dX7_addAsked_64
theorem dX7_choose_0 : decode cX7_choose 0 = .ok (.aload_n 0, 1) := by decide +kernel
theorem dX7_choose_1 : decode cX7_choose 1 = .ok (.bipush (-2), 2) := by decide +kernel
theorem dX7_choose_3 : decode cX7_choose 3 = .ok (.putfield 118, 3) := by decide +kernel
theorem dX7_choose_6 : decode cX7_choose 6 = .ok (.aload_n 0, 1) := by decide +kernel
theorem dX7_choose_7 : decode cX7_choose 7 = .ok (.iconst 2, 1) := by decide +kernel
theorem dX7_choose_8 : decode cX7_choose 8 = .ok (.putfield 121, 3) := by decide +kernel
theorem dX7_choose_11 : decode cX7_choose 11 = .ok (.aload_n 0, 1) := by decide +kernel
theorem dX7_choose_12 : decode cX7_choose 12 = .ok (.getfield 144, 3) := by decide +kernel
theorem dX7_choose_15 : decode cX7_choose 15 = .ok (.ifCond .ne 4, 3) := by decide +kernel
theorem dX7_choose_18 : decode cX7_choose 18 = .ok (.return_, 1) := by decide +kernel
theorem dX7_choose_19 : decode cX7_choose 19 = .ok (.aload_n 0, 1) := by decide +kernel
theorem dX7_choose_20 : decode cX7_choose 20 = .ok (.getfield 15, 3) := by decide +kernel
theorem dX7_choose_23 : decode cX7_choose 23 = .ok (.aload_n 0, 1) := by decide +kernel
theorem dX7_choose_24 : decode cX7_choose 24 = .ok (.getfield 144, 3) := by decide +kernel
theorem dX7_choose_27 : decode cX7_choose 27 = .ok (.iconst 1, 1) := by decide +kernel
theorem dX7_choose_28 : decode cX7_choose 28 = .ok (.isub, 1) := by decide +kernel
theorem dX7_choose_29 : decode cX7_choose 29 = .ok (.invokestatic 95, 3) := by decide +kernel
theorem dX7_choose_32 : decode cX7_choose 32 = .ok (.istore_n 1, 1) := by decide +kernel
theorem dX7_choose_33 : decode cX7_choose 33 = .ok (.aload_n 0, 1) := by decide +kernel
theorem dX7_choose_34 : decode cX7_choose 34 = .ok (.getfield 144, 3) := by decide +kernel
theorem dX7_choose_37 : decode cX7_choose 37 = .ok (.iconst 1, 1) := by decide +kernel
theorem dX7_choose_38 : decode cX7_choose 38 = .ok (.isub, 1) := by decide +kernel
theorem dX7_choose_39 : decode cX7_choose 39 = .ok (.istore_n 2, 1) := by decide +kernel
theorem dX7_choose_40 : decode cX7_choose 40 = .ok (.iload_n 2, 1) := by decide +kernel
theorem dX7_choose_41 : decode cX7_choose 41 = .ok (.ifCond .lt 80, 3) := by decide +kernel
theorem dX7_choose_44 : decode cX7_choose 44 = .ok (.aload_n 0, 1) := by decide +kernel
theorem dX7_choose_45 : decode cX7_choose 45 = .ok (.getfield 15, 3) := by decide +kernel
theorem dX7_choose_48 : decode cX7_choose 48 = .ok (.iload_n 2, 1) := by decide +kernel
theorem dX7_choose_49 : decode cX7_choose 49 = .ok (.invokestatic 95, 3) := by decide +kernel
theorem dX7_choose_52 : decode cX7_choose 52 = .ok (.istore_n 3, 1) := by decide +kernel
theorem dX7_choose_53 : decode cX7_choose 53 = .ok (.iconst 1, 1) := by decide +kernel
theorem dX7_choose_54 : decode cX7_choose 54 = .ok (.aload_n 0, 1) := by decide +kernel
theorem dX7_choose_55 : decode cX7_choose 55 = .ok (.getfield 18, 3) := by decide +kernel
theorem dX7_choose_58 : decode cX7_choose 58 = .ok (.getfield 86, 3) := by decide +kernel
theorem dX7_choose_61 : decode cX7_choose 61 = .ok (.getfield 90, 3) := by decide +kernel
theorem dX7_choose_64 : decode cX7_choose 64 = .ok (.iload_n 3, 1) := by decide +kernel
theorem dX7_choose_65 : decode cX7_choose 65 = .ok (.invokestatic 95, 3) := by decide +kernel
theorem dX7_choose_68 : decode cX7_choose 68 = .ok (.ishl, 1) := by decide +kernel
theorem dX7_choose_69 : decode cX7_choose 69 = .ok (.istore 4, 2) := by decide +kernel
theorem dX7_choose_71 : decode cX7_choose 71 = .ok (.aload_n 0, 1) := by decide +kernel
theorem dX7_choose_72 : decode cX7_choose 72 = .ok (.getfield 147, 3) := by decide +kernel
theorem dX7_choose_75 : decode cX7_choose 75 = .ok (.iload 4, 2) := by decide +kernel
theorem dX7_choose_77 : decode cX7_choose 77 = .ok (.iconst (-1), 1) := by decide +kernel
theorem dX7_choose_78 : decode cX7_choose 78 = .ok (.ixor, 1) := by decide +kernel
theorem dX7_choose_79 : decode cX7_choose 79 = .ok (.iand, 1) := by decide +kernel
theorem dX7_choose_80 : decode cX7_choose 80 = .ok (.aload_n 0, 1) := by decide +kernel
theorem dX7_choose_81 : decode cX7_choose 81 = .ok (.getfield 150, 3) := by decide +kernel
theorem dX7_choose_84 : decode cX7_choose 84 = .ok (.iload 4, 2) := by decide +kernel
theorem dX7_choose_86 : decode cX7_choose 86 = .ok (.iand, 1) := by decide +kernel
theorem dX7_choose_87 : decode cX7_choose 87 = .ok (.ior, 1) := by decide +kernel
theorem dX7_choose_88 : decode cX7_choose 88 = .ok (.istore 5, 2) := by decide +kernel
theorem dX7_choose_90 : decode cX7_choose 90 = .ok (.aload_n 0, 1) := by decide +kernel
theorem dX7_choose_91 : decode cX7_choose 91 = .ok (.getfield 18, 3) := by decide +kernel
theorem dX7_choose_94 : decode cX7_choose 94 = .ok (.getfield 86, 3) := by decide +kernel
theorem dX7_choose_97 : decode cX7_choose 97 = .ok (.getfield 172, 3) := by decide +kernel
theorem dX7_choose_100 : decode cX7_choose 100 = .ok (.iload_n 3, 1) := by decide +kernel
theorem dX7_choose_101 : decode cX7_choose 101 = .ok (.invokestatic 95, 3) := by decide +kernel
theorem dX7_choose_104 : decode cX7_choose 104 = .ok (.iload 5, 2) := by decide +kernel
theorem dX7_choose_106 : decode cX7_choose 106 = .ok (.iand, 1) := by decide +kernel
theorem dX7_choose_107 : decode cX7_choose 107 = .ok (.ifCond .ne 8, 3) := by decide +kernel
theorem dX7_choose_110 : decode cX7_choose 110 = .ok (.iload_n 3, 1) := by decide +kernel
theorem dX7_choose_111 : decode cX7_choose 111 = .ok (.istore_n 1, 1) := by decide +kernel
theorem dX7_choose_112 : decode cX7_choose 112 = .ok (.goto 9, 3) := by decide +kernel
theorem dX7_choose_115 : decode cX7_choose 115 = .ok (.iinc 2 (-1), 3) := by decide +kernel
theorem dX7_choose_118 : decode cX7_choose 118 = .ok (.goto (-78), 3) := by decide +kernel
theorem dX7_choose_121 : decode cX7_choose 121 = .ok (.aload_n 0, 1) := by decide +kernel
theorem dX7_choose_122 : decode cX7_choose 122 = .ok (.iload_n 1, 1) := by decide +kernel
theorem dX7_choose_123 : decode cX7_choose 123 = .ok (.bipush 60, 2) := by decide +kernel
theorem dX7_choose_125 : decode cX7_choose 125 = .ok (.irem, 1) := by decide +kernel
theorem dX7_choose_126 : decode cX7_choose 126 = .ok (.putfield 118, 3) := by decide +kernel
theorem dX7_choose_129 : decode cX7_choose 129 = .ok (.aload_n 0, 1) := by decide +kernel
theorem dX7_choose_130 : decode cX7_choose 130 = .ok (.aload_n 0, 1) := by decide +kernel
theorem dX7_choose_131 : decode cX7_choose 131 = .ok (.aload_n 0, 1) := by decide +kernel
theorem dX7_choose_132 : decode cX7_choose 132 = .ok (.getfield 18, 3) := by decide +kernel
theorem dX7_choose_135 : decode cX7_choose 135 = .ok (.getfield 86, 3) := by decide +kernel
theorem dX7_choose_138 : decode cX7_choose 138 = .ok (.getfield 90, 3) := by decide +kernel
theorem dX7_choose_141 : decode cX7_choose 141 = .ok (.iload_n 1, 1) := by decide +kernel
theorem dX7_choose_142 : decode cX7_choose 142 = .ok (.invokestatic 95, 3) := by decide +kernel
theorem dX7_choose_145 : decode cX7_choose 145 = .ok (.aload_n 0, 1) := by decide +kernel
theorem dX7_choose_146 : decode cX7_choose 146 = .ok (.getfield 18, 3) := by decide +kernel
theorem dX7_choose_149 : decode cX7_choose 149 = .ok (.getfield 86, 3) := by decide +kernel
theorem dX7_choose_152 : decode cX7_choose 152 = .ok (.getfield 175, 3) := by decide +kernel
theorem dX7_choose_155 : decode cX7_choose 155 = .ok (.iload_n 1, 1) := by decide +kernel
theorem dX7_choose_156 : decode cX7_choose 156 = .ok (.invokestatic 95, 3) := by decide +kernel
theorem dX7_choose_159 : decode cX7_choose 159 = .ok (.invokevirtual 178, 3) := by decide +kernel
theorem dX7_choose_162 : decode cX7_choose 162 = .ok (.putfield 121, 3) := by decide +kernel
theorem dX7_choose_165 : decode cX7_choose 165 = .ok (.return_, 1) := by decide +kernel
set_option maxHeartbeats 4000000 in
set_option maxRecDepth 100000 in
theorem g_X7_choose (l : Launch) (G : xG) (S : yS) (d : yD) (h0 : Nat) (hSh : ySh S) (hPo : yPo S d) (hm_h0 : h0 ∈ S.1) (hk_h0 : S.2.1 h0 = 7) : xWv l G yX7_choose cX7_choose 6 none 1 23 0 0 [.ref h0] (yW G S d) (fun u : yD => yAg S [7, 22, 23] d u ∧ (yPo S d → yPo S u) ∧ (True)) (fun u => yW G S u) := by
  intro sz
  refine xstart (by decide) (Nat.le_of_ble_eq_true rfl) (fun p e s m args below meth c ls C0 hr hlocks hin hsz hP hK hD hN hl => ?_)
  obtain ⟨hx, hb, hml, hown, htl⟩ := id C0
  subst hsz
  have hD := hD.self (sz := s.heap.size)
  generalize hAe : va_A (yW G S d) s.heap.size = A at hD ⊢
  have hA : ∀ q : Nat, s.heap.size ≤ q → A q := fun q h => by rw [← hAe]; exact Or.inr h
  have hS : va_S A s.heap s.heap [] := va_S.rf
  have hg0 : yAg S [7, 22, 23] d d := yAg.rf
  have hl : lv_has ls 6 [(0, .ref h0)] := hl
  refine lv_aload_n hx hb dX7_choose_0 rfl (lv_at hl 0 rfl) ?_
  refine lv_bipush (v := (-2)) hx hb dX7_choose_1 (by decide) ?_
  refine yputI (ci := 7) (k := 17) (ty := .int) (C := RX7) (T := TX7) (N := 18) C0 hK hP hD hS hm_h0 hk_h0 (by decide) rfl inlX7 tyX7 tyX7_ok nmX7 (by decide) mW767 (fun _ h9 => h9) rfl (by decide +kernel) rfl rfl (Nat.le_of_ble_eq_true rfl) ysi_7_17 dX7_choose_3 (fun H locs hP hD hS => ?_)
  obtain ⟨d_1, ed_1⟩ : ∃ z : yD, z = yi d h0 17 (-2) := ⟨_, rfl⟩
  rw [← ed_1] at hP hD
  have hgd_1 : yAg S [7, 22, 23] d d_1 := by rw [ed_1]; exact yAg.i hg0 (by rw [hk_h0]; decide)
  have hPod_1 : yPo S d_1 := by rw [ed_1]; exact yPo.i hPo hk_h0 (Or.inl rfl)
  refine lv_aload_n hx hb dX7_choose_6 rfl (lv_at hl 0 rfl) ?_
  refine lv_iconst (v := 2) hx hb dX7_choose_7 (by decide) ?_
  refine yputI (ci := 7) (k := 16) (ty := .int) (C := RX7) (T := TX7) (N := 18) C0 hK hP hD hS hm_h0 hk_h0 (by decide) rfl inlX7 tyX7 tyX7_ok nmX7 (by decide) mW768 (fun _ h9 => h9) rfl (by decide +kernel) rfl rfl (Nat.le_of_ble_eq_true rfl) ysi_7_16 dX7_choose_8 (fun H locs hP hD hS => ?_)
  obtain ⟨d_2, ed_2⟩ : ∃ z : yD, z = yi d_1 h0 16 2 := ⟨_, rfl⟩
  rw [← ed_2] at hP hD
  have hgd_2 : yAg S [7, 22, 23] d d_2 := by rw [ed_2]; exact yAg.i hgd_1 (by rw [hk_h0]; decide)
  have hPod_2 : yPo S d_2 := by rw [ed_2]; exact yPo.i hPod_1 hk_h0 (Or.inl rfl)
  refine lv_aload_n hx hb dX7_choose_11 rfl (lv_at hl 0 rfl) ?_
  refine yget (ci := 7) (k := 4) (v := .int (d_2.1 h0 4)) (C := RX7) (T := TX7) (N := 18) C0 hK hP hm_h0 hk_h0 (by decide) rfl inlX7 (by decide) mW783 (fun _ h9 => h9) rfl dX7_choose_12 ?_
  refine lv_topi (fun z_3 ez_3 => ?_)
  refine lv_if_ne (tgt := 19) hx hb dX7_choose_15 (by decide) (fun c_4 => ?_) (fun c_4 => ?_)
  · refine lv_aload_n hx hb dX7_choose_19 rfl (lv_at hl 0 rfl) ?_
    refine yget (ci := 7) (k := 2) (v := .ref (S.2.2.1 h0 2)) (C := RX7) (T := TX7) (N := 18) C0 hK hP hm_h0 hk_h0 (by decide) rfl inlX7 (by decide) mW95 (fun _ h9 => h9) rfl dX7_choose_20 ?_
    obtain ⟨hmy_5, hky_5⟩ := ySh.f7_2 hSh _ hm_h0 hk_h0
    refine lv_aload_n hx hb dX7_choose_23 rfl (lv_at hl 0 rfl) ?_
    refine yget (ci := 7) (k := 4) (v := .int (d_2.1 h0 4)) (C := RX7) (T := TX7) (N := 18) C0 hK hP hm_h0 hk_h0 (by decide) rfl inlX7 (by decide) mW783 (fun _ h9 => h9) rfl dX7_choose_24 ?_
    refine lv_topi (fun z_6 ez_6 => ?_)
    refine lv_iconst (v := 1) hx hb dX7_choose_27 (by decide) ?_
    refine lv_isub hx hb dX7_choose_28 ?_
    refine lv_topi (fun z_7 ez_7 => ?_)
    refine ySNri (As := [.ref (S.2.2.1 h0 2), .int z_7]) (rest := []) C0 (g_X8_at l G S d_2 (S.2.2.1 h0 2) 23 z_7 hmy_5 hky_5 (by decide) rfl rfl (by decide)) ok_X8_at (xN.n12 hN) ⟨Nat.le_of_ble_eq_true rfl, Nat.le_of_ble_eq_true rfl⟩ hP hD hK hN rfl hl.1 rfl (Nat.le_of_ble_eq_true rfl) ⟨Nat.le_of_ble_eq_true rfl, Nat.le_of_ble_eq_true rfl⟩ dX7_choose_29 (fun r_8 hr_8 => ?_)
    refine lv_istore_n (lv' := [(1, .int r_8), (0, .ref h0)]) hx hb dX7_choose_32 rfl hl (by decide) rfl (fun ls hl => ?_)
    refine lv_aload_n hx hb dX7_choose_33 rfl (lv_at hl 1 rfl) ?_
    refine yget (ci := 7) (k := 4) (v := .int (d_2.1 h0 4)) (C := RX7) (T := TX7) (N := 18) C0 hK hP hm_h0 hk_h0 (by decide) rfl inlX7 (by decide) mW783 (fun _ h9 => h9) rfl dX7_choose_34 ?_
    refine lv_topi (fun z_9 ez_9 => ?_)
    refine lv_iconst (v := 1) hx hb dX7_choose_37 (by decide) ?_
    refine lv_isub hx hb dX7_choose_38 ?_
    refine lv_topi (fun z_10 ez_10 => ?_)
    refine lv_istore_n (lv' := [(2, .int z_10), (1, .int r_8), (0, .ref h0)]) hx hb dX7_choose_39 rfl hl (by decide) rfl (fun ls hl => ?_)
    refine yloop (σ := Int32 × yD) (fun x => ((x.1 : Int32).toInt + 2147483648).toNat) 40 (fun x H locs ls => va_P G.1 xcl (yW G S x.2) H ∧ va_D A (yW G S x.2) ∧ va_S A s.heap H locs ∧ yAg S [7, 22, 23] d x.2 ∧ yPo S x.2 ∧ lv_has ls 6 [(2, .int x.1), (1, .int r_8), (0, .ref h0)]) (fun x H locs ls hI hnext_13 => ?_) (z_10, d_2) ⟨hP, hD, hS, hgd_2, hPod_2, lv_sub hl [0, 1, 2] rfl⟩
    obtain ⟨v_11, d_12⟩ := x
    obtain ⟨hP, hD, hS, hgd_12, hPod_12, hl⟩ := hI
    have hl : lv_has ls 6 [(2, .int v_11), (1, .int r_8), (0, .ref h0)] := hl
    refine lv_iload_n hx hb dX7_choose_40 rfl (lv_at hl 0 rfl) ?_
    refine lv_if_lt (tgt := 121) hx hb dX7_choose_41 (by decide) (fun c_15 => ?_) (fun c_15 => ?_)
    · refine lv_aload_n hx hb dX7_choose_121 rfl (lv_at hl 2 rfl) ?_
      refine lv_iload_n hx hb dX7_choose_122 rfl (lv_at hl 1 rfl) ?_
      refine lv_bipush (v := 60) hx hb dX7_choose_123 (by decide) ?_
      refine lv_irem hx hb dX7_choose_125 (by decide) ?_
      refine lv_topi (fun z_16 ez_16 => ?_)
      refine yputI (ci := 7) (k := 17) (ty := .int) (C := RX7) (T := TX7) (N := 18) C0 hK hP hD hS hm_h0 hk_h0 (by decide) rfl inlX7 tyX7 tyX7_ok nmX7 (by decide) mW767 (fun _ h9 => h9) rfl (by decide +kernel) rfl rfl (Nat.le_of_ble_eq_true rfl) ysi_7_17 dX7_choose_126 (fun H locs hP hD hS => ?_)
      obtain ⟨d_17, ed_17⟩ : ∃ z : yD, z = yi d_12 h0 17 z_16 := ⟨_, rfl⟩
      rw [← ed_17] at hP hD
      have hgd_17 : yAg S [7, 22, 23] d d_17 := by rw [ed_17]; exact yAg.i hgd_12 (by rw [hk_h0]; decide)
      have hPod_17 : yPo S d_17 := by rw [ed_17]; exact yPo.i hPod_12 hk_h0 (Or.inl rfl)
      refine lv_aload_n hx hb dX7_choose_129 rfl (lv_at hl 2 rfl) ?_
      refine lv_aload_n hx hb dX7_choose_130 rfl (lv_at hl 2 rfl) ?_
      refine lv_aload_n hx hb dX7_choose_131 rfl (lv_at hl 2 rfl) ?_
      refine yget (ci := 7) (k := 0) (v := .ref (S.2.2.1 h0 0)) (C := RX7) (T := TX7) (N := 18) C0 hK hP hm_h0 hk_h0 (by decide) rfl inlX7 (by decide) mW96 (fun _ h9 => h9) rfl dX7_choose_132 ?_
      obtain ⟨hmy_18, hky_18⟩ := ySh.f7_0 hSh _ hm_h0 hk_h0
      refine yget (ci := 0) (k := 0) (v := .ref (S.2.2.1 (S.2.2.1 h0 0) 0)) (C := RX0) (T := TX0) (N := 6) C0 hK hP hmy_18 hky_18 (by decide) rfl inlX0 (by decide) mW755 (fun _ h9 => h9) rfl dX7_choose_135 ?_
      obtain ⟨hmy_19, hky_19⟩ := ySh.f0_0 hSh _ hmy_18 hky_18
      refine yget (ci := 6) (k := 0) (v := .ref (S.2.2.1 (S.2.2.1 (S.2.2.1 h0 0) 0) 0)) (C := RX6) (T := TX6) (N := 7) C0 hK hP hmy_19 hky_19 (by decide) rfl inlX6 (by decide) mW756 (fun _ h9 => h9) rfl dX7_choose_138 ?_
      obtain ⟨hmy_20, hky_20⟩ := ySh.f6_0 hSh _ hmy_19 hky_19
      refine lv_iload_n hx hb dX7_choose_141 rfl (lv_at hl 1 rfl) ?_
      refine ySNri (As := [.ref (S.2.2.1 (S.2.2.1 (S.2.2.1 h0 0) 0) 0), .int r_8]) (rest := [.ref h0, .ref h0]) C0 (g_X8_at l G S d_17 (S.2.2.1 (S.2.2.1 (S.2.2.1 h0 0) 0) 0) 10 r_8 hmy_20 hky_20 (by decide) rfl rfl (by decide)) ok_X8_at (xN.n12 hN) ⟨Nat.le_of_ble_eq_true rfl, Nat.le_of_ble_eq_true rfl⟩ hP hD hK hN rfl hl.1 rfl (Nat.le_of_ble_eq_true rfl) ⟨Nat.le_of_ble_eq_true rfl, Nat.le_of_ble_eq_true rfl⟩ dX7_choose_142 (fun r_21 hr_21 => ?_)
      refine lv_aload_n hx hb dX7_choose_145 rfl (lv_at hl 2 rfl) ?_
      refine yget (ci := 7) (k := 0) (v := .ref (S.2.2.1 h0 0)) (C := RX7) (T := TX7) (N := 18) C0 hK hP hm_h0 hk_h0 (by decide) rfl inlX7 (by decide) mW96 (fun _ h9 => h9) rfl dX7_choose_146 ?_
      refine yget (ci := 0) (k := 0) (v := .ref (S.2.2.1 (S.2.2.1 h0 0) 0)) (C := RX0) (T := TX0) (N := 6) C0 hK hP hmy_18 hky_18 (by decide) rfl inlX0 (by decide) mW755 (fun _ h9 => h9) rfl dX7_choose_149 ?_
      refine yget (ci := 6) (k := 5) (v := .ref (S.2.2.1 (S.2.2.1 (S.2.2.1 h0 0) 0) 5)) (C := RX6) (T := TX6) (N := 7) C0 hK hP hmy_19 hky_19 (by decide) rfl inlX6 (by decide) mW803 (fun _ h9 => h9) rfl dX7_choose_152 ?_
      obtain ⟨hmy_22, hky_22⟩ := ySh.f6_5 hSh _ hmy_19 hky_19
      refine lv_iload_n hx hb dX7_choose_155 rfl (lv_at hl 1 rfl) ?_
      refine ySNri (As := [.ref (S.2.2.1 (S.2.2.1 (S.2.2.1 h0 0) 0) 5), .int r_8]) (rest := [.int r_21, .ref h0, .ref h0]) C0 (g_X8_at l G S d_17 (S.2.2.1 (S.2.2.1 (S.2.2.1 h0 0) 0) 5) 15 r_8 hmy_22 hky_22 (by decide) rfl rfl (by decide)) ok_X8_at (xN.n12 hN) ⟨Nat.le_of_ble_eq_true rfl, Nat.le_of_ble_eq_true rfl⟩ hP hD hK hN rfl hl.1 rfl (Nat.le_of_ble_eq_true rfl) ⟨Nat.le_of_ble_eq_true rfl, Nat.le_of_ble_eq_true rfl⟩ dX7_choose_156 (fun r_23 hr_23 => ?_)
      refine yVri (As := [.int r_21, .int r_23]) (rest := [.ref h0]) C0 (g_X7_halvesBy l G S d_17 h0 r_21 r_23 hSh hm_h0 hk_h0) ok_X7_halvesBy (mW804 : Cond.methodLink RX7 178 yX7_halvesBy ∈ wsT) ⟨Nat.le_of_ble_eq_true rfl, Nat.le_of_ble_eq_true rfl⟩ hP hD hK hN hm_h0 hk_h0 (by decide) rfl rfl rfl hl.1 rfl (Nat.le_of_ble_eq_true rfl) ⟨Nat.le_of_ble_eq_true rfl, Nat.le_of_ble_eq_true rfl⟩ dX7_choose_159 (fun r_24 hr_24 => ?_)
      refine yputI (ci := 7) (k := 16) (ty := .int) (C := RX7) (T := TX7) (N := 18) C0 hK hP hD hS hm_h0 hk_h0 (by decide) rfl inlX7 tyX7 tyX7_ok nmX7 (by decide) mW768 (fun _ h9 => h9) rfl (by decide +kernel) rfl rfl (Nat.le_of_ble_eq_true rfl) ysi_7_16 dX7_choose_162 (fun H locs hP hD hS => ?_)
      obtain ⟨d_25, ed_25⟩ : ∃ z : yD, z = yi d_17 h0 16 r_24 := ⟨_, rfl⟩
      rw [← ed_25] at hP hD
      have hgd_25 : yAg S [7, 22, 23] d d_25 := by rw [ed_25]; exact yAg.i hgd_17 (by rw [hk_h0]; decide)
      have hPod_25 : yPo S d_25 := by rw [ed_25]; exact yPo.i hPod_17 hk_h0 (Or.inl rfl)
      exact W.vret hx hb hr (fun t ht hW => ⟨⟨d_25, rfl, ⟨hgd_25, (fun _ => hPod_25), trivial⟩, by rw [ht]; exact hP, hD⟩, hS.F ht⟩) hS.2.2 dX7_choose_165
    · refine lv_aload_n hx hb dX7_choose_44 rfl (lv_at hl 2 rfl) ?_
      refine yget (ci := 7) (k := 2) (v := .ref (S.2.2.1 h0 2)) (C := RX7) (T := TX7) (N := 18) C0 hK hP hm_h0 hk_h0 (by decide) rfl inlX7 (by decide) mW95 (fun _ h9 => h9) rfl dX7_choose_45 ?_
      refine lv_iload_n hx hb dX7_choose_48 rfl (lv_at hl 0 rfl) ?_
      refine ySNri (As := [.ref (S.2.2.1 h0 2), .int v_11]) (rest := []) C0 (g_X8_at l G S d_12 (S.2.2.1 h0 2) 23 v_11 hmy_5 hky_5 (by decide) rfl rfl (by decide)) ok_X8_at (xN.n12 hN) ⟨Nat.le_of_ble_eq_true rfl, Nat.le_of_ble_eq_true rfl⟩ hP hD hK hN rfl hl.1 rfl (Nat.le_of_ble_eq_true rfl) ⟨Nat.le_of_ble_eq_true rfl, Nat.le_of_ble_eq_true rfl⟩ dX7_choose_49 (fun r_26 hr_26 => ?_)
      refine lv_istore_n (lv' := [(3, .int r_26), (2, .int v_11), (1, .int r_8), (0, .ref h0)]) hx hb dX7_choose_52 rfl hl (by decide) rfl (fun ls hl => ?_)
      refine lv_iconst (v := 1) hx hb dX7_choose_53 (by decide) ?_
      refine lv_aload_n hx hb dX7_choose_54 rfl (lv_at hl 3 rfl) ?_
      refine yget (ci := 7) (k := 0) (v := .ref (S.2.2.1 h0 0)) (C := RX7) (T := TX7) (N := 18) C0 hK hP hm_h0 hk_h0 (by decide) rfl inlX7 (by decide) mW96 (fun _ h9 => h9) rfl dX7_choose_55 ?_
      obtain ⟨hmy_27, hky_27⟩ := ySh.f7_0 hSh _ hm_h0 hk_h0
      refine yget (ci := 0) (k := 0) (v := .ref (S.2.2.1 (S.2.2.1 h0 0) 0)) (C := RX0) (T := TX0) (N := 6) C0 hK hP hmy_27 hky_27 (by decide) rfl inlX0 (by decide) mW755 (fun _ h9 => h9) rfl dX7_choose_58 ?_
      obtain ⟨hmy_28, hky_28⟩ := ySh.f0_0 hSh _ hmy_27 hky_27
      refine yget (ci := 6) (k := 0) (v := .ref (S.2.2.1 (S.2.2.1 (S.2.2.1 h0 0) 0) 0)) (C := RX6) (T := TX6) (N := 7) C0 hK hP hmy_28 hky_28 (by decide) rfl inlX6 (by decide) mW756 (fun _ h9 => h9) rfl dX7_choose_61 ?_
      obtain ⟨hmy_29, hky_29⟩ := ySh.f6_0 hSh _ hmy_28 hky_28
      refine lv_iload_n hx hb dX7_choose_64 rfl (lv_at hl 0 rfl) ?_
      refine ySNri (As := [.ref (S.2.2.1 (S.2.2.1 (S.2.2.1 h0 0) 0) 0), .int r_26]) (rest := [.int 1]) C0 (g_X8_at l G S d_12 (S.2.2.1 (S.2.2.1 (S.2.2.1 h0 0) 0) 0) 10 r_26 hmy_29 hky_29 (by decide) rfl rfl (by decide)) ok_X8_at (xN.n12 hN) ⟨Nat.le_of_ble_eq_true rfl, Nat.le_of_ble_eq_true rfl⟩ hP hD hK hN rfl hl.1 rfl (Nat.le_of_ble_eq_true rfl) ⟨Nat.le_of_ble_eq_true rfl, Nat.le_of_ble_eq_true rfl⟩ dX7_choose_65 (fun r_30 hr_30 => ?_)
      refine lv_ishl hx hb dX7_choose_68 ?_
      refine lv_topi (fun z_31 ez_31 => ?_)
      refine lv_istore (lv' := [(4, .int z_31), (3, .int r_26), (2, .int v_11), (1, .int r_8), (0, .ref h0)]) hx hb dX7_choose_69 hl (by decide) rfl (fun ls hl => ?_)
      refine lv_aload_n hx hb dX7_choose_71 rfl (lv_at hl 4 rfl) ?_
      refine yget (ci := 7) (k := 5) (v := .int (d_12.1 h0 5)) (C := RX7) (T := TX7) (N := 18) C0 hK hP hm_h0 hk_h0 (by decide) rfl inlX7 (by decide) mW784 (fun _ h9 => h9) rfl dX7_choose_72 ?_
      refine lv_topi (fun z_32 ez_32 => ?_)
      refine lv_iload hx hb dX7_choose_75 (lv_at hl 0 rfl) ?_
      refine lv_iconst (v := (-1)) hx hb dX7_choose_77 (by decide) ?_
      refine lv_ixor hx hb dX7_choose_78 ?_
      refine lv_topi (fun z_33 ez_33 => ?_)
      refine lv_iand hx hb dX7_choose_79 ?_
      refine lv_topi (fun z_34 ez_34 => ?_)
      refine lv_aload_n hx hb dX7_choose_80 rfl (lv_at hl 4 rfl) ?_
      refine yget (ci := 7) (k := 6) (v := .int (d_12.1 h0 6)) (C := RX7) (T := TX7) (N := 18) C0 hK hP hm_h0 hk_h0 (by decide) rfl inlX7 (by decide) mW785 (fun _ h9 => h9) rfl dX7_choose_81 ?_
      refine lv_topi (fun z_35 ez_35 => ?_)
      refine lv_iload hx hb dX7_choose_84 (lv_at hl 0 rfl) ?_
      refine lv_iand hx hb dX7_choose_86 ?_
      refine lv_topi (fun z_36 ez_36 => ?_)
      refine lv_ior hx hb dX7_choose_87 ?_
      refine lv_topi (fun z_37 ez_37 => ?_)
      refine lv_istore (lv' := [(5, .int z_37), (4, .int z_31), (3, .int r_26), (2, .int v_11), (1, .int r_8), (0, .ref h0)]) hx hb dX7_choose_88 hl (by decide) rfl (fun ls hl => ?_)
      refine lv_aload_n hx hb dX7_choose_90 rfl (lv_at hl 5 rfl) ?_
      refine yget (ci := 7) (k := 0) (v := .ref (S.2.2.1 h0 0)) (C := RX7) (T := TX7) (N := 18) C0 hK hP hm_h0 hk_h0 (by decide) rfl inlX7 (by decide) mW96 (fun _ h9 => h9) rfl dX7_choose_91 ?_
      refine yget (ci := 0) (k := 0) (v := .ref (S.2.2.1 (S.2.2.1 h0 0) 0)) (C := RX0) (T := TX0) (N := 6) C0 hK hP hmy_27 hky_27 (by decide) rfl inlX0 (by decide) mW755 (fun _ h9 => h9) rfl dX7_choose_94 ?_
      refine yget (ci := 6) (k := 4) (v := .ref (S.2.2.1 (S.2.2.1 (S.2.2.1 h0 0) 0) 4)) (C := RX6) (T := TX6) (N := 7) C0 hK hP hmy_28 hky_28 (by decide) rfl inlX6 (by decide) mW802 (fun _ h9 => h9) rfl dX7_choose_97 ?_
      obtain ⟨hmy_38, hky_38⟩ := ySh.f6_4 hSh _ hmy_28 hky_28
      refine lv_iload_n hx hb dX7_choose_100 rfl (lv_at hl 2 rfl) ?_
      refine ySNri (As := [.ref (S.2.2.1 (S.2.2.1 (S.2.2.1 h0 0) 0) 4), .int r_26]) (rest := []) C0 (g_X8_at l G S d_12 (S.2.2.1 (S.2.2.1 (S.2.2.1 h0 0) 0) 4) 14 r_26 hmy_38 hky_38 (by decide) rfl rfl (by decide)) ok_X8_at (xN.n12 hN) ⟨Nat.le_of_ble_eq_true rfl, Nat.le_of_ble_eq_true rfl⟩ hP hD hK hN rfl hl.1 rfl (Nat.le_of_ble_eq_true rfl) ⟨Nat.le_of_ble_eq_true rfl, Nat.le_of_ble_eq_true rfl⟩ dX7_choose_101 (fun r_39 hr_39 => ?_)
      refine lv_iload hx hb dX7_choose_104 (lv_at hl 0 rfl) ?_
      refine lv_iand hx hb dX7_choose_106 ?_
      refine lv_topi (fun z_40 ez_40 => ?_)
      refine lv_if_ne (tgt := 115) hx hb dX7_choose_107 (by decide) (fun c_41 => ?_) (fun c_41 => ?_)
      · refine lv_iinc (v := v_11 + (-1)) (lv' := [(2, .int (v_11 + (-1))), (5, .int z_37), (4, .int z_31), (3, .int r_26), (1, .int r_8), (0, .ref h0)]) hx hb dX7_choose_115 hl (k := 3) rfl rfl (by decide) rfl (fun ls hl => ?_)
        refine lv_goto (tgt := 40) hx hb dX7_choose_118 (by decide) ?_
        exact hnext_13 (v_11 + (-1), d_12) _ _ ls (xdn c_15 (by decide +kernel)) ⟨hP, hD, hS, hgd_12, hPod_12, lv_sub hl [0, 4, 5] rfl⟩
      · refine lv_iload_n hx hb dX7_choose_110 rfl (lv_at hl 2 rfl) ?_
        refine lv_istore_n (lv' := [(1, .int r_26), (5, .int z_37), (4, .int z_31), (3, .int r_26), (2, .int v_11), (0, .ref h0)]) hx hb dX7_choose_111 rfl hl (by decide) rfl (fun ls hl => ?_)
        refine lv_goto (tgt := 121) hx hb dX7_choose_112 (by decide) ?_
        refine lv_aload_n hx hb dX7_choose_121 rfl (lv_at hl 5 rfl) ?_
        refine lv_iload_n hx hb dX7_choose_122 rfl (lv_at hl 0 rfl) ?_
        refine lv_bipush (v := 60) hx hb dX7_choose_123 (by decide) ?_
        refine lv_irem hx hb dX7_choose_125 (by decide) ?_
        refine lv_topi (fun z_43 ez_43 => ?_)
        refine yputI (ci := 7) (k := 17) (ty := .int) (C := RX7) (T := TX7) (N := 18) C0 hK hP hD hS hm_h0 hk_h0 (by decide) rfl inlX7 tyX7 tyX7_ok nmX7 (by decide) mW767 (fun _ h9 => h9) rfl (by decide +kernel) rfl rfl (Nat.le_of_ble_eq_true rfl) ysi_7_17 dX7_choose_126 (fun H locs hP hD hS => ?_)
        obtain ⟨d_44, ed_44⟩ : ∃ z : yD, z = yi d_12 h0 17 z_43 := ⟨_, rfl⟩
        rw [← ed_44] at hP hD
        have hgd_44 : yAg S [7, 22, 23] d d_44 := by rw [ed_44]; exact yAg.i hgd_12 (by rw [hk_h0]; decide)
        have hPod_44 : yPo S d_44 := by rw [ed_44]; exact yPo.i hPod_12 hk_h0 (Or.inl rfl)
        refine lv_aload_n hx hb dX7_choose_129 rfl (lv_at hl 5 rfl) ?_
        refine lv_aload_n hx hb dX7_choose_130 rfl (lv_at hl 5 rfl) ?_
        refine lv_aload_n hx hb dX7_choose_131 rfl (lv_at hl 5 rfl) ?_
        refine yget (ci := 7) (k := 0) (v := .ref (S.2.2.1 h0 0)) (C := RX7) (T := TX7) (N := 18) C0 hK hP hm_h0 hk_h0 (by decide) rfl inlX7 (by decide) mW96 (fun _ h9 => h9) rfl dX7_choose_132 ?_
        refine yget (ci := 0) (k := 0) (v := .ref (S.2.2.1 (S.2.2.1 h0 0) 0)) (C := RX0) (T := TX0) (N := 6) C0 hK hP hmy_27 hky_27 (by decide) rfl inlX0 (by decide) mW755 (fun _ h9 => h9) rfl dX7_choose_135 ?_
        refine yget (ci := 6) (k := 0) (v := .ref (S.2.2.1 (S.2.2.1 (S.2.2.1 h0 0) 0) 0)) (C := RX6) (T := TX6) (N := 7) C0 hK hP hmy_28 hky_28 (by decide) rfl inlX6 (by decide) mW756 (fun _ h9 => h9) rfl dX7_choose_138 ?_
        refine lv_iload_n hx hb dX7_choose_141 rfl (lv_at hl 0 rfl) ?_
        refine ySNri (As := [.ref (S.2.2.1 (S.2.2.1 (S.2.2.1 h0 0) 0) 0), .int r_26]) (rest := [.ref h0, .ref h0]) C0 (g_X8_at l G S d_44 (S.2.2.1 (S.2.2.1 (S.2.2.1 h0 0) 0) 0) 10 r_26 hmy_29 hky_29 (by decide) rfl rfl (by decide)) ok_X8_at (xN.n12 hN) ⟨Nat.le_of_ble_eq_true rfl, Nat.le_of_ble_eq_true rfl⟩ hP hD hK hN rfl hl.1 rfl (Nat.le_of_ble_eq_true rfl) ⟨Nat.le_of_ble_eq_true rfl, Nat.le_of_ble_eq_true rfl⟩ dX7_choose_142 (fun r_45 hr_45 => ?_)
        refine lv_aload_n hx hb dX7_choose_145 rfl (lv_at hl 5 rfl) ?_
        refine yget (ci := 7) (k := 0) (v := .ref (S.2.2.1 h0 0)) (C := RX7) (T := TX7) (N := 18) C0 hK hP hm_h0 hk_h0 (by decide) rfl inlX7 (by decide) mW96 (fun _ h9 => h9) rfl dX7_choose_146 ?_
        refine yget (ci := 0) (k := 0) (v := .ref (S.2.2.1 (S.2.2.1 h0 0) 0)) (C := RX0) (T := TX0) (N := 6) C0 hK hP hmy_27 hky_27 (by decide) rfl inlX0 (by decide) mW755 (fun _ h9 => h9) rfl dX7_choose_149 ?_
        refine yget (ci := 6) (k := 5) (v := .ref (S.2.2.1 (S.2.2.1 (S.2.2.1 h0 0) 0) 5)) (C := RX6) (T := TX6) (N := 7) C0 hK hP hmy_28 hky_28 (by decide) rfl inlX6 (by decide) mW803 (fun _ h9 => h9) rfl dX7_choose_152 ?_
        obtain ⟨hmy_46, hky_46⟩ := ySh.f6_5 hSh _ hmy_28 hky_28
        refine lv_iload_n hx hb dX7_choose_155 rfl (lv_at hl 0 rfl) ?_
        refine ySNri (As := [.ref (S.2.2.1 (S.2.2.1 (S.2.2.1 h0 0) 0) 5), .int r_26]) (rest := [.int r_45, .ref h0, .ref h0]) C0 (g_X8_at l G S d_44 (S.2.2.1 (S.2.2.1 (S.2.2.1 h0 0) 0) 5) 15 r_26 hmy_46 hky_46 (by decide) rfl rfl (by decide)) ok_X8_at (xN.n12 hN) ⟨Nat.le_of_ble_eq_true rfl, Nat.le_of_ble_eq_true rfl⟩ hP hD hK hN rfl hl.1 rfl (Nat.le_of_ble_eq_true rfl) ⟨Nat.le_of_ble_eq_true rfl, Nat.le_of_ble_eq_true rfl⟩ dX7_choose_156 (fun r_47 hr_47 => ?_)
        refine yVri (As := [.int r_45, .int r_47]) (rest := [.ref h0]) C0 (g_X7_halvesBy l G S d_44 h0 r_45 r_47 hSh hm_h0 hk_h0) ok_X7_halvesBy (mW804 : Cond.methodLink RX7 178 yX7_halvesBy ∈ wsT) ⟨Nat.le_of_ble_eq_true rfl, Nat.le_of_ble_eq_true rfl⟩ hP hD hK hN hm_h0 hk_h0 (by decide) rfl rfl rfl hl.1 rfl (Nat.le_of_ble_eq_true rfl) ⟨Nat.le_of_ble_eq_true rfl, Nat.le_of_ble_eq_true rfl⟩ dX7_choose_159 (fun r_48 hr_48 => ?_)
        refine yputI (ci := 7) (k := 16) (ty := .int) (C := RX7) (T := TX7) (N := 18) C0 hK hP hD hS hm_h0 hk_h0 (by decide) rfl inlX7 tyX7 tyX7_ok nmX7 (by decide) mW768 (fun _ h9 => h9) rfl (by decide +kernel) rfl rfl (Nat.le_of_ble_eq_true rfl) ysi_7_16 dX7_choose_162 (fun H locs hP hD hS => ?_)
        obtain ⟨d_49, ed_49⟩ : ∃ z : yD, z = yi d_44 h0 16 r_48 := ⟨_, rfl⟩
        rw [← ed_49] at hP hD
        have hgd_49 : yAg S [7, 22, 23] d d_49 := by rw [ed_49]; exact yAg.i hgd_44 (by rw [hk_h0]; decide)
        have hPod_49 : yPo S d_49 := by rw [ed_49]; exact yPo.i hPod_44 hk_h0 (Or.inl rfl)
        exact W.vret hx hb hr (fun t ht hW => ⟨⟨d_49, rfl, ⟨hgd_49, (fun _ => hPod_49), trivial⟩, by rw [ht]; exact hP, hD⟩, hS.F ht⟩) hS.2.2 dX7_choose_165
  · exact W.vret hx hb hr (fun t ht hW => ⟨⟨d_2, rfl, ⟨hgd_2, (fun _ => hPod_2), trivial⟩, by rw [ht]; exact hP, hD⟩, hS.F ht⟩) hS.2.2 dX7_choose_18
theorem dX7_readEvents_0 : decode cX7_readEvents 0 = .ok (.aload_n 0, 1) := by decide +kernel
theorem dX7_readEvents_1 : decode cX7_readEvents 1 = .ok (.getfield 62, 3) := by decide +kernel
theorem dX7_readEvents_4 : decode cX7_readEvents 4 = .ok (.aload_n 0, 1) := by decide +kernel
theorem dX7_readEvents_5 : decode cX7_readEvents 5 = .ok (.getfield 66, 3) := by decide +kernel
theorem dX7_readEvents_8 : decode cX7_readEvents 8 = .ok (.if_icmp .ge 79, 3) := by decide +kernel
theorem dX7_readEvents_11 : decode cX7_readEvents 11 = .ok (.aload_n 0, 1) := by decide +kernel
theorem dX7_readEvents_12 : decode cX7_readEvents 12 = .ok (.getfield 18, 3) := by decide +kernel
theorem dX7_readEvents_15 : decode cX7_readEvents 15 = .ok (.getfield 52, 3) := by decide +kernel
theorem dX7_readEvents_18 : decode cX7_readEvents 18 = .ok (.aload_n 0, 1) := by decide +kernel
theorem dX7_readEvents_19 : decode cX7_readEvents 19 = .ok (.getfield 62, 3) := by decide +kernel
theorem dX7_readEvents_22 : decode cX7_readEvents 22 = .ok (.invokevirtual 153, 3) := by decide +kernel
theorem dX7_readEvents_25 : decode cX7_readEvents 25 = .ok (.istore_n 1, 1) := by decide +kernel
theorem dX7_readEvents_26 : decode cX7_readEvents 26 = .ok (.iload_n 1, 1) := by decide +kernel
theorem dX7_readEvents_27 : decode cX7_readEvents 27 = .ok (.aload_n 0, 1) := by decide +kernel
theorem dX7_readEvents_28 : decode cX7_readEvents 28 = .ok (.getfield 35, 3) := by decide +kernel
theorem dX7_readEvents_31 : decode cX7_readEvents 31 = .ok (.if_icmp .le 9, 3) := by decide +kernel
theorem dX7_readEvents_34 : decode cX7_readEvents 34 = .ok (.aload_n 0, 1) := by decide +kernel
theorem dX7_readEvents_35 : decode cX7_readEvents 35 = .ok (.iload_n 1, 1) := by decide +kernel
theorem dX7_readEvents_36 : decode cX7_readEvents 36 = .ok (.invokevirtual 127, 3) := by decide +kernel
theorem dX7_readEvents_39 : decode cX7_readEvents 39 = .ok (.return_, 1) := by decide +kernel
theorem dX7_readEvents_40 : decode cX7_readEvents 40 = .ok (.aload_n 0, 1) := by decide +kernel
theorem dX7_readEvents_41 : decode cX7_readEvents 41 = .ok (.getfield 18, 3) := by decide +kernel
theorem dX7_readEvents_44 : decode cX7_readEvents 44 = .ok (.getfield 52, 3) := by decide +kernel
theorem dX7_readEvents_47 : decode cX7_readEvents 47 = .ok (.aload_n 0, 1) := by decide +kernel
theorem dX7_readEvents_48 : decode cX7_readEvents 48 = .ok (.getfield 62, 3) := by decide +kernel
theorem dX7_readEvents_51 : decode cX7_readEvents 51 = .ok (.invokevirtual 157, 3) := by decide +kernel
theorem dX7_readEvents_54 : decode cX7_readEvents 54 = .ok (.istore_n 2, 1) := by decide +kernel
theorem dX7_readEvents_55 : decode cX7_readEvents 55 = .ok (.iload_n 2, 1) := by decide +kernel
theorem dX7_readEvents_56 : decode cX7_readEvents 56 = .ok (.iconst 3, 1) := by decide +kernel
theorem dX7_readEvents_57 : decode cX7_readEvents 57 = .ok (.bipush 6, 2) := by decide +kernel
theorem dX7_readEvents_59 : decode cX7_readEvents 59 = .ok (.invokestatic 99, 3) := by decide +kernel
theorem dX7_readEvents_62 : decode cX7_readEvents 62 = .ok (.ifCond .eq 12, 3) := by decide +kernel
theorem dX7_readEvents_65 : decode cX7_readEvents 65 = .ok (.aload_n 0, 1) := by decide +kernel
theorem dX7_readEvents_66 : decode cX7_readEvents 66 = .ok (.iload_n 2, 1) := by decide +kernel
theorem dX7_readEvents_67 : decode cX7_readEvents 67 = .ok (.iconst 3, 1) := by decide +kernel
theorem dX7_readEvents_68 : decode cX7_readEvents 68 = .ok (.isub, 1) := by decide +kernel
theorem dX7_readEvents_69 : decode cX7_readEvents 69 = .ok (.iconst 1, 1) := by decide +kernel
theorem dX7_readEvents_70 : decode cX7_readEvents 70 = .ok (.iadd, 1) := by decide +kernel
theorem dX7_readEvents_71 : decode cX7_readEvents 71 = .ok (.putfield 72, 3) := by decide +kernel
theorem dX7_readEvents_74 : decode cX7_readEvents 74 = .ok (.aload_n 0, 1) := by decide +kernel
theorem dX7_readEvents_75 : decode cX7_readEvents 75 = .ok (.dup, 1) := by decide +kernel
theorem dX7_readEvents_76 : decode cX7_readEvents 76 = .ok (.getfield 62, 3) := by decide +kernel
theorem dX7_readEvents_79 : decode cX7_readEvents 79 = .ok (.iconst 1, 1) := by decide +kernel
theorem dX7_readEvents_80 : decode cX7_readEvents 80 = .ok (.iadd, 1) := by decide +kernel
theorem dX7_readEvents_81 : decode cX7_readEvents 81 = .ok (.putfield 62, 3) := by decide +kernel
theorem dX7_readEvents_84 : decode cX7_readEvents 84 = .ok (.goto (-84), 3) := by decide +kernel
theorem dX7_readEvents_87 : decode cX7_readEvents 87 = .ok (.return_, 1) := by decide +kernel
set_option maxHeartbeats 4000000 in
set_option maxRecDepth 100000 in
theorem g_X7_readEvents (l : Launch) (G : xG) (S : yS) (d : yD) (h0 : Nat) (hSh : ySh S) (hPo : yPo S d) (hm_h0 : h0 ∈ S.1) (hk_h0 : S.2.1 h0 = 7) : xWv l G yX7_readEvents cX7_readEvents 3 none 2 42 0 0 [.ref h0] (yW G S d) (fun u : yD => yAg S [7, 22, 23] d u ∧ (yPo S d → yPo S u) ∧ (True)) (fun u => yW G S u) := by
  intro sz
  refine xstart (by decide) (Nat.le_of_ble_eq_true rfl) (fun p e s m args below meth c ls C0 hr hlocks hin hsz hP hK hD hN hl => ?_)
  obtain ⟨hx, hb, hml, hown, htl⟩ := id C0
  subst hsz
  have hD := hD.self (sz := s.heap.size)
  generalize hAe : va_A (yW G S d) s.heap.size = A at hD ⊢
  have hA : ∀ q : Nat, s.heap.size ≤ q → A q := fun q h => by rw [← hAe]; exact Or.inr h
  have hS : va_S A s.heap s.heap [] := va_S.rf
  have hg0 : yAg S [7, 22, 23] d d := yAg.rf
  have hl : lv_has ls 3 [(0, .ref h0)] := hl
  refine yloop (σ := yD) (fun x => (2147483647 - (x.1 h0 13).toInt).toNat) 0 (fun x H locs ls => va_P G.1 xcl (yW G S x) H ∧ va_D A (yW G S x) ∧ va_S A s.heap H locs ∧ yAg S [7, 22, 23] d x ∧ yPo S x ∧ lv_has ls 3 [(0, .ref h0)]) (fun x H locs ls hI hnext_2 => ?_) d ⟨hP, hD, hS, hg0, hPo, lv_sub hl [0] rfl⟩
  obtain ⟨d_1, rfl⟩ : ∃ z, z = x := ⟨_, rfl⟩
  obtain ⟨hP, hD, hS, hgd_1, hPod_1, hl⟩ := hI
  have hl : lv_has ls 3 [(0, .ref h0)] := hl
  refine lv_aload_n hx hb dX7_readEvents_0 rfl (lv_at hl 0 rfl) ?_
  refine yget (ci := 7) (k := 13) (v := .int (d_1.1 h0 13)) (C := RX7) (T := TX7) (N := 18) C0 hK hP hm_h0 hk_h0 (by decide) rfl inlX7 (by decide) mW749 (fun _ h9 => h9) rfl dX7_readEvents_1 ?_
  refine lv_topi (fun z_4 ez_4 => ?_)
  refine lv_aload_n hx hb dX7_readEvents_4 rfl (lv_at hl 0 rfl) ?_
  refine yget (ci := 7) (k := 14) (v := .int (d_1.1 h0 14)) (C := RX7) (T := TX7) (N := 18) C0 hK hP hm_h0 hk_h0 (by decide) rfl inlX7 (by decide) mW751 (fun _ h9 => h9) rfl dX7_readEvents_5 ?_
  refine lv_topi (fun z_5 ez_5 => ?_)
  refine lv_icmp_ge (tgt := 87) hx hb dX7_readEvents_8 (by decide) (fun c_6 => ?_) (fun c_6 => ?_)
  · exact W.vret hx hb hr (fun t ht hW => ⟨⟨d_1, rfl, ⟨hgd_1, (fun _ => hPod_1), trivial⟩, by rw [ht]; exact hP, hD⟩, hS.F ht⟩) hS.2.2 dX7_readEvents_87
  · refine lv_aload_n hx hb dX7_readEvents_11 rfl (lv_at hl 0 rfl) ?_
    refine yget (ci := 7) (k := 0) (v := .ref (S.2.2.1 h0 0)) (C := RX7) (T := TX7) (N := 18) C0 hK hP hm_h0 hk_h0 (by decide) rfl inlX7 (by decide) mW96 (fun _ h9 => h9) rfl dX7_readEvents_12 ?_
    obtain ⟨hmy_7, hky_7⟩ := ySh.f7_0 hSh _ hm_h0 hk_h0
    refine yget (ci := 0) (k := 1) (v := .ref (S.2.2.1 (S.2.2.1 h0 0) 1)) (C := RX0) (T := TX0) (N := 6) C0 hK hP hmy_7 hky_7 (by decide) rfl inlX0 (by decide) mW748 (fun _ h9 => h9) rfl dX7_readEvents_15 ?_
    obtain ⟨hmy_8, hky_8⟩ := ySh.f0_1 hSh _ hmy_7 hky_7
    refine lv_aload_n hx hb dX7_readEvents_18 rfl (lv_at hl 0 rfl) ?_
    refine yget (ci := 7) (k := 13) (v := .int (d_1.1 h0 13)) (C := RX7) (T := TX7) (N := 18) C0 hK hP hm_h0 hk_h0 (by decide) rfl inlX7 (by decide) mW749 (fun _ h9 => h9) rfl dX7_readEvents_19 ?_
    refine lv_topi (fun z_9 ez_9 => ?_)
    refine yVri (As := [.int z_9]) (rest := []) C0 (g_X2_minuteAt l G S d_1 (S.2.2.1 (S.2.2.1 h0 0) 1) z_9 hSh hmy_8 hky_8) ok_X2_minuteAt (mW773 : Cond.methodLink RX7 153 yX2_minuteAt ∈ wsT) ⟨Nat.le_of_ble_eq_true rfl, Nat.le_of_ble_eq_true rfl⟩ hP hD hK hN hmy_8 hky_8 (by decide) rfl rfl rfl hl.1 rfl (Nat.le_of_ble_eq_true rfl) ⟨Nat.le_of_ble_eq_true rfl, Nat.le_of_ble_eq_true rfl⟩ dX7_readEvents_22 (fun r_10 hr_10 => ?_)
    refine lv_istore_n (lv' := [(1, .int r_10), (0, .ref h0)]) hx hb dX7_readEvents_25 rfl hl (by decide) rfl (fun ls hl => ?_)
    refine lv_iload_n hx hb dX7_readEvents_26 rfl (lv_at hl 0 rfl) ?_
    refine lv_aload_n hx hb dX7_readEvents_27 rfl (lv_at hl 1 rfl) ?_
    refine yget (ci := 7) (k := 8) (v := .int (d_1.1 h0 8)) (C := RX7) (T := TX7) (N := 18) C0 hK hP hm_h0 hk_h0 (by decide) rfl inlX7 (by decide) mW743 (fun _ h9 => h9) rfl dX7_readEvents_28 ?_
    refine lv_topi (fun z_11 ez_11 => ?_)
    refine lv_icmp_le (tgt := 40) hx hb dX7_readEvents_31 (by decide) (fun c_12 => ?_) (fun c_12 => ?_)
    · refine lv_aload_n hx hb dX7_readEvents_40 rfl (lv_at hl 1 rfl) ?_
      refine yget (ci := 7) (k := 0) (v := .ref (S.2.2.1 h0 0)) (C := RX7) (T := TX7) (N := 18) C0 hK hP hm_h0 hk_h0 (by decide) rfl inlX7 (by decide) mW96 (fun _ h9 => h9) rfl dX7_readEvents_41 ?_
      refine yget (ci := 0) (k := 1) (v := .ref (S.2.2.1 (S.2.2.1 h0 0) 1)) (C := RX0) (T := TX0) (N := 6) C0 hK hP hmy_7 hky_7 (by decide) rfl inlX0 (by decide) mW748 (fun _ h9 => h9) rfl dX7_readEvents_44 ?_
      refine lv_aload_n hx hb dX7_readEvents_47 rfl (lv_at hl 1 rfl) ?_
      refine yget (ci := 7) (k := 13) (v := .int (d_1.1 h0 13)) (C := RX7) (T := TX7) (N := 18) C0 hK hP hm_h0 hk_h0 (by decide) rfl inlX7 (by decide) mW749 (fun _ h9 => h9) rfl dX7_readEvents_48 ?_
      refine lv_topi (fun z_13 ez_13 => ?_)
      refine yVri (As := [.int z_13]) (rest := []) C0 (g_X2_kindAt l G S d_1 (S.2.2.1 (S.2.2.1 h0 0) 1) z_13 hSh hmy_8 hky_8) ok_X2_kindAt (mW778 : Cond.methodLink RX7 157 yX2_kindAt ∈ wsT) ⟨Nat.le_of_ble_eq_true rfl, Nat.le_of_ble_eq_true rfl⟩ hP hD hK hN hmy_8 hky_8 (by decide) rfl rfl rfl hl.1 rfl (Nat.le_of_ble_eq_true rfl) ⟨Nat.le_of_ble_eq_true rfl, Nat.le_of_ble_eq_true rfl⟩ dX7_readEvents_51 (fun r_14 hr_14 => ?_)
      refine lv_istore_n (lv' := [(2, .int r_14), (1, .int r_10), (0, .ref h0)]) hx hb dX7_readEvents_54 rfl hl (by decide) rfl (fun ls hl => ?_)
      refine lv_iload_n hx hb dX7_readEvents_55 rfl (lv_at hl 0 rfl) ?_
      refine lv_iconst (v := 3) hx hb dX7_readEvents_56 (by decide) ?_
      refine lv_bipush (v := 6) hx hb dX7_readEvents_57 (by decide) ?_
      refine ySNri (As := [.int r_14, .int 3, .int 6]) (rest := []) C0 (g_X8_within l G S d_1 r_14 3 6 ) ok_X8_within (xN.n13 hN) ⟨Nat.le_of_ble_eq_true rfl, Nat.le_of_ble_eq_true rfl⟩ hP hD hK hN rfl hl.1 rfl (Nat.le_of_ble_eq_true rfl) ⟨Nat.le_of_ble_eq_true rfl, Nat.le_of_ble_eq_true rfl⟩ dX7_readEvents_59 (fun r_15 hr_15 => ?_)
      refine lv_if_eq (tgt := 74) hx hb dX7_readEvents_62 (by decide) (fun c_16 => ?_) (fun c_16 => ?_)
      · refine lv_aload_n hx hb dX7_readEvents_74 rfl (lv_at hl 2 rfl) ?_
        refine lv_dup hx hb dX7_readEvents_75 rfl ?_
        refine yget (ci := 7) (k := 13) (v := .int (d_1.1 h0 13)) (C := RX7) (T := TX7) (N := 18) C0 hK hP hm_h0 hk_h0 (by decide) rfl inlX7 (by decide) mW749 (fun _ h9 => h9) rfl dX7_readEvents_76 ?_
        refine lv_topi (fun z_17 ez_17 => ?_)
        refine lv_iconst (v := 1) hx hb dX7_readEvents_79 (by decide) ?_
        refine lv_iadd hx hb dX7_readEvents_80 ?_
        refine lv_topi (fun z_18 ez_18 => ?_)
        refine yputI (ci := 7) (k := 13) (ty := .int) (C := RX7) (T := TX7) (N := 18) C0 hK hP hD hS hm_h0 hk_h0 (by decide) rfl inlX7 tyX7 tyX7_ok nmX7 (by decide) mW749 (fun _ h9 => h9) rfl (by decide +kernel) rfl rfl (Nat.le_of_ble_eq_true rfl) ysi_7_13 dX7_readEvents_81 (fun H locs hP hD hS => ?_)
        obtain ⟨d_19, ed_19⟩ : ∃ z : yD, z = yi d_1 h0 13 z_18 := ⟨_, rfl⟩
        rw [← ed_19] at hP hD
        have hgd_19 : yAg S [7, 22, 23] d d_19 := by rw [ed_19]; exact yAg.i hgd_1 (by rw [hk_h0]; decide)
        have hPod_19 : yPo S d_19 := by rw [ed_19]; exact yPo.i hPod_1 hk_h0 (Or.inl rfl)
        refine lv_goto (tgt := 0) hx hb dX7_readEvents_84 (by decide) ?_
        exact hnext_2 d_19 _ _ ls ((by rw [ed_19, yi_self, ez_18, ez_17]; rw [← ez_4]; exact xup c_6)) ⟨hP, hD, hS, hgd_19, hPod_19, lv_sub hl [2] rfl⟩
      · refine lv_aload_n hx hb dX7_readEvents_65 rfl (lv_at hl 2 rfl) ?_
        refine lv_iload_n hx hb dX7_readEvents_66 rfl (lv_at hl 0 rfl) ?_
        refine lv_iconst (v := 3) hx hb dX7_readEvents_67 (by decide) ?_
        refine lv_isub hx hb dX7_readEvents_68 ?_
        refine lv_topi (fun z_20 ez_20 => ?_)
        refine lv_iconst (v := 1) hx hb dX7_readEvents_69 (by decide) ?_
        refine lv_iadd hx hb dX7_readEvents_70 ?_
        refine lv_topi (fun z_21 ez_21 => ?_)
        refine yputI (ci := 7) (k := 15) (ty := .int) (C := RX7) (T := TX7) (N := 18) C0 hK hP hD hS hm_h0 hk_h0 (by decide) rfl inlX7 tyX7 tyX7_ok nmX7 (by decide) mW752 (fun _ h9 => h9) rfl (by decide +kernel) rfl rfl (Nat.le_of_ble_eq_true rfl) ysi_7_15 dX7_readEvents_71 (fun H locs hP hD hS => ?_)
        obtain ⟨d_22, ed_22⟩ : ∃ z : yD, z = yi d_1 h0 15 z_21 := ⟨_, rfl⟩
        rw [← ed_22] at hP hD
        have hgd_22 : yAg S [7, 22, 23] d d_22 := by rw [ed_22]; exact yAg.i hgd_1 (by rw [hk_h0]; decide)
        have hPod_22 : yPo S d_22 := by rw [ed_22]; exact yPo.i hPod_1 hk_h0 (Or.inl rfl)
        refine lv_aload_n hx hb dX7_readEvents_74 rfl (lv_at hl 2 rfl) ?_
        refine lv_dup hx hb dX7_readEvents_75 rfl ?_
        refine yget (ci := 7) (k := 13) (v := .int (d_22.1 h0 13)) (C := RX7) (T := TX7) (N := 18) C0 hK hP hm_h0 hk_h0 (by decide) rfl inlX7 (by decide) mW749 (fun _ h9 => h9) rfl dX7_readEvents_76 ?_
        refine lv_topi (fun z_23 ez_23 => ?_)
        refine lv_iconst (v := 1) hx hb dX7_readEvents_79 (by decide) ?_
        refine lv_iadd hx hb dX7_readEvents_80 ?_
        refine lv_topi (fun z_24 ez_24 => ?_)
        refine yputI (ci := 7) (k := 13) (ty := .int) (C := RX7) (T := TX7) (N := 18) C0 hK hP hD hS hm_h0 hk_h0 (by decide) rfl inlX7 tyX7 tyX7_ok nmX7 (by decide) mW749 (fun _ h9 => h9) rfl (by decide +kernel) rfl rfl (Nat.le_of_ble_eq_true rfl) ysi_7_13 dX7_readEvents_81 (fun H locs hP hD hS => ?_)
        obtain ⟨d_25, ed_25⟩ : ∃ z : yD, z = yi d_22 h0 13 z_24 := ⟨_, rfl⟩
        rw [← ed_25] at hP hD
        have hgd_25 : yAg S [7, 22, 23] d d_25 := by rw [ed_25]; exact yAg.i hgd_22 (by rw [hk_h0]; decide)
        have hPod_25 : yPo S d_25 := by rw [ed_25]; exact yPo.i hPod_22 hk_h0 (Or.inl rfl)
        refine lv_goto (tgt := 0) hx hb dX7_readEvents_84 (by decide) ?_
        exact hnext_2 d_25 _ _ ls ((by rw [ed_25, yi_self, ez_24, ez_23, ed_22]; rw [yi_at (by decide)]; rw [← ez_4]; exact xup c_6)) ⟨hP, hD, hS, hgd_25, hPod_25, lv_sub hl [2] rfl⟩
    · refine lv_aload_n hx hb dX7_readEvents_34 rfl (lv_at hl 1 rfl) ?_
      refine lv_iload_n hx hb dX7_readEvents_35 rfl (lv_at hl 0 rfl) ?_
      refine yVwv (As := [.int r_10]) (rest := []) C0 (g_X7_breakAt l G S d_1 h0 r_10 hSh hPod_1 hm_h0 hk_h0) ok_X7_breakAt (mW774 : Cond.methodLink RX7 127 yX7_breakAt ∈ wsT) ⟨Nat.le_of_ble_eq_true rfl, Nat.le_of_ble_eq_true rfl⟩ hP hD hS hA hK hN hm_h0 hk_h0 (by decide) rfl rfl rfl hl.1 rfl (Nat.le_of_ble_eq_true rfl) ⟨Nat.le_of_ble_eq_true rfl, Nat.le_of_ble_eq_true rfl⟩ dX7_readEvents_36 (fun d_27 H locs hr_26 hP hD hS => ?_)
      obtain ⟨hgad_27, hpad_27, hxd_27⟩ := hr_26
      have hgd_27 : yAg S [7, 22, 23] d d_27 := yAg.tr hgd_1 hgad_27 (by first | decide | exact fun _ h => h)
      have hPod_27 : yPo S d_27 := hpad_27 hPod_1
      exact W.vret hx hb hr (fun t ht hW => ⟨⟨d_27, rfl, ⟨hgd_27, (fun _ => hPod_27), trivial⟩, by rw [ht]; exact hP, hD⟩, hS.F ht⟩) hS.2.2 dX7_readEvents_39
theorem dX7_spans_0 : decode cX7_spans 0 = .ok (.aload_n 0, 1) := by decide +kernel
theorem dX7_spans_1 : decode cX7_spans 1 = .ok (.getfield 18, 3) := by decide +kernel
theorem dX7_spans_4 : decode cX7_spans 4 = .ok (.getfield 86, 3) := by decide +kernel
theorem dX7_spans_7 : decode cX7_spans 7 = .ok (.getfield 160, 3) := by decide +kernel
theorem dX7_spans_10 : decode cX7_spans 10 = .ok (.iload_n 1, 1) := by decide +kernel
theorem dX7_spans_11 : decode cX7_spans 11 = .ok (.invokestatic 95, 3) := by decide +kernel
theorem dX7_spans_14 : decode cX7_spans 14 = .ok (.istore_n 2, 1) := by decide +kernel
theorem dX7_spans_15 : decode cX7_spans 15 = .ok (.aload_n 0, 1) := by decide +kernel
theorem dX7_spans_16 : decode cX7_spans 16 = .ok (.getfield 18, 3) := by decide +kernel
theorem dX7_spans_19 : decode cX7_spans 19 = .ok (.getfield 86, 3) := by decide +kernel
theorem dX7_spans_22 : decode cX7_spans 22 = .ok (.getfield 163, 3) := by decide +kernel
theorem dX7_spans_25 : decode cX7_spans 25 = .ok (.iload_n 1, 1) := by decide +kernel
theorem dX7_spans_26 : decode cX7_spans 26 = .ok (.invokestatic 95, 3) := by decide +kernel
theorem dX7_spans_29 : decode cX7_spans 29 = .ok (.istore_n 3, 1) := by decide +kernel
theorem dX7_spans_30 : decode cX7_spans 30 = .ok (.aload_n 0, 1) := by decide +kernel
theorem dX7_spans_31 : decode cX7_spans 31 = .ok (.getfield 18, 3) := by decide +kernel
theorem dX7_spans_34 : decode cX7_spans 34 = .ok (.getfield 86, 3) := by decide +kernel
theorem dX7_spans_37 : decode cX7_spans 37 = .ok (.getfield 166, 3) := by decide +kernel
theorem dX7_spans_40 : decode cX7_spans 40 = .ok (.iload_n 1, 1) := by decide +kernel
theorem dX7_spans_41 : decode cX7_spans 41 = .ok (.invokestatic 95, 3) := by decide +kernel
theorem dX7_spans_44 : decode cX7_spans 44 = .ok (.istore 4, 2) := by decide +kernel
theorem dX7_spans_46 : decode cX7_spans 46 = .ok (.aload_n 0, 1) := by decide +kernel
theorem dX7_spans_47 : decode cX7_spans 47 = .ok (.getfield 35, 3) := by decide +kernel
theorem dX7_spans_50 : decode cX7_spans 50 = .ok (.sipush 1440, 3) := by decide +kernel
theorem dX7_spans_53 : decode cX7_spans 53 = .ok (.idiv, 1) := by decide +kernel
theorem dX7_spans_54 : decode cX7_spans 54 = .ok (.sipush 1440, 3) := by decide +kernel
theorem dX7_spans_57 : decode cX7_spans 57 = .ok (.imul, 1) := by decide +kernel
theorem dX7_spans_58 : decode cX7_spans 58 = .ok (.istore 5, 2) := by decide +kernel
theorem dX7_spans_60 : decode cX7_spans 60 = .ok (.iload_n 2, 1) := by decide +kernel
theorem dX7_spans_61 : decode cX7_spans 61 = .ok (.tableswitch 75 0 3 #[31, 75, 33, 61], 31) := by decide +kernel
theorem dX7_spans_92 : decode cX7_spans 92 = .ok (.iconst 1, 1) := by decide +kernel
theorem dX7_spans_93 : decode cX7_spans 93 = .ok (.ireturn, 1) := by decide +kernel
theorem dX7_spans_94 : decode cX7_spans 94 = .ok (.aload_n 0, 1) := by decide +kernel
theorem dX7_spans_95 : decode cX7_spans 95 = .ok (.getfield 28, 3) := by decide +kernel
theorem dX7_spans_98 : decode cX7_spans 98 = .ok (.getfield 169, 3) := by decide +kernel
theorem dX7_spans_101 : decode cX7_spans 101 = .ok (.aload_n 0, 1) := by decide +kernel
theorem dX7_spans_102 : decode cX7_spans 102 = .ok (.getfield 35, 3) := by decide +kernel
theorem dX7_spans_105 : decode cX7_spans 105 = .ok (.sipush 1440, 3) := by decide +kernel
theorem dX7_spans_108 : decode cX7_spans 108 = .ok (.idiv, 1) := by decide +kernel
theorem dX7_spans_109 : decode cX7_spans 109 = .ok (.invokestatic 95, 3) := by decide +kernel
theorem dX7_spans_112 : decode cX7_spans 112 = .ok (.iconst 1, 1) := by decide +kernel
theorem dX7_spans_113 : decode cX7_spans 113 = .ok (.if_icmp .ne 7, 3) := by decide +kernel
theorem dX7_spans_116 : decode cX7_spans 116 = .ok (.iconst 1, 1) := by decide +kernel
theorem dX7_spans_117 : decode cX7_spans 117 = .ok (.goto 4, 3) := by decide +kernel
theorem dX7_spans_120 : decode cX7_spans 120 = .ok (.iconst 0, 1) := by decide +kernel
theorem dX7_spans_121 : decode cX7_spans 121 = .ok (.ireturn, 1) := by decide +kernel
theorem dX7_spans_122 : decode cX7_spans 122 = .ok (.aload_n 0, 1) := by decide +kernel
theorem dX7_spans_123 : decode cX7_spans 123 = .ok (.getfield 72, 3) := by decide +kernel
theorem dX7_spans_126 : decode cX7_spans 126 = .ok (.iload_n 3, 1) := by decide +kernel
theorem dX7_spans_127 : decode cX7_spans 127 = .ok (.if_icmp .ne 7, 3) := by decide +kernel
theorem dX7_spans_130 : decode cX7_spans 130 = .ok (.iconst 1, 1) := by decide +kernel
theorem dX7_spans_131 : decode cX7_spans 131 = .ok (.goto 4, 3) := by decide +kernel
theorem dX7_spans_134 : decode cX7_spans 134 = .ok (.iconst 0, 1) := by decide +kernel
theorem dX7_spans_135 : decode cX7_spans 135 = .ok (.ireturn, 1) := by decide +kernel
theorem dX7_spans_136 : decode cX7_spans 136 = .ok (.iload_n 2, 1) := by decide +kernel
theorem dX7_spans_137 : decode cX7_spans 137 = .ok (.iconst 1, 1) := by decide +kernel
theorem dX7_spans_138 : decode cX7_spans 138 = .ok (.if_icmp .ne 10, 3) := by decide +kernel
theorem dX7_spans_141 : decode cX7_spans 141 = .ok (.iload 5, 2) := by decide +kernel
theorem dX7_spans_143 : decode cX7_spans 143 = .ok (.iload_n 3, 1) := by decide +kernel
theorem dX7_spans_144 : decode cX7_spans 144 = .ok (.iadd, 1) := by decide +kernel
theorem dX7_spans_145 : decode cX7_spans 145 = .ok (.goto 4, 3) := by decide +kernel
theorem dX7_spans_148 : decode cX7_spans 148 = .ok (.iload_n 3, 1) := by decide +kernel
theorem dX7_spans_149 : decode cX7_spans 149 = .ok (.istore 6, 2) := by decide +kernel
theorem dX7_spans_151 : decode cX7_spans 151 = .ok (.iload_n 2, 1) := by decide +kernel
theorem dX7_spans_152 : decode cX7_spans 152 = .ok (.iconst 1, 1) := by decide +kernel
theorem dX7_spans_153 : decode cX7_spans 153 = .ok (.if_icmp .ne 11, 3) := by decide +kernel
theorem dX7_spans_156 : decode cX7_spans 156 = .ok (.iload 5, 2) := by decide +kernel
theorem dX7_spans_158 : decode cX7_spans 158 = .ok (.iload 4, 2) := by decide +kernel
theorem dX7_spans_160 : decode cX7_spans 160 = .ok (.iadd, 1) := by decide +kernel
theorem dX7_spans_161 : decode cX7_spans 161 = .ok (.goto 5, 3) := by decide +kernel
theorem dX7_spans_164 : decode cX7_spans 164 = .ok (.iload 4, 2) := by decide +kernel
theorem dX7_spans_166 : decode cX7_spans 166 = .ok (.istore 7, 2) := by decide +kernel
theorem dX7_spans_168 : decode cX7_spans 168 = .ok (.aload_n 0, 1) := by decide +kernel
theorem dX7_spans_169 : decode cX7_spans 169 = .ok (.iload 6, 2) := by decide +kernel
theorem dX7_spans_171 : decode cX7_spans 171 = .ok (.invokevirtual 127, 3) := by decide +kernel
theorem dX7_spans_174 : decode cX7_spans 174 = .ok (.aload_n 0, 1) := by decide +kernel
theorem dX7_spans_175 : decode cX7_spans 175 = .ok (.iload 7, 2) := by decide +kernel
theorem dX7_spans_177 : decode cX7_spans 177 = .ok (.invokevirtual 127, 3) := by decide +kernel
theorem dX7_spans_180 : decode cX7_spans 180 = .ok (.iload_n 2, 1) := by decide +kernel
theorem dX7_spans_181 : decode cX7_spans 181 = .ok (.iconst 1, 1) := by decide +kernel
theorem dX7_spans_182 : decode cX7_spans 182 = .ok (.if_icmp .ne 33, 3) := by decide +kernel
theorem dX7_spans_185 : decode cX7_spans 185 = .ok (.iload_n 3, 1) := by decide +kernel
theorem dX7_spans_186 : decode cX7_spans 186 = .ok (.iload 4, 2) := by decide +kernel
theorem dX7_spans_188 : decode cX7_spans 188 = .ok (.if_icmp .le 27, 3) := by decide +kernel
theorem dX7_spans_191 : decode cX7_spans 191 = .ok (.aload_n 0, 1) := by decide +kernel
theorem dX7_spans_192 : decode cX7_spans 192 = .ok (.getfield 35, 3) := by decide +kernel
theorem dX7_spans_195 : decode cX7_spans 195 = .ok (.iload 6, 2) := by decide +kernel
theorem dX7_spans_197 : decode cX7_spans 197 = .ok (.if_icmp .ge 12, 3) := by decide +kernel
theorem dX7_spans_200 : decode cX7_spans 200 = .ok (.aload_n 0, 1) := by decide +kernel
theorem dX7_spans_201 : decode cX7_spans 201 = .ok (.getfield 35, 3) := by decide +kernel
theorem dX7_spans_204 : decode cX7_spans 204 = .ok (.iload 7, 2) := by decide +kernel
theorem dX7_spans_206 : decode cX7_spans 206 = .ok (.if_icmp .ge 7, 3) := by decide +kernel
theorem dX7_spans_209 : decode cX7_spans 209 = .ok (.iconst 1, 1) := by decide +kernel
theorem dX7_spans_210 : decode cX7_spans 210 = .ok (.goto 4, 3) := by decide +kernel
theorem dX7_spans_213 : decode cX7_spans 213 = .ok (.iconst 0, 1) := by decide +kernel
theorem dX7_spans_214 : decode cX7_spans 214 = .ok (.ireturn, 1) := by decide +kernel
theorem dX7_spans_215 : decode cX7_spans 215 = .ok (.aload_n 0, 1) := by decide +kernel
theorem dX7_spans_216 : decode cX7_spans 216 = .ok (.getfield 35, 3) := by decide +kernel
theorem dX7_spans_219 : decode cX7_spans 219 = .ok (.iload 6, 2) := by decide +kernel
theorem dX7_spans_221 : decode cX7_spans 221 = .ok (.if_icmp .lt 16, 3) := by decide +kernel
theorem dX7_spans_224 : decode cX7_spans 224 = .ok (.aload_n 0, 1) := by decide +kernel
theorem dX7_spans_225 : decode cX7_spans 225 = .ok (.getfield 35, 3) := by decide +kernel
theorem dX7_spans_228 : decode cX7_spans 228 = .ok (.iload 7, 2) := by decide +kernel
theorem dX7_spans_230 : decode cX7_spans 230 = .ok (.if_icmp .ge 7, 3) := by decide +kernel
theorem dX7_spans_233 : decode cX7_spans 233 = .ok (.iconst 1, 1) := by decide +kernel
theorem dX7_spans_234 : decode cX7_spans 234 = .ok (.goto 4, 3) := by decide +kernel
theorem dX7_spans_237 : decode cX7_spans 237 = .ok (.iconst 0, 1) := by decide +kernel
theorem dX7_spans_238 : decode cX7_spans 238 = .ok (.ireturn, 1) := by decide +kernel
set_option maxHeartbeats 4000000 in
set_option maxRecDepth 100000 in
theorem g_X7_spans (l : Launch) (G : xG) (S : yS) (d : yD) (h0 : Nat) (p0 : Int32) (hSh : ySh S) (hPo : yPo S d) (hm_h0 : h0 ∈ S.1) (hk_h0 : S.2.1 h0 = 7) : xWi l G yX7_spans cX7_spans 8 (some .boolean) 1 21 0 0 [.ref h0, .int p0] (yW G S d) (fun r (u : yD) => yAg S [7, 22, 23] d u ∧ (yPo S d → yPo S u) ∧ (r = 0 ∨ r = 1)) (fun u => yW G S u) := by
  intro sz
  refine xstart (by decide) (Nat.le_of_ble_eq_true rfl) (fun p e s m args below meth c ls C0 hr hlocks hin hsz hP hK hD hN hl => ?_)
  obtain ⟨hx, hb, hml, hown, htl⟩ := id C0
  subst hsz
  have hD := hD.self (sz := s.heap.size)
  generalize hAe : va_A (yW G S d) s.heap.size = A at hD ⊢
  have hA : ∀ q : Nat, s.heap.size ≤ q → A q := fun q h => by rw [← hAe]; exact Or.inr h
  have hS : va_S A s.heap s.heap [] := va_S.rf
  have hg0 : yAg S [7, 22, 23] d d := yAg.rf
  have hl : lv_has ls 8 [(0, .ref h0), (1, .int p0)] := hl
  refine lv_aload_n hx hb dX7_spans_0 rfl (lv_at hl 0 rfl) ?_
  refine yget (ci := 7) (k := 0) (v := .ref (S.2.2.1 h0 0)) (C := RX7) (T := TX7) (N := 18) C0 hK hP hm_h0 hk_h0 (by decide) rfl inlX7 (by decide) mW96 (fun _ h9 => h9) rfl dX7_spans_1 ?_
  obtain ⟨hmy_1, hky_1⟩ := ySh.f7_0 hSh _ hm_h0 hk_h0
  refine yget (ci := 0) (k := 0) (v := .ref (S.2.2.1 (S.2.2.1 h0 0) 0)) (C := RX0) (T := TX0) (N := 6) C0 hK hP hmy_1 hky_1 (by decide) rfl inlX0 (by decide) mW755 (fun _ h9 => h9) rfl dX7_spans_4 ?_
  obtain ⟨hmy_2, hky_2⟩ := ySh.f0_0 hSh _ hmy_1 hky_1
  refine yget (ci := 6) (k := 1) (v := .ref (S.2.2.1 (S.2.2.1 (S.2.2.1 h0 0) 0) 1)) (C := RX6) (T := TX6) (N := 7) C0 hK hP hmy_2 hky_2 (by decide) rfl inlX6 (by decide) mW790 (fun _ h9 => h9) rfl dX7_spans_7 ?_
  obtain ⟨hmy_3, hky_3⟩ := ySh.f6_1 hSh _ hmy_2 hky_2
  refine lv_iload_n hx hb dX7_spans_10 rfl (lv_at hl 1 rfl) ?_
  refine ySNri (As := [.ref (S.2.2.1 (S.2.2.1 (S.2.2.1 h0 0) 0) 1), .int p0]) (rest := []) C0 (g_X8_at l G S d (S.2.2.1 (S.2.2.1 (S.2.2.1 h0 0) 0) 1) 11 p0 hmy_3 hky_3 (by decide) rfl rfl (by decide)) ok_X8_at (xN.n12 hN) ⟨Nat.le_of_ble_eq_true rfl, Nat.le_of_ble_eq_true rfl⟩ hP hD hK hN rfl hl.1 rfl (Nat.le_of_ble_eq_true rfl) ⟨Nat.le_of_ble_eq_true rfl, Nat.le_of_ble_eq_true rfl⟩ dX7_spans_11 (fun r_4 hr_4 => ?_)
  refine lv_istore_n (lv' := [(2, .int r_4), (0, .ref h0), (1, .int p0)]) hx hb dX7_spans_14 rfl hl (by decide) rfl (fun ls hl => ?_)
  refine lv_aload_n hx hb dX7_spans_15 rfl (lv_at hl 1 rfl) ?_
  refine yget (ci := 7) (k := 0) (v := .ref (S.2.2.1 h0 0)) (C := RX7) (T := TX7) (N := 18) C0 hK hP hm_h0 hk_h0 (by decide) rfl inlX7 (by decide) mW96 (fun _ h9 => h9) rfl dX7_spans_16 ?_
  refine yget (ci := 0) (k := 0) (v := .ref (S.2.2.1 (S.2.2.1 h0 0) 0)) (C := RX0) (T := TX0) (N := 6) C0 hK hP hmy_1 hky_1 (by decide) rfl inlX0 (by decide) mW755 (fun _ h9 => h9) rfl dX7_spans_19 ?_
  refine yget (ci := 6) (k := 2) (v := .ref (S.2.2.1 (S.2.2.1 (S.2.2.1 h0 0) 0) 2)) (C := RX6) (T := TX6) (N := 7) C0 hK hP hmy_2 hky_2 (by decide) rfl inlX6 (by decide) mW791 (fun _ h9 => h9) rfl dX7_spans_22 ?_
  obtain ⟨hmy_5, hky_5⟩ := ySh.f6_2 hSh _ hmy_2 hky_2
  refine lv_iload_n hx hb dX7_spans_25 rfl (lv_at hl 2 rfl) ?_
  refine ySNri (As := [.ref (S.2.2.1 (S.2.2.1 (S.2.2.1 h0 0) 0) 2), .int p0]) (rest := []) C0 (g_X8_at l G S d (S.2.2.1 (S.2.2.1 (S.2.2.1 h0 0) 0) 2) 12 p0 hmy_5 hky_5 (by decide) rfl rfl (by decide)) ok_X8_at (xN.n12 hN) ⟨Nat.le_of_ble_eq_true rfl, Nat.le_of_ble_eq_true rfl⟩ hP hD hK hN rfl hl.1 rfl (Nat.le_of_ble_eq_true rfl) ⟨Nat.le_of_ble_eq_true rfl, Nat.le_of_ble_eq_true rfl⟩ dX7_spans_26 (fun r_6 hr_6 => ?_)
  refine lv_istore_n (lv' := [(3, .int r_6), (2, .int r_4), (0, .ref h0), (1, .int p0)]) hx hb dX7_spans_29 rfl hl (by decide) rfl (fun ls hl => ?_)
  refine lv_aload_n hx hb dX7_spans_30 rfl (lv_at hl 2 rfl) ?_
  refine yget (ci := 7) (k := 0) (v := .ref (S.2.2.1 h0 0)) (C := RX7) (T := TX7) (N := 18) C0 hK hP hm_h0 hk_h0 (by decide) rfl inlX7 (by decide) mW96 (fun _ h9 => h9) rfl dX7_spans_31 ?_
  refine yget (ci := 0) (k := 0) (v := .ref (S.2.2.1 (S.2.2.1 h0 0) 0)) (C := RX0) (T := TX0) (N := 6) C0 hK hP hmy_1 hky_1 (by decide) rfl inlX0 (by decide) mW755 (fun _ h9 => h9) rfl dX7_spans_34 ?_
  refine yget (ci := 6) (k := 3) (v := .ref (S.2.2.1 (S.2.2.1 (S.2.2.1 h0 0) 0) 3)) (C := RX6) (T := TX6) (N := 7) C0 hK hP hmy_2 hky_2 (by decide) rfl inlX6 (by decide) mW792 (fun _ h9 => h9) rfl dX7_spans_37 ?_
  obtain ⟨hmy_7, hky_7⟩ := ySh.f6_3 hSh _ hmy_2 hky_2
  refine lv_iload_n hx hb dX7_spans_40 rfl (lv_at hl 3 rfl) ?_
  refine ySNri (As := [.ref (S.2.2.1 (S.2.2.1 (S.2.2.1 h0 0) 0) 3), .int p0]) (rest := []) C0 (g_X8_at l G S d (S.2.2.1 (S.2.2.1 (S.2.2.1 h0 0) 0) 3) 13 p0 hmy_7 hky_7 (by decide) rfl rfl (by decide)) ok_X8_at (xN.n12 hN) ⟨Nat.le_of_ble_eq_true rfl, Nat.le_of_ble_eq_true rfl⟩ hP hD hK hN rfl hl.1 rfl (Nat.le_of_ble_eq_true rfl) ⟨Nat.le_of_ble_eq_true rfl, Nat.le_of_ble_eq_true rfl⟩ dX7_spans_41 (fun r_8 hr_8 => ?_)
  refine lv_istore (lv' := [(4, .int r_8), (3, .int r_6), (2, .int r_4), (0, .ref h0), (1, .int p0)]) hx hb dX7_spans_44 hl (by decide) rfl (fun ls hl => ?_)
  refine lv_aload_n hx hb dX7_spans_46 rfl (lv_at hl 3 rfl) ?_
  refine yget (ci := 7) (k := 8) (v := .int (d.1 h0 8)) (C := RX7) (T := TX7) (N := 18) C0 hK hP hm_h0 hk_h0 (by decide) rfl inlX7 (by decide) mW743 (fun _ h9 => h9) rfl dX7_spans_47 ?_
  refine lv_topi (fun z_9 ez_9 => ?_)
  refine lv_sipush (v := 1440) hx hb dX7_spans_50 (by decide) ?_
  refine lv_idiv hx hb dX7_spans_53 (by decide) ?_
  refine lv_topi (fun z_10 ez_10 => ?_)
  refine lv_sipush (v := 1440) hx hb dX7_spans_54 (by decide) ?_
  refine lv_imul hx hb dX7_spans_57 ?_
  refine lv_topi (fun z_11 ez_11 => ?_)
  refine lv_istore (lv' := [(5, .int z_11), (4, .int r_8), (3, .int r_6), (2, .int r_4), (0, .ref h0), (1, .int p0)]) hx hb dX7_spans_58 hl (by decide) rfl (fun ls hl => ?_)
  refine lv_iload_n hx hb dX7_spans_60 rfl (lv_at hl 3 rfl) ?_
  rcases xtab r_4 4 (by decide) with hsw_12 | ⟨k_13, hk_13, hsw_12⟩
  · refine lv_tableOut (tgt := 136) hx hb dX7_spans_61 (by omega) (by decide) ?_
    refine lv_iload_n hx hb dX7_spans_136 rfl (lv_at hl 3 rfl) ?_
    refine lv_iconst (v := 1) hx hb dX7_spans_137 (by decide) ?_
    refine yjoinR (σ := Int32) 149 (fun x ls st => st = [.int x] ∧ lv_has ls 8 [(5, .int z_11), (4, .int r_8), (3, .int r_6), (2, .int r_4), (0, .ref h0)]) (fun x ls st hI => ?_) (fun J149_14 => ?_)
    · obtain ⟨v_14, rfl⟩ : ∃ z, z = x := ⟨_, rfl⟩
      obtain ⟨rfl, hl⟩ := hI
      have hl : lv_has ls 8 [(5, .int z_11), (4, .int r_8), (3, .int r_6), (2, .int r_4), (0, .ref h0)] := hl
      refine lv_istore (lv' := [(6, .int v_14), (5, .int z_11), (4, .int r_8), (3, .int r_6), (2, .int r_4), (0, .ref h0)]) hx hb dX7_spans_149 hl (by decide) rfl (fun ls hl => ?_)
      refine lv_iload_n hx hb dX7_spans_151 rfl (lv_at hl 4 rfl) ?_
      refine lv_iconst (v := 1) hx hb dX7_spans_152 (by decide) ?_
      refine yjoinR (σ := Int32) 166 (fun x ls st => st = [.int x] ∧ lv_has ls 8 [(6, .int v_14), (4, .int r_8), (3, .int r_6), (2, .int r_4), (0, .ref h0)]) (fun x ls st hI => ?_) (fun J166_15 => ?_)
      · obtain ⟨v_15, rfl⟩ : ∃ z, z = x := ⟨_, rfl⟩
        obtain ⟨rfl, hl⟩ := hI
        have hl : lv_has ls 8 [(6, .int v_14), (4, .int r_8), (3, .int r_6), (2, .int r_4), (0, .ref h0)] := hl
        refine lv_istore (lv' := [(7, .int v_15), (6, .int v_14), (4, .int r_8), (3, .int r_6), (2, .int r_4), (0, .ref h0)]) hx hb dX7_spans_166 hl (by decide) rfl (fun ls hl => ?_)
        refine lv_aload_n hx hb dX7_spans_168 rfl (lv_at hl 5 rfl) ?_
        refine lv_iload hx hb dX7_spans_169 (lv_at hl 1 rfl) ?_
        refine yVwv (As := [.int v_14]) (rest := []) C0 (g_X7_breakAt l G S d h0 v_14 hSh hPo hm_h0 hk_h0) ok_X7_breakAt (mW774 : Cond.methodLink RX7 127 yX7_breakAt ∈ wsT) ⟨Nat.le_of_ble_eq_true rfl, Nat.le_of_ble_eq_true rfl⟩ hP hD hS hA hK hN hm_h0 hk_h0 (by decide) rfl rfl rfl hl.1 rfl (Nat.le_of_ble_eq_true rfl) ⟨Nat.le_of_ble_eq_true rfl, Nat.le_of_ble_eq_true rfl⟩ dX7_spans_171 (fun d_17 H locs hr_16 hP hD hS => ?_)
        obtain ⟨hgad_17, hpad_17, hxd_17⟩ := hr_16
        have hgd_17 : yAg S [7, 22, 23] d d_17 := yAg.tr hg0 hgad_17 (by first | decide | exact fun _ h => h)
        have hPod_17 : yPo S d_17 := hpad_17 hPo
        refine lv_aload_n hx hb dX7_spans_174 rfl (lv_at hl 5 rfl) ?_
        refine lv_iload hx hb dX7_spans_175 (lv_at hl 0 rfl) ?_
        refine yVwv (As := [.int v_15]) (rest := []) C0 (g_X7_breakAt l G S d_17 h0 v_15 hSh hPod_17 hm_h0 hk_h0) ok_X7_breakAt (mW774 : Cond.methodLink RX7 127 yX7_breakAt ∈ wsT) ⟨Nat.le_of_ble_eq_true rfl, Nat.le_of_ble_eq_true rfl⟩ hP hD hS hA hK hN hm_h0 hk_h0 (by decide) rfl rfl rfl hl.1 rfl (Nat.le_of_ble_eq_true rfl) ⟨Nat.le_of_ble_eq_true rfl, Nat.le_of_ble_eq_true rfl⟩ dX7_spans_177 (fun d_19 H locs hr_18 hP hD hS => ?_)
        obtain ⟨hgad_19, hpad_19, hxd_19⟩ := hr_18
        have hgd_19 : yAg S [7, 22, 23] d d_19 := yAg.tr hgd_17 hgad_19 (by first | decide | exact fun _ h => h)
        have hPod_19 : yPo S d_19 := hpad_19 hPod_17
        refine lv_iload_n hx hb dX7_spans_180 rfl (lv_at hl 4 rfl) ?_
        refine lv_iconst (v := 1) hx hb dX7_spans_181 (by decide) ?_
        refine lv_icmp_ne (tgt := 215) hx hb dX7_spans_182 (by decide) (fun c_20 => ?_) (fun c_20 => ?_)
        · refine lv_aload_n hx hb dX7_spans_215 rfl (lv_at hl 5 rfl) ?_
          refine yget (ci := 7) (k := 8) (v := .int (d_19.1 h0 8)) (C := RX7) (T := TX7) (N := 18) C0 hK hP hm_h0 hk_h0 (by decide) rfl inlX7 (by decide) mW743 (fun _ h9 => h9) rfl dX7_spans_216 ?_
          refine lv_topi (fun z_21 ez_21 => ?_)
          refine lv_iload hx hb dX7_spans_219 (lv_at hl 1 rfl) ?_
          refine lv_icmp_lt (tgt := 237) hx hb dX7_spans_221 (by decide) (fun c_22 => ?_) (fun c_22 => ?_)
          · refine lv_iconst (v := 0) hx hb dX7_spans_237 (by decide) ?_
            exact W.zret (v := 0) (ty := .boolean) hx hb hr rfl (fun t ht hW => ⟨⟨0, d_19, rfl, ⟨hgd_19, (fun _ => hPod_19), Or.inl rfl⟩, by rw [ht]; exact hP, hD⟩, hS.F ht⟩) hS.2.2 dX7_spans_238
          · refine lv_aload_n hx hb dX7_spans_224 rfl (lv_at hl 5 rfl) ?_
            refine yget (ci := 7) (k := 8) (v := .int (d_19.1 h0 8)) (C := RX7) (T := TX7) (N := 18) C0 hK hP hm_h0 hk_h0 (by decide) rfl inlX7 (by decide) mW743 (fun _ h9 => h9) rfl dX7_spans_225 ?_
            refine lv_topi (fun z_23 ez_23 => ?_)
            refine lv_iload hx hb dX7_spans_228 (lv_at hl 0 rfl) ?_
            refine lv_icmp_ge (tgt := 237) hx hb dX7_spans_230 (by decide) (fun c_24 => ?_) (fun c_24 => ?_)
            · refine lv_iconst (v := 0) hx hb dX7_spans_237 (by decide) ?_
              exact W.zret (v := 0) (ty := .boolean) hx hb hr rfl (fun t ht hW => ⟨⟨0, d_19, rfl, ⟨hgd_19, (fun _ => hPod_19), Or.inl rfl⟩, by rw [ht]; exact hP, hD⟩, hS.F ht⟩) hS.2.2 dX7_spans_238
            · refine lv_iconst (v := 1) hx hb dX7_spans_233 (by decide) ?_
              refine lv_goto (tgt := 238) hx hb dX7_spans_234 (by decide) ?_
              exact W.zret (v := 1) (ty := .boolean) hx hb hr rfl (fun t ht hW => ⟨⟨1, d_19, rfl, ⟨hgd_19, (fun _ => hPod_19), Or.inr rfl⟩, by rw [ht]; exact hP, hD⟩, hS.F ht⟩) hS.2.2 dX7_spans_238
        · refine lv_iload_n hx hb dX7_spans_185 rfl (lv_at hl 3 rfl) ?_
          refine lv_iload hx hb dX7_spans_186 (lv_at hl 2 rfl) ?_
          refine lv_icmp_le (tgt := 215) hx hb dX7_spans_188 (by decide) (fun c_25 => ?_) (fun c_25 => ?_)
          · refine lv_aload_n hx hb dX7_spans_215 rfl (lv_at hl 5 rfl) ?_
            refine yget (ci := 7) (k := 8) (v := .int (d_19.1 h0 8)) (C := RX7) (T := TX7) (N := 18) C0 hK hP hm_h0 hk_h0 (by decide) rfl inlX7 (by decide) mW743 (fun _ h9 => h9) rfl dX7_spans_216 ?_
            refine lv_topi (fun z_26 ez_26 => ?_)
            refine lv_iload hx hb dX7_spans_219 (lv_at hl 1 rfl) ?_
            refine lv_icmp_lt (tgt := 237) hx hb dX7_spans_221 (by decide) (fun c_27 => ?_) (fun c_27 => ?_)
            · refine lv_iconst (v := 0) hx hb dX7_spans_237 (by decide) ?_
              exact W.zret (v := 0) (ty := .boolean) hx hb hr rfl (fun t ht hW => ⟨⟨0, d_19, rfl, ⟨hgd_19, (fun _ => hPod_19), Or.inl rfl⟩, by rw [ht]; exact hP, hD⟩, hS.F ht⟩) hS.2.2 dX7_spans_238
            · refine lv_aload_n hx hb dX7_spans_224 rfl (lv_at hl 5 rfl) ?_
              refine yget (ci := 7) (k := 8) (v := .int (d_19.1 h0 8)) (C := RX7) (T := TX7) (N := 18) C0 hK hP hm_h0 hk_h0 (by decide) rfl inlX7 (by decide) mW743 (fun _ h9 => h9) rfl dX7_spans_225 ?_
              refine lv_topi (fun z_28 ez_28 => ?_)
              refine lv_iload hx hb dX7_spans_228 (lv_at hl 0 rfl) ?_
              refine lv_icmp_ge (tgt := 237) hx hb dX7_spans_230 (by decide) (fun c_29 => ?_) (fun c_29 => ?_)
              · refine lv_iconst (v := 0) hx hb dX7_spans_237 (by decide) ?_
                exact W.zret (v := 0) (ty := .boolean) hx hb hr rfl (fun t ht hW => ⟨⟨0, d_19, rfl, ⟨hgd_19, (fun _ => hPod_19), Or.inl rfl⟩, by rw [ht]; exact hP, hD⟩, hS.F ht⟩) hS.2.2 dX7_spans_238
              · refine lv_iconst (v := 1) hx hb dX7_spans_233 (by decide) ?_
                refine lv_goto (tgt := 238) hx hb dX7_spans_234 (by decide) ?_
                exact W.zret (v := 1) (ty := .boolean) hx hb hr rfl (fun t ht hW => ⟨⟨1, d_19, rfl, ⟨hgd_19, (fun _ => hPod_19), Or.inr rfl⟩, by rw [ht]; exact hP, hD⟩, hS.F ht⟩) hS.2.2 dX7_spans_238
          · refine lv_aload_n hx hb dX7_spans_191 rfl (lv_at hl 5 rfl) ?_
            refine yget (ci := 7) (k := 8) (v := .int (d_19.1 h0 8)) (C := RX7) (T := TX7) (N := 18) C0 hK hP hm_h0 hk_h0 (by decide) rfl inlX7 (by decide) mW743 (fun _ h9 => h9) rfl dX7_spans_192 ?_
            refine lv_topi (fun z_30 ez_30 => ?_)
            refine lv_iload hx hb dX7_spans_195 (lv_at hl 1 rfl) ?_
            refine lv_icmp_ge (tgt := 209) hx hb dX7_spans_197 (by decide) (fun c_31 => ?_) (fun c_31 => ?_)
            · refine lv_iconst (v := 1) hx hb dX7_spans_209 (by decide) ?_
              refine lv_goto (tgt := 214) hx hb dX7_spans_210 (by decide) ?_
              exact W.zret (v := 1) (ty := .boolean) hx hb hr rfl (fun t ht hW => ⟨⟨1, d_19, rfl, ⟨hgd_19, (fun _ => hPod_19), Or.inr rfl⟩, by rw [ht]; exact hP, hD⟩, hS.F ht⟩) hS.2.2 dX7_spans_214
            · refine lv_aload_n hx hb dX7_spans_200 rfl (lv_at hl 5 rfl) ?_
              refine yget (ci := 7) (k := 8) (v := .int (d_19.1 h0 8)) (C := RX7) (T := TX7) (N := 18) C0 hK hP hm_h0 hk_h0 (by decide) rfl inlX7 (by decide) mW743 (fun _ h9 => h9) rfl dX7_spans_201 ?_
              refine lv_topi (fun z_32 ez_32 => ?_)
              refine lv_iload hx hb dX7_spans_204 (lv_at hl 0 rfl) ?_
              refine lv_icmp_ge (tgt := 213) hx hb dX7_spans_206 (by decide) (fun c_33 => ?_) (fun c_33 => ?_)
              · refine lv_iconst (v := 0) hx hb dX7_spans_213 (by decide) ?_
                exact W.zret (v := 0) (ty := .boolean) hx hb hr rfl (fun t ht hW => ⟨⟨0, d_19, rfl, ⟨hgd_19, (fun _ => hPod_19), Or.inl rfl⟩, by rw [ht]; exact hP, hD⟩, hS.F ht⟩) hS.2.2 dX7_spans_214
              · refine lv_iconst (v := 1) hx hb dX7_spans_209 (by decide) ?_
                refine lv_goto (tgt := 214) hx hb dX7_spans_210 (by decide) ?_
                exact W.zret (v := 1) (ty := .boolean) hx hb hr rfl (fun t ht hW => ⟨⟨1, d_19, rfl, ⟨hgd_19, (fun _ => hPod_19), Or.inr rfl⟩, by rw [ht]; exact hP, hD⟩, hS.F ht⟩) hS.2.2 dX7_spans_214
      refine lv_icmp_ne (tgt := 164) hx hb dX7_spans_153 (by decide) (fun c_34 => ?_) (fun c_34 => ?_)
      · refine lv_iload hx hb dX7_spans_164 (lv_at hl 2 rfl) ?_
        exact J166_15 r_8 ls _ ⟨rfl, lv_sub hl [0, 2, 3, 4, 5] rfl⟩
      · refine lv_iload hx hb dX7_spans_156 (lv_at hl 1 rfl) ?_
        refine lv_iload hx hb dX7_spans_158 (lv_at hl 2 rfl) ?_
        refine lv_iadd hx hb dX7_spans_160 ?_
        refine lv_topi (fun z_35 ez_35 => ?_)
        refine lv_goto (tgt := 166) hx hb dX7_spans_161 (by decide) ?_
        exact J166_15 z_35 ls _ ⟨rfl, lv_sub hl [0, 2, 3, 4, 5] rfl⟩
    refine lv_icmp_ne (tgt := 148) hx hb dX7_spans_138 (by decide) (fun c_36 => ?_) (fun c_36 => ?_)
    · refine lv_iload_n hx hb dX7_spans_148 rfl (lv_at hl 2 rfl) ?_
      exact J149_14 r_6 ls _ ⟨rfl, lv_sub hl [0, 1, 2, 3, 4] rfl⟩
    · refine lv_iload hx hb dX7_spans_141 (lv_at hl 0 rfl) ?_
      refine lv_iload_n hx hb dX7_spans_143 rfl (lv_at hl 2 rfl) ?_
      refine lv_iadd hx hb dX7_spans_144 ?_
      refine lv_topi (fun z_37 ez_37 => ?_)
      refine lv_goto (tgt := 149) hx hb dX7_spans_145 (by decide) ?_
      exact J149_14 z_37 ls _ ⟨rfl, lv_sub hl [0, 1, 2, 3, 4] rfl⟩
  · obtain rfl | rfl | rfl | rfl : k_13 = 0 ∨ k_13 = 1 ∨ k_13 = 2 ∨ k_13 = 3 := by omega
    · subst hsw_12
      refine lv_tableIn (tgt := 92) (off := 31) hx hb dX7_spans_61 (by decide +kernel) (by decide +kernel) (by decide +kernel) (by decide) ?_
      refine lv_iconst (v := 1) hx hb dX7_spans_92 (by decide) ?_
      exact W.zret (v := 1) (ty := .boolean) hx hb hr rfl (fun t ht hW => ⟨⟨1, d, rfl, ⟨hg0, (fun _ => hPo), Or.inr rfl⟩, by rw [ht]; exact hP, hD⟩, hS.F ht⟩) hS.2.2 dX7_spans_93
    · subst hsw_12
      refine lv_tableIn (tgt := 136) (off := 75) hx hb dX7_spans_61 (by decide +kernel) (by decide +kernel) (by decide +kernel) (by decide) ?_
      refine lv_iload_n hx hb dX7_spans_136 rfl (lv_at hl 3 rfl) ?_
      refine lv_iconst (v := 1) hx hb dX7_spans_137 (by decide) ?_
      refine yjoinR (σ := Int32) 149 (fun x ls st => st = [.int x] ∧ lv_has ls 8 [(5, .int z_11), (4, .int r_8), (3, .int r_6), (2, .int (nI 1)), (0, .ref h0)]) (fun x ls st hI => ?_) (fun J149_38 => ?_)
      · obtain ⟨v_38, rfl⟩ : ∃ z, z = x := ⟨_, rfl⟩
        obtain ⟨rfl, hl⟩ := hI
        have hl : lv_has ls 8 [(5, .int z_11), (4, .int r_8), (3, .int r_6), (2, .int (nI 1)), (0, .ref h0)] := hl
        refine lv_istore (lv' := [(6, .int v_38), (5, .int z_11), (4, .int r_8), (3, .int r_6), (2, .int (nI 1)), (0, .ref h0)]) hx hb dX7_spans_149 hl (by decide) rfl (fun ls hl => ?_)
        refine lv_iload_n hx hb dX7_spans_151 rfl (lv_at hl 4 rfl) ?_
        refine lv_iconst (v := 1) hx hb dX7_spans_152 (by decide) ?_
        refine yjoinR (σ := Int32) 166 (fun x ls st => st = [.int x] ∧ lv_has ls 8 [(6, .int v_38), (4, .int r_8), (3, .int r_6), (2, .int (nI 1)), (0, .ref h0)]) (fun x ls st hI => ?_) (fun J166_39 => ?_)
        · obtain ⟨v_39, rfl⟩ : ∃ z, z = x := ⟨_, rfl⟩
          obtain ⟨rfl, hl⟩ := hI
          have hl : lv_has ls 8 [(6, .int v_38), (4, .int r_8), (3, .int r_6), (2, .int (nI 1)), (0, .ref h0)] := hl
          refine lv_istore (lv' := [(7, .int v_39), (6, .int v_38), (4, .int r_8), (3, .int r_6), (2, .int (nI 1)), (0, .ref h0)]) hx hb dX7_spans_166 hl (by decide) rfl (fun ls hl => ?_)
          refine lv_aload_n hx hb dX7_spans_168 rfl (lv_at hl 5 rfl) ?_
          refine lv_iload hx hb dX7_spans_169 (lv_at hl 1 rfl) ?_
          refine yVwv (As := [.int v_38]) (rest := []) C0 (g_X7_breakAt l G S d h0 v_38 hSh hPo hm_h0 hk_h0) ok_X7_breakAt (mW774 : Cond.methodLink RX7 127 yX7_breakAt ∈ wsT) ⟨Nat.le_of_ble_eq_true rfl, Nat.le_of_ble_eq_true rfl⟩ hP hD hS hA hK hN hm_h0 hk_h0 (by decide) rfl rfl rfl hl.1 rfl (Nat.le_of_ble_eq_true rfl) ⟨Nat.le_of_ble_eq_true rfl, Nat.le_of_ble_eq_true rfl⟩ dX7_spans_171 (fun d_41 H locs hr_40 hP hD hS => ?_)
          obtain ⟨hgad_41, hpad_41, hxd_41⟩ := hr_40
          have hgd_41 : yAg S [7, 22, 23] d d_41 := yAg.tr hg0 hgad_41 (by first | decide | exact fun _ h => h)
          have hPod_41 : yPo S d_41 := hpad_41 hPo
          refine lv_aload_n hx hb dX7_spans_174 rfl (lv_at hl 5 rfl) ?_
          refine lv_iload hx hb dX7_spans_175 (lv_at hl 0 rfl) ?_
          refine yVwv (As := [.int v_39]) (rest := []) C0 (g_X7_breakAt l G S d_41 h0 v_39 hSh hPod_41 hm_h0 hk_h0) ok_X7_breakAt (mW774 : Cond.methodLink RX7 127 yX7_breakAt ∈ wsT) ⟨Nat.le_of_ble_eq_true rfl, Nat.le_of_ble_eq_true rfl⟩ hP hD hS hA hK hN hm_h0 hk_h0 (by decide) rfl rfl rfl hl.1 rfl (Nat.le_of_ble_eq_true rfl) ⟨Nat.le_of_ble_eq_true rfl, Nat.le_of_ble_eq_true rfl⟩ dX7_spans_177 (fun d_43 H locs hr_42 hP hD hS => ?_)
          obtain ⟨hgad_43, hpad_43, hxd_43⟩ := hr_42
          have hgd_43 : yAg S [7, 22, 23] d d_43 := yAg.tr hgd_41 hgad_43 (by first | decide | exact fun _ h => h)
          have hPod_43 : yPo S d_43 := hpad_43 hPod_41
          refine lv_iload_n hx hb dX7_spans_180 rfl (lv_at hl 4 rfl) ?_
          refine lv_iconst (v := 1) hx hb dX7_spans_181 (by decide) ?_
          refine lv_icmp_ne (tgt := 215) hx hb dX7_spans_182 (by decide) (fun c_44 => ?_) (fun c_44 => ?_)
          · refine lv_aload_n hx hb dX7_spans_215 rfl (lv_at hl 5 rfl) ?_
            refine yget (ci := 7) (k := 8) (v := .int (d_43.1 h0 8)) (C := RX7) (T := TX7) (N := 18) C0 hK hP hm_h0 hk_h0 (by decide) rfl inlX7 (by decide) mW743 (fun _ h9 => h9) rfl dX7_spans_216 ?_
            refine lv_topi (fun z_45 ez_45 => ?_)
            refine lv_iload hx hb dX7_spans_219 (lv_at hl 1 rfl) ?_
            refine lv_icmp_lt (tgt := 237) hx hb dX7_spans_221 (by decide) (fun c_46 => ?_) (fun c_46 => ?_)
            · refine lv_iconst (v := 0) hx hb dX7_spans_237 (by decide) ?_
              exact W.zret (v := 0) (ty := .boolean) hx hb hr rfl (fun t ht hW => ⟨⟨0, d_43, rfl, ⟨hgd_43, (fun _ => hPod_43), Or.inl rfl⟩, by rw [ht]; exact hP, hD⟩, hS.F ht⟩) hS.2.2 dX7_spans_238
            · refine lv_aload_n hx hb dX7_spans_224 rfl (lv_at hl 5 rfl) ?_
              refine yget (ci := 7) (k := 8) (v := .int (d_43.1 h0 8)) (C := RX7) (T := TX7) (N := 18) C0 hK hP hm_h0 hk_h0 (by decide) rfl inlX7 (by decide) mW743 (fun _ h9 => h9) rfl dX7_spans_225 ?_
              refine lv_topi (fun z_47 ez_47 => ?_)
              refine lv_iload hx hb dX7_spans_228 (lv_at hl 0 rfl) ?_
              refine lv_icmp_ge (tgt := 237) hx hb dX7_spans_230 (by decide) (fun c_48 => ?_) (fun c_48 => ?_)
              · refine lv_iconst (v := 0) hx hb dX7_spans_237 (by decide) ?_
                exact W.zret (v := 0) (ty := .boolean) hx hb hr rfl (fun t ht hW => ⟨⟨0, d_43, rfl, ⟨hgd_43, (fun _ => hPod_43), Or.inl rfl⟩, by rw [ht]; exact hP, hD⟩, hS.F ht⟩) hS.2.2 dX7_spans_238
              · refine lv_iconst (v := 1) hx hb dX7_spans_233 (by decide) ?_
                refine lv_goto (tgt := 238) hx hb dX7_spans_234 (by decide) ?_
                exact W.zret (v := 1) (ty := .boolean) hx hb hr rfl (fun t ht hW => ⟨⟨1, d_43, rfl, ⟨hgd_43, (fun _ => hPod_43), Or.inr rfl⟩, by rw [ht]; exact hP, hD⟩, hS.F ht⟩) hS.2.2 dX7_spans_238
          · refine lv_iload_n hx hb dX7_spans_185 rfl (lv_at hl 3 rfl) ?_
            refine lv_iload hx hb dX7_spans_186 (lv_at hl 2 rfl) ?_
            refine lv_icmp_le (tgt := 215) hx hb dX7_spans_188 (by decide) (fun c_49 => ?_) (fun c_49 => ?_)
            · refine lv_aload_n hx hb dX7_spans_215 rfl (lv_at hl 5 rfl) ?_
              refine yget (ci := 7) (k := 8) (v := .int (d_43.1 h0 8)) (C := RX7) (T := TX7) (N := 18) C0 hK hP hm_h0 hk_h0 (by decide) rfl inlX7 (by decide) mW743 (fun _ h9 => h9) rfl dX7_spans_216 ?_
              refine lv_topi (fun z_50 ez_50 => ?_)
              refine lv_iload hx hb dX7_spans_219 (lv_at hl 1 rfl) ?_
              refine lv_icmp_lt (tgt := 237) hx hb dX7_spans_221 (by decide) (fun c_51 => ?_) (fun c_51 => ?_)
              · refine lv_iconst (v := 0) hx hb dX7_spans_237 (by decide) ?_
                exact W.zret (v := 0) (ty := .boolean) hx hb hr rfl (fun t ht hW => ⟨⟨0, d_43, rfl, ⟨hgd_43, (fun _ => hPod_43), Or.inl rfl⟩, by rw [ht]; exact hP, hD⟩, hS.F ht⟩) hS.2.2 dX7_spans_238
              · refine lv_aload_n hx hb dX7_spans_224 rfl (lv_at hl 5 rfl) ?_
                refine yget (ci := 7) (k := 8) (v := .int (d_43.1 h0 8)) (C := RX7) (T := TX7) (N := 18) C0 hK hP hm_h0 hk_h0 (by decide) rfl inlX7 (by decide) mW743 (fun _ h9 => h9) rfl dX7_spans_225 ?_
                refine lv_topi (fun z_52 ez_52 => ?_)
                refine lv_iload hx hb dX7_spans_228 (lv_at hl 0 rfl) ?_
                refine lv_icmp_ge (tgt := 237) hx hb dX7_spans_230 (by decide) (fun c_53 => ?_) (fun c_53 => ?_)
                · refine lv_iconst (v := 0) hx hb dX7_spans_237 (by decide) ?_
                  exact W.zret (v := 0) (ty := .boolean) hx hb hr rfl (fun t ht hW => ⟨⟨0, d_43, rfl, ⟨hgd_43, (fun _ => hPod_43), Or.inl rfl⟩, by rw [ht]; exact hP, hD⟩, hS.F ht⟩) hS.2.2 dX7_spans_238
                · refine lv_iconst (v := 1) hx hb dX7_spans_233 (by decide) ?_
                  refine lv_goto (tgt := 238) hx hb dX7_spans_234 (by decide) ?_
                  exact W.zret (v := 1) (ty := .boolean) hx hb hr rfl (fun t ht hW => ⟨⟨1, d_43, rfl, ⟨hgd_43, (fun _ => hPod_43), Or.inr rfl⟩, by rw [ht]; exact hP, hD⟩, hS.F ht⟩) hS.2.2 dX7_spans_238
            · refine lv_aload_n hx hb dX7_spans_191 rfl (lv_at hl 5 rfl) ?_
              refine yget (ci := 7) (k := 8) (v := .int (d_43.1 h0 8)) (C := RX7) (T := TX7) (N := 18) C0 hK hP hm_h0 hk_h0 (by decide) rfl inlX7 (by decide) mW743 (fun _ h9 => h9) rfl dX7_spans_192 ?_
              refine lv_topi (fun z_54 ez_54 => ?_)
              refine lv_iload hx hb dX7_spans_195 (lv_at hl 1 rfl) ?_
              refine lv_icmp_ge (tgt := 209) hx hb dX7_spans_197 (by decide) (fun c_55 => ?_) (fun c_55 => ?_)
              · refine lv_iconst (v := 1) hx hb dX7_spans_209 (by decide) ?_
                refine lv_goto (tgt := 214) hx hb dX7_spans_210 (by decide) ?_
                exact W.zret (v := 1) (ty := .boolean) hx hb hr rfl (fun t ht hW => ⟨⟨1, d_43, rfl, ⟨hgd_43, (fun _ => hPod_43), Or.inr rfl⟩, by rw [ht]; exact hP, hD⟩, hS.F ht⟩) hS.2.2 dX7_spans_214
              · refine lv_aload_n hx hb dX7_spans_200 rfl (lv_at hl 5 rfl) ?_
                refine yget (ci := 7) (k := 8) (v := .int (d_43.1 h0 8)) (C := RX7) (T := TX7) (N := 18) C0 hK hP hm_h0 hk_h0 (by decide) rfl inlX7 (by decide) mW743 (fun _ h9 => h9) rfl dX7_spans_201 ?_
                refine lv_topi (fun z_56 ez_56 => ?_)
                refine lv_iload hx hb dX7_spans_204 (lv_at hl 0 rfl) ?_
                refine lv_icmp_ge (tgt := 213) hx hb dX7_spans_206 (by decide) (fun c_57 => ?_) (fun c_57 => ?_)
                · refine lv_iconst (v := 0) hx hb dX7_spans_213 (by decide) ?_
                  exact W.zret (v := 0) (ty := .boolean) hx hb hr rfl (fun t ht hW => ⟨⟨0, d_43, rfl, ⟨hgd_43, (fun _ => hPod_43), Or.inl rfl⟩, by rw [ht]; exact hP, hD⟩, hS.F ht⟩) hS.2.2 dX7_spans_214
                · refine lv_iconst (v := 1) hx hb dX7_spans_209 (by decide) ?_
                  refine lv_goto (tgt := 214) hx hb dX7_spans_210 (by decide) ?_
                  exact W.zret (v := 1) (ty := .boolean) hx hb hr rfl (fun t ht hW => ⟨⟨1, d_43, rfl, ⟨hgd_43, (fun _ => hPod_43), Or.inr rfl⟩, by rw [ht]; exact hP, hD⟩, hS.F ht⟩) hS.2.2 dX7_spans_214
        refine lv_icmp_ne (tgt := 164) hx hb dX7_spans_153 (by decide) (fun c_58 => ?_) (fun c_58 => ?_)
        · refine lv_iload hx hb dX7_spans_164 (lv_at hl 2 rfl) ?_
          exact J166_39 r_8 ls _ ⟨rfl, lv_sub hl [0, 2, 3, 4, 5] rfl⟩
        · refine lv_iload hx hb dX7_spans_156 (lv_at hl 1 rfl) ?_
          refine lv_iload hx hb dX7_spans_158 (lv_at hl 2 rfl) ?_
          refine lv_iadd hx hb dX7_spans_160 ?_
          refine lv_topi (fun z_59 ez_59 => ?_)
          refine lv_goto (tgt := 166) hx hb dX7_spans_161 (by decide) ?_
          exact J166_39 z_59 ls _ ⟨rfl, lv_sub hl [0, 2, 3, 4, 5] rfl⟩
      refine lv_icmp_ne (tgt := 148) hx hb dX7_spans_138 (by decide) (fun c_60 => ?_) (fun c_60 => ?_)
      · refine lv_iload_n hx hb dX7_spans_148 rfl (lv_at hl 2 rfl) ?_
        exact J149_38 r_6 ls _ ⟨rfl, lv_sub hl [0, 1, 2, 3, 4] rfl⟩
      · refine lv_iload hx hb dX7_spans_141 (lv_at hl 0 rfl) ?_
        refine lv_iload_n hx hb dX7_spans_143 rfl (lv_at hl 2 rfl) ?_
        refine lv_iadd hx hb dX7_spans_144 ?_
        refine lv_topi (fun z_61 ez_61 => ?_)
        refine lv_goto (tgt := 149) hx hb dX7_spans_145 (by decide) ?_
        exact J149_38 z_61 ls _ ⟨rfl, lv_sub hl [0, 1, 2, 3, 4] rfl⟩
    · subst hsw_12
      refine lv_tableIn (tgt := 94) (off := 33) hx hb dX7_spans_61 (by decide +kernel) (by decide +kernel) (by decide +kernel) (by decide) ?_
      refine lv_aload_n hx hb dX7_spans_94 rfl (lv_at hl 4 rfl) ?_
      refine yget (ci := 7) (k := 7) (v := .ref (d.2.2.1 h0)) (C := RX7) (T := TX7) (N := 18) C0 hK hP hm_h0 hk_h0 (by decide) rfl inlX7 (by decide) mW98 (fun _ h9 => h9) rfl dX7_spans_95 ?_
      obtain ⟨hmy_62, hky_62⟩ := hPo.1 _ hm_h0 hk_h0
      refine yget (ci := 4) (k := 1) (v := .ref (S.2.2.1 (d.2.2.1 h0) 1)) (C := RX4) (T := TX4) (N := 11) C0 hK hP hmy_62 hky_62 (by decide) rfl inlX4 (by decide) mW793 (fun _ h9 => h9) rfl dX7_spans_98 ?_
      obtain ⟨hmy_63, hky_63⟩ := ySh.f4_1 hSh _ hmy_62 hky_62
      refine lv_aload_n hx hb dX7_spans_101 rfl (lv_at hl 4 rfl) ?_
      refine yget (ci := 7) (k := 8) (v := .int (d.1 h0 8)) (C := RX7) (T := TX7) (N := 18) C0 hK hP hm_h0 hk_h0 (by decide) rfl inlX7 (by decide) mW743 (fun _ h9 => h9) rfl dX7_spans_102 ?_
      refine lv_topi (fun z_64 ez_64 => ?_)
      refine lv_sipush (v := 1440) hx hb dX7_spans_105 (by decide) ?_
      refine lv_idiv hx hb dX7_spans_108 (by decide) ?_
      refine lv_topi (fun z_65 ez_65 => ?_)
      refine ySNri (As := [.ref (S.2.2.1 (d.2.2.1 h0) 1), .int z_65]) (rest := []) C0 (g_X8_at l G S d (S.2.2.1 (d.2.2.1 h0) 1) 21 z_65 hmy_63 hky_63 (by decide) rfl rfl (by decide)) ok_X8_at (xN.n12 hN) ⟨Nat.le_of_ble_eq_true rfl, Nat.le_of_ble_eq_true rfl⟩ hP hD hK hN rfl hl.1 rfl (Nat.le_of_ble_eq_true rfl) ⟨Nat.le_of_ble_eq_true rfl, Nat.le_of_ble_eq_true rfl⟩ dX7_spans_109 (fun r_66 hr_66 => ?_)
      refine lv_iconst (v := 1) hx hb dX7_spans_112 (by decide) ?_
      refine lv_icmp_ne (tgt := 120) hx hb dX7_spans_113 (by decide) (fun c_67 => ?_) (fun c_67 => ?_)
      · refine lv_iconst (v := 0) hx hb dX7_spans_120 (by decide) ?_
        exact W.zret (v := 0) (ty := .boolean) hx hb hr rfl (fun t ht hW => ⟨⟨0, d, rfl, ⟨hg0, (fun _ => hPo), Or.inl rfl⟩, by rw [ht]; exact hP, hD⟩, hS.F ht⟩) hS.2.2 dX7_spans_121
      · refine lv_iconst (v := 1) hx hb dX7_spans_116 (by decide) ?_
        refine lv_goto (tgt := 121) hx hb dX7_spans_117 (by decide) ?_
        exact W.zret (v := 1) (ty := .boolean) hx hb hr rfl (fun t ht hW => ⟨⟨1, d, rfl, ⟨hg0, (fun _ => hPo), Or.inr rfl⟩, by rw [ht]; exact hP, hD⟩, hS.F ht⟩) hS.2.2 dX7_spans_121
    · subst hsw_12
      refine lv_tableIn (tgt := 122) (off := 61) hx hb dX7_spans_61 (by decide +kernel) (by decide +kernel) (by decide +kernel) (by decide) ?_
      refine lv_aload_n hx hb dX7_spans_122 rfl (lv_at hl 4 rfl) ?_
      refine yget (ci := 7) (k := 15) (v := .int (d.1 h0 15)) (C := RX7) (T := TX7) (N := 18) C0 hK hP hm_h0 hk_h0 (by decide) rfl inlX7 (by decide) mW752 (fun _ h9 => h9) rfl dX7_spans_123 ?_
      refine lv_topi (fun z_68 ez_68 => ?_)
      refine lv_iload_n hx hb dX7_spans_126 rfl (lv_at hl 2 rfl) ?_
      refine lv_icmp_ne (tgt := 134) hx hb dX7_spans_127 (by decide) (fun c_69 => ?_) (fun c_69 => ?_)
      · refine lv_iconst (v := 0) hx hb dX7_spans_134 (by decide) ?_
        exact W.zret (v := 0) (ty := .boolean) hx hb hr rfl (fun t ht hW => ⟨⟨0, d, rfl, ⟨hg0, (fun _ => hPo), Or.inl rfl⟩, by rw [ht]; exact hP, hD⟩, hS.F ht⟩) hS.2.2 dX7_spans_135
      · refine lv_iconst (v := 1) hx hb dX7_spans_130 (by decide) ?_
        refine lv_goto (tgt := 135) hx hb dX7_spans_131 (by decide) ?_
        exact W.zret (v := 1) (ty := .boolean) hx hb hr rfl (fun t ht hW => ⟨⟨1, d, rfl, ⟨hg0, (fun _ => hPo), Or.inr rfl⟩, by rw [ht]; exact hP, hD⟩, hS.F ht⟩) hS.2.2 dX7_spans_135
theorem dX5_read_0 : decode cX5_read 0 = .ok (.aload_n 1, 1) := by decide +kernel
theorem dX5_read_1 : decode cX5_read 1 = .ok (.iload_n 2, 1) := by decide +kernel
theorem dX5_read_2 : decode cX5_read 2 = .ok (.invokevirtual 9, 3) := by decide +kernel
theorem dX5_read_5 : decode cX5_read 5 = .ok (.astore_n 3, 1) := by decide +kernel
theorem dX5_read_6 : decode cX5_read 6 = .ok (.aload_n 1, 1) := by decide +kernel
theorem dX5_read_7 : decode cX5_read 7 = .ok (.getfield 15, 3) := by decide +kernel
theorem dX5_read_10 : decode cX5_read 10 = .ok (.astore 4, 2) := by decide +kernel
theorem dX5_read_12 : decode cX5_read 12 = .ok (.aload 4, 2) := by decide +kernel
theorem dX5_read_14 : decode cX5_read 14 = .ok (.iload_n 2, 1) := by decide +kernel
theorem dX5_read_15 : decode cX5_read 15 = .ok (.iconst 0, 1) := by decide +kernel
theorem dX5_read_16 : decode cX5_read 16 = .ok (.iconst 0, 1) := by decide +kernel
theorem dX5_read_17 : decode cX5_read 17 = .ok (.invokevirtual 19, 3) := by decide +kernel
theorem dX5_read_20 : decode cX5_read 20 = .ok (.istore 5, 2) := by decide +kernel
theorem dX5_read_22 : decode cX5_read 22 = .ok (.aload 4, 2) := by decide +kernel
theorem dX5_read_24 : decode cX5_read 24 = .ok (.iload_n 2, 1) := by decide +kernel
theorem dX5_read_25 : decode cX5_read 25 = .ok (.iconst 0, 1) := by decide +kernel
theorem dX5_read_26 : decode cX5_read 26 = .ok (.iconst 1, 1) := by decide +kernel
theorem dX5_read_27 : decode cX5_read 27 = .ok (.invokevirtual 19, 3) := by decide +kernel
theorem dX5_read_30 : decode cX5_read 30 = .ok (.istore 6, 2) := by decide +kernel
theorem dX5_read_32 : decode cX5_read 32 = .ok (.iload 5, 2) := by decide +kernel
theorem dX5_read_34 : decode cX5_read 34 = .ok (.iconst (-1), 1) := by decide +kernel
theorem dX5_read_35 : decode cX5_read 35 = .ok (.if_icmp .eq 13, 3) := by decide +kernel
theorem dX5_read_38 : decode cX5_read 38 = .ok (.iload 6, 2) := by decide +kernel
theorem dX5_read_40 : decode cX5_read 40 = .ok (.iconst (-1), 1) := by decide +kernel
theorem dX5_read_41 : decode cX5_read 41 = .ok (.if_icmp .eq 7, 3) := by decide +kernel
theorem dX5_read_44 : decode cX5_read 44 = .ok (.iconst 1, 1) := by decide +kernel
theorem dX5_read_45 : decode cX5_read 45 = .ok (.goto 4, 3) := by decide +kernel
theorem dX5_read_48 : decode cX5_read 48 = .ok (.iconst 0, 1) := by decide +kernel
theorem dX5_read_49 : decode cX5_read 49 = .ok (.istore 7, 2) := by decide +kernel
theorem dX5_read_51 : decode cX5_read 51 = .ok (.aload_n 0, 1) := by decide +kernel
theorem dX5_read_52 : decode cX5_read 52 = .ok (.iload 7, 2) := by decide +kernel
theorem dX5_read_54 : decode cX5_read 54 = .ok (.ifCond .eq 17, 3) := by decide +kernel
theorem dX5_read_57 : decode cX5_read 57 = .ok (.aload_n 3, 1) := by decide +kernel
theorem dX5_read_58 : decode cX5_read 58 = .ok (.iload 5, 2) := by decide +kernel
theorem dX5_read_60 : decode cX5_read 60 = .ok (.iload 6, 2) := by decide +kernel
theorem dX5_read_62 : decode cX5_read 62 = .ok (.invokestatic 25, 3) := by decide +kernel
theorem dX5_read_65 : decode cX5_read 65 = .ok (.invokevirtual 31, 3) := by decide +kernel
theorem dX5_read_68 : decode cX5_read 68 = .ok (.goto 4, 3) := by decide +kernel
theorem dX5_read_71 : decode cX5_read 71 = .ok (.iconst (-1), 1) := by decide +kernel
theorem dX5_read_72 : decode cX5_read 72 = .ok (.putfield 37, 3) := by decide +kernel
theorem dX5_read_75 : decode cX5_read 75 = .ok (.aload_n 0, 1) := by decide +kernel
theorem dX5_read_76 : decode cX5_read 76 = .ok (.aload_n 0, 1) := by decide +kernel
theorem dX5_read_77 : decode cX5_read 77 = .ok (.getfield 37, 3) := by decide +kernel
theorem dX5_read_80 : decode cX5_read 80 = .ok (.iconst (-1), 1) := by decide +kernel
theorem dX5_read_81 : decode cX5_read 81 = .ok (.if_icmp .ne 7, 3) := by decide +kernel
theorem dX5_read_84 : decode cX5_read 84 = .ok (.iconst (-1), 1) := by decide +kernel
theorem dX5_read_85 : decode cX5_read 85 = .ok (.goto 12, 3) := by decide +kernel
theorem dX5_read_88 : decode cX5_read 88 = .ok (.aload_n 0, 1) := by decide +kernel
theorem dX5_read_89 : decode cX5_read 89 = .ok (.getfield 37, 3) := by decide +kernel
theorem dX5_read_92 : decode cX5_read 92 = .ok (.aload_n 3, 1) := by decide +kernel
theorem dX5_read_93 : decode cX5_read 93 = .ok (.getfield 43, 3) := by decide +kernel
theorem dX5_read_96 : decode cX5_read 96 = .ok (.iadd, 1) := by decide +kernel
theorem dX5_read_97 : decode cX5_read 97 = .ok (.putfield 46, 3) := by decide +kernel
theorem dX5_read_100 : decode cX5_read 100 = .ok (.aload_n 0, 1) := by decide +kernel
theorem dX5_read_101 : decode cX5_read 101 = .ok (.aload_n 0, 1) := by decide +kernel
theorem dX5_read_102 : decode cX5_read 102 = .ok (.getfield 37, 3) := by decide +kernel
theorem dX5_read_105 : decode cX5_read 105 = .ok (.iconst (-1), 1) := by decide +kernel
theorem dX5_read_106 : decode cX5_read 106 = .ok (.if_icmp .eq 18, 3) := by decide +kernel
theorem dX5_read_109 : decode cX5_read 109 = .ok (.aload_n 0, 1) := by decide +kernel
theorem dX5_read_110 : decode cX5_read 110 = .ok (.getfield 46, 3) := by decide +kernel
theorem dX5_read_113 : decode cX5_read 113 = .ok (.aload_n 3, 1) := by decide +kernel
theorem dX5_read_114 : decode cX5_read 114 = .ok (.invokevirtual 49, 3) := by decide +kernel
theorem dX5_read_117 : decode cX5_read 117 = .ok (.if_icmp .ge 7, 3) := by decide +kernel
theorem dX5_read_120 : decode cX5_read 120 = .ok (.iconst 1, 1) := by decide +kernel
theorem dX5_read_121 : decode cX5_read 121 = .ok (.goto 4, 3) := by decide +kernel
theorem dX5_read_124 : decode cX5_read 124 = .ok (.iconst 0, 1) := by decide +kernel
theorem dX5_read_125 : decode cX5_read 125 = .ok (.putfield 53, 3) := by decide +kernel
theorem dX5_read_128 : decode cX5_read 128 = .ok (.aload_n 0, 1) := by decide +kernel
theorem dX5_read_129 : decode cX5_read 129 = .ok (.aload_n 1, 1) := by decide +kernel
theorem dX5_read_130 : decode cX5_read 130 = .ok (.getfield 57, 3) := by decide +kernel
theorem dX5_read_133 : decode cX5_read 133 = .ok (.aload_n 3, 1) := by decide +kernel
theorem dX5_read_134 : decode cX5_read 134 = .ok (.getfield 61, 3) := by decide +kernel
theorem dX5_read_137 : decode cX5_read 137 = .ok (.aload_n 3, 1) := by decide +kernel
theorem dX5_read_138 : decode cX5_read 138 = .ok (.getfield 64, 3) := by decide +kernel
theorem dX5_read_141 : decode cX5_read 141 = .ok (.invokevirtual 68, 3) := by decide +kernel
theorem dX5_read_144 : decode cX5_read 144 = .ok (.putfield 74, 3) := by decide +kernel
theorem dX5_read_147 : decode cX5_read 147 = .ok (.aload_n 0, 1) := by decide +kernel
theorem dX5_read_148 : decode cX5_read 148 = .ok (.getfield 53, 3) := by decide +kernel
theorem dX5_read_151 : decode cX5_read 151 = .ok (.ifCond .eq 18, 3) := by decide +kernel
theorem dX5_read_154 : decode cX5_read 154 = .ok (.aload 4, 2) := by decide +kernel
theorem dX5_read_156 : decode cX5_read 156 = .ok (.iload_n 2, 1) := by decide +kernel
theorem dX5_read_157 : decode cX5_read 157 = .ok (.aload_n 0, 1) := by decide +kernel
theorem dX5_read_158 : decode cX5_read 158 = .ok (.getfield 46, 3) := by decide +kernel
theorem dX5_read_161 : decode cX5_read 161 = .ok (.bipush 7, 2) := by decide +kernel
theorem dX5_read_163 : decode cX5_read 163 = .ok (.invokevirtual 19, 3) := by decide +kernel
theorem dX5_read_166 : decode cX5_read 166 = .ok (.goto 4, 3) := by decide +kernel
theorem dX5_read_169 : decode cX5_read 169 = .ok (.iconst (-1), 1) := by decide +kernel
theorem dX5_read_170 : decode cX5_read 170 = .ok (.istore 8, 2) := by decide +kernel
theorem dX5_read_172 : decode cX5_read 172 = .ok (.aload_n 0, 1) := by decide +kernel
theorem dX5_read_173 : decode cX5_read 173 = .ok (.iload 8, 2) := by decide +kernel
theorem dX5_read_175 : decode cX5_read 175 = .ok (.iconst (-1), 1) := by decide +kernel
theorem dX5_read_176 : decode cX5_read 176 = .ok (.if_icmp .eq 7, 3) := by decide +kernel
theorem dX5_read_179 : decode cX5_read 179 = .ok (.iconst 1, 1) := by decide +kernel
theorem dX5_read_180 : decode cX5_read 180 = .ok (.goto 4, 3) := by decide +kernel
theorem dX5_read_183 : decode cX5_read 183 = .ok (.iconst 0, 1) := by decide +kernel
theorem dX5_read_184 : decode cX5_read 184 = .ok (.putfield 77, 3) := by decide +kernel
theorem dX5_read_187 : decode cX5_read 187 = .ok (.aload_n 0, 1) := by decide +kernel
theorem dX5_read_188 : decode cX5_read 188 = .ok (.aload_n 0, 1) := by decide +kernel
theorem dX5_read_189 : decode cX5_read 189 = .ok (.getfield 53, 3) := by decide +kernel
theorem dX5_read_192 : decode cX5_read 192 = .ok (.ifCond .eq 10, 3) := by decide +kernel
theorem dX5_read_195 : decode cX5_read 195 = .ok (.aload_n 0, 1) := by decide +kernel
theorem dX5_read_196 : decode cX5_read 196 = .ok (.getfield 46, 3) := by decide +kernel
theorem dX5_read_199 : decode cX5_read 199 = .ok (.goto 4, 3) := by decide +kernel
theorem dX5_read_202 : decode cX5_read 202 = .ok (.iconst 0, 1) := by decide +kernel
theorem dX5_read_203 : decode cX5_read 203 = .ok (.putfield 80, 3) := by decide +kernel
theorem dX5_read_206 : decode cX5_read 206 = .ok (.aload_n 0, 1) := by decide +kernel
theorem dX5_read_207 : decode cX5_read 207 = .ok (.aload_n 0, 1) := by decide +kernel
theorem dX5_read_208 : decode cX5_read 208 = .ok (.getfield 77, 3) := by decide +kernel
theorem dX5_read_211 : decode cX5_read 211 = .ok (.ifCond .eq 8, 3) := by decide +kernel
theorem dX5_read_214 : decode cX5_read 214 = .ok (.iload 8, 2) := by decide +kernel
theorem dX5_read_216 : decode cX5_read 216 = .ok (.goto 18, 3) := by decide +kernel
theorem dX5_read_219 : decode cX5_read 219 = .ok (.aload_n 0, 1) := by decide +kernel
theorem dX5_read_220 : decode cX5_read 220 = .ok (.getfield 53, 3) := by decide +kernel
theorem dX5_read_223 : decode cX5_read 223 = .ok (.ifCond .eq 10, 3) := by decide +kernel
theorem dX5_read_226 : decode cX5_read 226 = .ok (.aload_n 3, 1) := by decide +kernel
theorem dX5_read_227 : decode cX5_read 227 = .ok (.invokevirtual 49, 3) := by decide +kernel
theorem dX5_read_230 : decode cX5_read 230 = .ok (.goto 4, 3) := by decide +kernel
theorem dX5_read_233 : decode cX5_read 233 = .ok (.iconst 0, 1) := by decide +kernel
theorem dX5_read_234 : decode cX5_read 234 = .ok (.putfield 83, 3) := by decide +kernel
theorem dX5_read_237 : decode cX5_read 237 = .ok (.return_, 1) := by decide +kernel
set_option maxHeartbeats 4000000 in
set_option maxRecDepth 100000 in
theorem g_X5_read (l : Launch) (G : xG) (S : yS) (d : yD) (h0 : Nat) (b0 : Nat) (p0 : Int32) (hSh : ySh S) (hPo : yPo S d) (hm_h0 : h0 ∈ S.1) (hk_h0 : S.2.1 h0 = 5) (hm_b0 : b0 ∈ S.1) (hk_b0 : S.2.1 b0 = 0) : xWv l G yX5_read cX5_read 9 none 3 74 0 0 [.ref h0, .ref b0, .int p0] (yW G S d) (fun u : yD => yAg S [5] d u ∧ (yPo S d → yPo S u) ∧ (True)) (fun u => yW G S u) := by
  intro sz
  refine xstart (by decide) (Nat.le_of_ble_eq_true rfl) (fun p e s m args below meth c ls C0 hr hlocks hin hsz hP hK hD hN hl => ?_)
  obtain ⟨hx, hb, hml, hown, htl⟩ := id C0
  subst hsz
  have hD := hD.self (sz := s.heap.size)
  generalize hAe : va_A (yW G S d) s.heap.size = A at hD ⊢
  have hA : ∀ q : Nat, s.heap.size ≤ q → A q := fun q h => by rw [← hAe]; exact Or.inr h
  have hS : va_S A s.heap s.heap [] := va_S.rf
  have hg0 : yAg S [5] d d := yAg.rf
  have hl : lv_has ls 9 [(0, .ref h0), (1, .ref b0), (2, .int p0)] := hl
  refine lv_aload_n hx hb dX5_read_0 rfl (lv_at hl 1 rfl) ?_
  refine lv_iload_n hx hb dX5_read_1 rfl (lv_at hl 2 rfl) ?_
  refine yVrr (As := [.int p0]) (rest := []) C0 (g_X0_portAt l G S d b0 p0 hSh hm_b0 hk_b0) ok_X0_portAt (mW593 : Cond.methodLink RX5 9 yX0_portAt ∈ wsT) ⟨Nat.le_of_ble_eq_true rfl, Nat.le_of_ble_eq_true rfl⟩ hP hD hK hN hm_b0 hk_b0 (by decide) rfl rfl rfl hl.1 rfl (Nat.le_of_ble_eq_true rfl) ⟨Nat.le_of_ble_eq_true rfl, Nat.le_of_ble_eq_true rfl⟩ dX5_read_2 (fun r_1 hr_1 => ?_)
  obtain ⟨hmr_1, hkr_1, her_1⟩ := hr_1
  refine lv_astore_n (lv' := [(3, .ref r_1), (0, .ref h0), (1, .ref b0), (2, .int p0)]) hx hb dX5_read_5 rfl hl (by decide) rfl (fun ls hl => ?_)
  refine lv_aload_n hx hb dX5_read_6 rfl (lv_at hl 2 rfl) ?_
  refine yget (ci := 0) (k := 1) (v := .ref (S.2.2.1 b0 1)) (C := RX0) (T := TX0) (N := 6) C0 hK hP hm_b0 hk_b0 (by decide) rfl inlX0 (by decide) mW578 (fun _ h9 => h9) rfl dX5_read_7 ?_
  obtain ⟨hmy_2, hky_2⟩ := ySh.f0_1 hSh _ hm_b0 hk_b0
  refine lv_astore (lv' := [(4, .ref (S.2.2.1 b0 1)), (3, .ref r_1), (0, .ref h0), (1, .ref b0), (2, .int p0)]) hx hb dX5_read_10 hl (by decide) rfl (fun ls hl => ?_)
  refine lv_aload hx hb dX5_read_12 (lv_at hl 0 rfl) ?_
  refine lv_iload_n hx hb dX5_read_14 rfl (lv_at hl 4 rfl) ?_
  refine lv_iconst (v := 0) hx hb dX5_read_15 (by decide) ?_
  refine lv_iconst (v := 0) hx hb dX5_read_16 (by decide) ?_
  refine yVri (As := [.int p0, .int 0, .int 0]) (rest := []) C0 (g_X2_firstOf l G S d (S.2.2.1 b0 1) p0 0 0 hSh hmy_2 hky_2) ok_X2_firstOf (mW594 : Cond.methodLink RX5 19 yX2_firstOf ∈ wsT) ⟨Nat.le_of_ble_eq_true rfl, Nat.le_of_ble_eq_true rfl⟩ hP hD hK hN hmy_2 hky_2 (by decide) rfl rfl rfl hl.1 rfl (Nat.le_of_ble_eq_true rfl) ⟨Nat.le_of_ble_eq_true rfl, Nat.le_of_ble_eq_true rfl⟩ dX5_read_17 (fun r_3 hr_3 => ?_)
  refine lv_istore (lv' := [(5, .int r_3), (4, .ref (S.2.2.1 b0 1)), (3, .ref r_1), (0, .ref h0), (1, .ref b0), (2, .int p0)]) hx hb dX5_read_20 hl (by decide) rfl (fun ls hl => ?_)
  refine lv_aload hx hb dX5_read_22 (lv_at hl 1 rfl) ?_
  refine lv_iload_n hx hb dX5_read_24 rfl (lv_at hl 5 rfl) ?_
  refine lv_iconst (v := 0) hx hb dX5_read_25 (by decide) ?_
  refine lv_iconst (v := 1) hx hb dX5_read_26 (by decide) ?_
  refine yVri (As := [.int p0, .int 0, .int 1]) (rest := []) C0 (g_X2_firstOf l G S d (S.2.2.1 b0 1) p0 0 1 hSh hmy_2 hky_2) ok_X2_firstOf (mW594 : Cond.methodLink RX5 19 yX2_firstOf ∈ wsT) ⟨Nat.le_of_ble_eq_true rfl, Nat.le_of_ble_eq_true rfl⟩ hP hD hK hN hmy_2 hky_2 (by decide) rfl rfl rfl hl.1 rfl (Nat.le_of_ble_eq_true rfl) ⟨Nat.le_of_ble_eq_true rfl, Nat.le_of_ble_eq_true rfl⟩ dX5_read_27 (fun r_4 hr_4 => ?_)
  refine lv_istore (lv' := [(6, .int r_4), (5, .int r_3), (4, .ref (S.2.2.1 b0 1)), (3, .ref r_1), (0, .ref h0), (1, .ref b0), (2, .int p0)]) hx hb dX5_read_30 hl (by decide) rfl (fun ls hl => ?_)
  refine lv_iload hx hb dX5_read_32 (lv_at hl 1 rfl) ?_
  refine lv_iconst (v := (-1)) hx hb dX5_read_34 (by decide) ?_
  refine yjoinR (σ := Int32) 49 (fun x ls st => st = [.int x] ∧ lv_has ls 9 [(6, .int r_4), (5, .int r_3), (4, .ref (S.2.2.1 b0 1)), (3, .ref r_1), (0, .ref h0), (1, .ref b0), (2, .int p0)] ∧ (x = 0 ∨ x = 1)) (fun x ls st hI => ?_) (fun J49_5 => ?_)
  · obtain ⟨v_5, rfl⟩ : ∃ z, z = x := ⟨_, rfl⟩
    obtain ⟨rfl, hl, hzv_5⟩ := hI
    have hl : lv_has ls 9 [(6, .int r_4), (5, .int r_3), (4, .ref (S.2.2.1 b0 1)), (3, .ref r_1), (0, .ref h0), (1, .ref b0), (2, .int p0)] := hl
    refine lv_istore (lv' := [(7, .int v_5), (6, .int r_4), (5, .int r_3), (4, .ref (S.2.2.1 b0 1)), (3, .ref r_1), (0, .ref h0), (1, .ref b0), (2, .int p0)]) hx hb dX5_read_49 hl (by decide) rfl (fun ls hl => ?_)
    refine lv_aload_n hx hb dX5_read_51 rfl (lv_at hl 5 rfl) ?_
    refine lv_iload hx hb dX5_read_52 (lv_at hl 0 rfl) ?_
    refine yjoinR (σ := Int32) 72 (fun x ls st => st = [.int x, .ref h0] ∧ lv_has ls 9 [(4, .ref (S.2.2.1 b0 1)), (3, .ref r_1), (0, .ref h0), (1, .ref b0), (2, .int p0)]) (fun x ls st hI => ?_) (fun J72_6 => ?_)
    · obtain ⟨v_6, rfl⟩ : ∃ z, z = x := ⟨_, rfl⟩
      obtain ⟨rfl, hl⟩ := hI
      have hl : lv_has ls 9 [(4, .ref (S.2.2.1 b0 1)), (3, .ref r_1), (0, .ref h0), (1, .ref b0), (2, .int p0)] := hl
      refine yputI (ci := 5) (k := 0) (ty := .int) (C := RX5) (T := TX5) (N := 7) C0 hK hP hD hS hm_h0 hk_h0 (by decide) rfl inlX5 tyX5 tyX5_ok nmX5 (by decide) mW582 (fun _ h9 => h9) rfl (by decide +kernel) rfl rfl (Nat.le_of_ble_eq_true rfl) ysi_5_0 dX5_read_72 (fun H locs hP hD hS => ?_)
      obtain ⟨d_7, ed_7⟩ : ∃ z : yD, z = yi d h0 0 v_6 := ⟨_, rfl⟩
      rw [← ed_7] at hP hD
      have hgd_7 : yAg S [5] d d_7 := by rw [ed_7]; exact yAg.i hg0 (by rw [hk_h0]; decide)
      have hPod_7 : yPo S d_7 := by rw [ed_7]; exact yPo.i hPo hk_h0 (Or.inl rfl)
      refine lv_aload_n hx hb dX5_read_75 rfl (lv_at hl 2 rfl) ?_
      refine lv_aload_n hx hb dX5_read_76 rfl (lv_at hl 2 rfl) ?_
      refine yget (ci := 5) (k := 0) (v := .int (d_7.1 h0 0)) (C := RX5) (T := TX5) (N := 7) C0 hK hP hm_h0 hk_h0 (by decide) rfl inlX5 (by decide) mW582 (fun _ h9 => h9) rfl dX5_read_77 ?_
      refine lv_topi (fun z_8 ez_8 => ?_)
      refine lv_iconst (v := (-1)) hx hb dX5_read_80 (by decide) ?_
      refine yjoinR (σ := Int32) 97 (fun x ls st => st = [.int x, .ref h0] ∧ lv_has ls 9 [(4, .ref (S.2.2.1 b0 1)), (3, .ref r_1), (0, .ref h0), (1, .ref b0), (2, .int p0)]) (fun x ls st hI => ?_) (fun J97_9 => ?_)
      · obtain ⟨v_9, rfl⟩ : ∃ z, z = x := ⟨_, rfl⟩
        obtain ⟨rfl, hl⟩ := hI
        have hl : lv_has ls 9 [(4, .ref (S.2.2.1 b0 1)), (3, .ref r_1), (0, .ref h0), (1, .ref b0), (2, .int p0)] := hl
        refine yputI (ci := 5) (k := 1) (ty := .int) (C := RX5) (T := TX5) (N := 7) C0 hK hP hD hS hm_h0 hk_h0 (by decide) rfl inlX5 tyX5 tyX5_ok nmX5 (by decide) mW584 (fun _ h9 => h9) rfl (by decide +kernel) rfl rfl (Nat.le_of_ble_eq_true rfl) ysi_5_1 dX5_read_97 (fun H locs hP hD hS => ?_)
        obtain ⟨d_10, ed_10⟩ : ∃ z : yD, z = yi d_7 h0 1 v_9 := ⟨_, rfl⟩
        rw [← ed_10] at hP hD
        have hgd_10 : yAg S [5] d d_10 := by rw [ed_10]; exact yAg.i hgd_7 (by rw [hk_h0]; decide)
        have hPod_10 : yPo S d_10 := by rw [ed_10]; exact yPo.i hPod_7 hk_h0 (Or.inl rfl)
        refine lv_aload_n hx hb dX5_read_100 rfl (lv_at hl 2 rfl) ?_
        refine lv_aload_n hx hb dX5_read_101 rfl (lv_at hl 2 rfl) ?_
        refine yget (ci := 5) (k := 0) (v := .int (d_10.1 h0 0)) (C := RX5) (T := TX5) (N := 7) C0 hK hP hm_h0 hk_h0 (by decide) rfl inlX5 (by decide) mW582 (fun _ h9 => h9) rfl dX5_read_102 ?_
        refine lv_topi (fun z_11 ez_11 => ?_)
        refine lv_iconst (v := (-1)) hx hb dX5_read_105 (by decide) ?_
        refine yjoinR (σ := Int32) 125 (fun x ls st => st = [.int x, .ref h0] ∧ lv_has ls 9 [(4, .ref (S.2.2.1 b0 1)), (3, .ref r_1), (0, .ref h0), (1, .ref b0), (2, .int p0)] ∧ (x = 0 ∨ x = 1)) (fun x ls st hI => ?_) (fun J125_12 => ?_)
        · obtain ⟨v_12, rfl⟩ : ∃ z, z = x := ⟨_, rfl⟩
          obtain ⟨rfl, hl, hzv_12⟩ := hI
          have hl : lv_has ls 9 [(4, .ref (S.2.2.1 b0 1)), (3, .ref r_1), (0, .ref h0), (1, .ref b0), (2, .int p0)] := hl
          refine yputI (ci := 5) (k := 5) (ty := .boolean) (C := RX5) (T := TX5) (N := 7) C0 hK hP hD hS hm_h0 hk_h0 (by decide) rfl inlX5 tyX5 tyX5_ok nmX5 (by decide) mW585 (fun _ h9 => h9) rfl (by decide +kernel) (znb hzv_12).1 (znb hzv_12).2 (Nat.le_of_ble_eq_true rfl) ysi_5_5 dX5_read_125 (fun H locs hP hD hS => ?_)
          obtain ⟨d_13, ed_13⟩ : ∃ z : yD, z = yi d_10 h0 5 v_12 := ⟨_, rfl⟩
          rw [← ed_13] at hP hD
          have hgd_13 : yAg S [5] d d_13 := by rw [ed_13]; exact yAg.i hgd_10 (by rw [hk_h0]; decide)
          have hPod_13 : yPo S d_13 := by rw [ed_13]; exact yPo.i hPod_10 hk_h0 (Or.inr hzv_12)
          refine lv_aload_n hx hb dX5_read_128 rfl (lv_at hl 2 rfl) ?_
          refine lv_aload_n hx hb dX5_read_129 rfl (lv_at hl 3 rfl) ?_
          refine yget (ci := 0) (k := 0) (v := .ref (S.2.2.1 b0 0)) (C := RX0) (T := TX0) (N := 6) C0 hK hP hm_b0 hk_b0 (by decide) rfl inlX0 (by decide) mW586 (fun _ h9 => h9) rfl dX5_read_130 ?_
          obtain ⟨hmy_14, hky_14⟩ := ySh.f0_0 hSh _ hm_b0 hk_b0
          refine lv_aload_n hx hb dX5_read_133 rfl (lv_at hl 1 rfl) ?_
          refine yget (ci := 4) (k := 3) (v := .int (d_13.1 r_1 3)) (C := RX4) (T := TX4) (N := 11) C0 hK hP hmr_1 hkr_1 (by decide) rfl inlX4 (by decide) mW587 (fun _ h9 => h9) rfl dX5_read_134 ?_
          refine lv_topi (fun z_15 ez_15 => ?_)
          refine lv_aload_n hx hb dX5_read_137 rfl (lv_at hl 1 rfl) ?_
          refine yget (ci := 4) (k := 8) (v := .long (d_13.2.1 r_1 8)) (C := RX4) (T := TX4) (N := 11) C0 hK hP hmr_1 hkr_1 (by decide) rfl inlX4 (by decide) mW588 (fun _ h9 => h9) rfl dX5_read_138 ?_
          refine lv_topl (fun z_16 ez_16 => ?_)
          refine yVrl (As := [.int z_15, .long z_16]) (rest := [.ref h0]) C0 (g_X6_allowedBy l G S d_13 (S.2.2.1 b0 0) z_15 z_16 hSh hmy_14 hky_14) ok_X6_allowedBy (mW613 : Cond.methodLink RX5 68 yX6_allowedBy ∈ wsT) ⟨Nat.le_of_ble_eq_true rfl, Nat.le_of_ble_eq_true rfl⟩ hP hD hK hN hmy_14 hky_14 (by decide) rfl rfl rfl hl.1 rfl (Nat.le_of_ble_eq_true rfl) ⟨Nat.le_of_ble_eq_true rfl, Nat.le_of_ble_eq_true rfl⟩ dX5_read_141 (fun r_17 hr_17 => ?_)
          refine yputJ (ci := 5) (k := 4) (C := RX5) (T := TX5) (N := 7) C0 hK hP hD hS hm_h0 hk_h0 (by decide) rfl inlX5 tyX5 tyX5_ok nmX5 (by decide) mW589 (fun _ h9 => h9) rfl (by decide +kernel) (Nat.le_of_ble_eq_true rfl) ysj_5_4 dX5_read_144 (fun H locs hP hD hS => ?_)
          obtain ⟨d_18, ed_18⟩ : ∃ z : yD, z = yj d_13 h0 4 r_17 := ⟨_, rfl⟩
          rw [← ed_18] at hP hD
          have hgd_18 : yAg S [5] d d_18 := by rw [ed_18]; exact yAg.j hgd_13 (by rw [hk_h0]; decide)
          have hPod_18 : yPo S d_18 := by rw [ed_18]; exact hPod_13
          refine lv_aload_n hx hb dX5_read_147 rfl (lv_at hl 2 rfl) ?_
          refine yget (ci := 5) (k := 5) (v := .int (d_18.1 h0 5)) (C := RX5) (T := TX5) (N := 7) C0 hK hP hm_h0 hk_h0 (by decide) rfl inlX5 (by decide) mW585 (fun _ h9 => h9) rfl dX5_read_148 ?_
          refine lv_topi (fun z_19 ez_19 => ?_)
          have hzz_19 : z_19 = 0 ∨ z_19 = 1 := by rw [ez_19]; exact yPo.b hPod_18 hm_h0 hk_h0 rfl
          refine yjoinR (σ := Int32) 170 (fun x ls st => st = [.int x] ∧ lv_has ls 9 [(3, .ref r_1), (0, .ref h0)]) (fun x ls st hI => ?_) (fun J170_20 => ?_)
          · obtain ⟨v_20, rfl⟩ : ∃ z, z = x := ⟨_, rfl⟩
            obtain ⟨rfl, hl⟩ := hI
            have hl : lv_has ls 9 [(3, .ref r_1), (0, .ref h0)] := hl
            refine lv_istore (lv' := [(8, .int v_20), (3, .ref r_1), (0, .ref h0)]) hx hb dX5_read_170 hl (by decide) rfl (fun ls hl => ?_)
            refine lv_aload_n hx hb dX5_read_172 rfl (lv_at hl 2 rfl) ?_
            refine lv_iload hx hb dX5_read_173 (lv_at hl 0 rfl) ?_
            refine lv_iconst (v := (-1)) hx hb dX5_read_175 (by decide) ?_
            refine yjoinR (σ := Int32) 184 (fun x ls st => st = [.int x, .ref h0] ∧ lv_has ls 9 [(8, .int v_20), (3, .ref r_1), (0, .ref h0)] ∧ (x = 0 ∨ x = 1)) (fun x ls st hI => ?_) (fun J184_21 => ?_)
            · obtain ⟨v_21, rfl⟩ : ∃ z, z = x := ⟨_, rfl⟩
              obtain ⟨rfl, hl, hzv_21⟩ := hI
              have hl : lv_has ls 9 [(8, .int v_20), (3, .ref r_1), (0, .ref h0)] := hl
              refine yputI (ci := 5) (k := 6) (ty := .boolean) (C := RX5) (T := TX5) (N := 7) C0 hK hP hD hS hm_h0 hk_h0 (by decide) rfl inlX5 tyX5 tyX5_ok nmX5 (by decide) mW590 (fun _ h9 => h9) rfl (by decide +kernel) (znb hzv_21).1 (znb hzv_21).2 (Nat.le_of_ble_eq_true rfl) ysi_5_6 dX5_read_184 (fun H locs hP hD hS => ?_)
              obtain ⟨d_22, ed_22⟩ : ∃ z : yD, z = yi d_18 h0 6 v_21 := ⟨_, rfl⟩
              rw [← ed_22] at hP hD
              have hgd_22 : yAg S [5] d d_22 := by rw [ed_22]; exact yAg.i hgd_18 (by rw [hk_h0]; decide)
              have hPod_22 : yPo S d_22 := by rw [ed_22]; exact yPo.i hPod_18 hk_h0 (Or.inr hzv_21)
              refine lv_aload_n hx hb dX5_read_187 rfl (lv_at hl 2 rfl) ?_
              refine lv_aload_n hx hb dX5_read_188 rfl (lv_at hl 2 rfl) ?_
              refine yget (ci := 5) (k := 5) (v := .int (d_22.1 h0 5)) (C := RX5) (T := TX5) (N := 7) C0 hK hP hm_h0 hk_h0 (by decide) rfl inlX5 (by decide) mW585 (fun _ h9 => h9) rfl dX5_read_189 ?_
              refine lv_topi (fun z_23 ez_23 => ?_)
              have hzz_23 : z_23 = 0 ∨ z_23 = 1 := by rw [ez_23]; exact yPo.b hPod_22 hm_h0 hk_h0 rfl
              refine yjoinR (σ := Int32) 203 (fun x ls st => st = [.int x, .ref h0] ∧ lv_has ls 9 [(8, .int v_20), (3, .ref r_1), (0, .ref h0)]) (fun x ls st hI => ?_) (fun J203_24 => ?_)
              · obtain ⟨v_24, rfl⟩ : ∃ z, z = x := ⟨_, rfl⟩
                obtain ⟨rfl, hl⟩ := hI
                have hl : lv_has ls 9 [(8, .int v_20), (3, .ref r_1), (0, .ref h0)] := hl
                refine yputI (ci := 5) (k := 2) (ty := .int) (C := RX5) (T := TX5) (N := 7) C0 hK hP hD hS hm_h0 hk_h0 (by decide) rfl inlX5 tyX5 tyX5_ok nmX5 (by decide) mW591 (fun _ h9 => h9) rfl (by decide +kernel) rfl rfl (Nat.le_of_ble_eq_true rfl) ysi_5_2 dX5_read_203 (fun H locs hP hD hS => ?_)
                obtain ⟨d_25, ed_25⟩ : ∃ z : yD, z = yi d_22 h0 2 v_24 := ⟨_, rfl⟩
                rw [← ed_25] at hP hD
                have hgd_25 : yAg S [5] d d_25 := by rw [ed_25]; exact yAg.i hgd_22 (by rw [hk_h0]; decide)
                have hPod_25 : yPo S d_25 := by rw [ed_25]; exact yPo.i hPod_22 hk_h0 (Or.inl rfl)
                refine lv_aload_n hx hb dX5_read_206 rfl (lv_at hl 2 rfl) ?_
                refine lv_aload_n hx hb dX5_read_207 rfl (lv_at hl 2 rfl) ?_
                refine yget (ci := 5) (k := 6) (v := .int (d_25.1 h0 6)) (C := RX5) (T := TX5) (N := 7) C0 hK hP hm_h0 hk_h0 (by decide) rfl inlX5 (by decide) mW590 (fun _ h9 => h9) rfl dX5_read_208 ?_
                refine lv_topi (fun z_26 ez_26 => ?_)
                have hzz_26 : z_26 = 0 ∨ z_26 = 1 := by rw [ez_26]; exact yPo.b hPod_25 hm_h0 hk_h0 rfl
                refine lv_if_eq (tgt := 219) hx hb dX5_read_211 (by decide) (fun c_27 => ?_) (fun c_27 => ?_)
                · refine lv_aload_n hx hb dX5_read_219 rfl (lv_at hl 2 rfl) ?_
                  refine yget (ci := 5) (k := 5) (v := .int (d_25.1 h0 5)) (C := RX5) (T := TX5) (N := 7) C0 hK hP hm_h0 hk_h0 (by decide) rfl inlX5 (by decide) mW585 (fun _ h9 => h9) rfl dX5_read_220 ?_
                  refine lv_topi (fun z_28 ez_28 => ?_)
                  have hzz_28 : z_28 = 0 ∨ z_28 = 1 := by rw [ez_28]; exact yPo.b hPod_25 hm_h0 hk_h0 rfl
                  refine lv_if_eq (tgt := 233) hx hb dX5_read_223 (by decide) (fun c_29 => ?_) (fun c_29 => ?_)
                  · refine lv_iconst (v := 0) hx hb dX5_read_233 (by decide) ?_
                    refine yputI (ci := 5) (k := 3) (ty := .int) (C := RX5) (T := TX5) (N := 7) C0 hK hP hD hS hm_h0 hk_h0 (by decide) rfl inlX5 tyX5 tyX5_ok nmX5 (by decide) mW592 (fun _ h9 => h9) rfl (by decide +kernel) rfl rfl (Nat.le_of_ble_eq_true rfl) ysi_5_3 dX5_read_234 (fun H locs hP hD hS => ?_)
                    obtain ⟨d_30, ed_30⟩ : ∃ z : yD, z = yi d_25 h0 3 0 := ⟨_, rfl⟩
                    rw [← ed_30] at hP hD
                    have hgd_30 : yAg S [5] d d_30 := by rw [ed_30]; exact yAg.i hgd_25 (by rw [hk_h0]; decide)
                    have hPod_30 : yPo S d_30 := by rw [ed_30]; exact yPo.i hPod_25 hk_h0 (Or.inl rfl)
                    exact W.vret hx hb hr (fun t ht hW => ⟨⟨d_30, rfl, ⟨hgd_30, (fun _ => hPod_30), trivial⟩, by rw [ht]; exact hP, hD⟩, hS.F ht⟩) hS.2.2 dX5_read_237
                  · refine lv_aload_n hx hb dX5_read_226 rfl (lv_at hl 1 rfl) ?_
                    refine yVri (As := []) (rest := [.ref h0]) C0 (g_X4_logLong l G S d_25 r_1 hSh hmr_1 hkr_1) ok_X4_logLong (mW612 : Cond.methodLink RX5 49 yX4_logLong ∈ wsT) ⟨Nat.le_of_ble_eq_true rfl, Nat.le_of_ble_eq_true rfl⟩ hP hD hK hN hmr_1 hkr_1 (by decide) rfl rfl rfl hl.1 rfl (Nat.le_of_ble_eq_true rfl) ⟨Nat.le_of_ble_eq_true rfl, Nat.le_of_ble_eq_true rfl⟩ dX5_read_227 (fun r_31 hr_31 => ?_)
                    refine lv_goto (tgt := 234) hx hb dX5_read_230 (by decide) ?_
                    refine yputI (ci := 5) (k := 3) (ty := .int) (C := RX5) (T := TX5) (N := 7) C0 hK hP hD hS hm_h0 hk_h0 (by decide) rfl inlX5 tyX5 tyX5_ok nmX5 (by decide) mW592 (fun _ h9 => h9) rfl (by decide +kernel) rfl rfl (Nat.le_of_ble_eq_true rfl) ysi_5_3 dX5_read_234 (fun H locs hP hD hS => ?_)
                    obtain ⟨d_32, ed_32⟩ : ∃ z : yD, z = yi d_25 h0 3 r_31 := ⟨_, rfl⟩
                    rw [← ed_32] at hP hD
                    have hgd_32 : yAg S [5] d d_32 := by rw [ed_32]; exact yAg.i hgd_25 (by rw [hk_h0]; decide)
                    have hPod_32 : yPo S d_32 := by rw [ed_32]; exact yPo.i hPod_25 hk_h0 (Or.inl rfl)
                    exact W.vret hx hb hr (fun t ht hW => ⟨⟨d_32, rfl, ⟨hgd_32, (fun _ => hPod_32), trivial⟩, by rw [ht]; exact hP, hD⟩, hS.F ht⟩) hS.2.2 dX5_read_237
                · refine lv_iload hx hb dX5_read_214 (lv_at hl 0 rfl) ?_
                  refine lv_goto (tgt := 234) hx hb dX5_read_216 (by decide) ?_
                  refine yputI (ci := 5) (k := 3) (ty := .int) (C := RX5) (T := TX5) (N := 7) C0 hK hP hD hS hm_h0 hk_h0 (by decide) rfl inlX5 tyX5 tyX5_ok nmX5 (by decide) mW592 (fun _ h9 => h9) rfl (by decide +kernel) rfl rfl (Nat.le_of_ble_eq_true rfl) ysi_5_3 dX5_read_234 (fun H locs hP hD hS => ?_)
                  obtain ⟨d_33, ed_33⟩ : ∃ z : yD, z = yi d_25 h0 3 v_20 := ⟨_, rfl⟩
                  rw [← ed_33] at hP hD
                  have hgd_33 : yAg S [5] d d_33 := by rw [ed_33]; exact yAg.i hgd_25 (by rw [hk_h0]; decide)
                  have hPod_33 : yPo S d_33 := by rw [ed_33]; exact yPo.i hPod_25 hk_h0 (Or.inl rfl)
                  exact W.vret hx hb hr (fun t ht hW => ⟨⟨d_33, rfl, ⟨hgd_33, (fun _ => hPod_33), trivial⟩, by rw [ht]; exact hP, hD⟩, hS.F ht⟩) hS.2.2 dX5_read_237
              refine lv_if_eq (tgt := 202) hx hb dX5_read_192 (by decide) (fun c_34 => ?_) (fun c_34 => ?_)
              · refine lv_iconst (v := 0) hx hb dX5_read_202 (by decide) ?_
                exact J203_24 0 ls _ ⟨rfl, lv_sub hl [0, 1, 2] rfl⟩
              · refine lv_aload_n hx hb dX5_read_195 rfl (lv_at hl 2 rfl) ?_
                refine yget (ci := 5) (k := 1) (v := .int (d_22.1 h0 1)) (C := RX5) (T := TX5) (N := 7) C0 hK hP hm_h0 hk_h0 (by decide) rfl inlX5 (by decide) mW584 (fun _ h9 => h9) rfl dX5_read_196 ?_
                refine lv_topi (fun z_35 ez_35 => ?_)
                refine lv_goto (tgt := 203) hx hb dX5_read_199 (by decide) ?_
                exact J203_24 z_35 ls _ ⟨rfl, lv_sub hl [0, 1, 2] rfl⟩
            refine lv_icmp_eq (tgt := 183) hx hb dX5_read_176 (by decide) (fun c_36 => ?_) (fun c_36 => ?_)
            · refine lv_iconst (v := 0) hx hb dX5_read_183 (by decide) ?_
              exact J184_21 0 ls _ ⟨rfl, lv_sub hl [0, 1, 2] rfl, Or.inl rfl⟩
            · refine lv_iconst (v := 1) hx hb dX5_read_179 (by decide) ?_
              refine lv_goto (tgt := 184) hx hb dX5_read_180 (by decide) ?_
              exact J184_21 1 ls _ ⟨rfl, lv_sub hl [0, 1, 2] rfl, Or.inr rfl⟩
          refine lv_if_eq (tgt := 169) hx hb dX5_read_151 (by decide) (fun c_37 => ?_) (fun c_37 => ?_)
          · refine lv_iconst (v := (-1)) hx hb dX5_read_169 (by decide) ?_
            exact J170_20 (-1) ls _ ⟨rfl, lv_sub hl [1, 2] rfl⟩
          · refine lv_aload hx hb dX5_read_154 (lv_at hl 0 rfl) ?_
            refine lv_iload_n hx hb dX5_read_156 rfl (lv_at hl 4 rfl) ?_
            refine lv_aload_n hx hb dX5_read_157 rfl (lv_at hl 2 rfl) ?_
            refine yget (ci := 5) (k := 1) (v := .int (d_18.1 h0 1)) (C := RX5) (T := TX5) (N := 7) C0 hK hP hm_h0 hk_h0 (by decide) rfl inlX5 (by decide) mW584 (fun _ h9 => h9) rfl dX5_read_158 ?_
            refine lv_topi (fun z_38 ez_38 => ?_)
            refine lv_bipush (v := 7) hx hb dX5_read_161 (by decide) ?_
            refine yVri (As := [.int p0, .int z_38, .int 7]) (rest := []) C0 (g_X2_firstOf l G S d_18 (S.2.2.1 b0 1) p0 z_38 7 hSh hmy_2 hky_2) ok_X2_firstOf (mW594 : Cond.methodLink RX5 19 yX2_firstOf ∈ wsT) ⟨Nat.le_of_ble_eq_true rfl, Nat.le_of_ble_eq_true rfl⟩ hP hD hK hN hmy_2 hky_2 (by decide) rfl rfl rfl hl.1 rfl (Nat.le_of_ble_eq_true rfl) ⟨Nat.le_of_ble_eq_true rfl, Nat.le_of_ble_eq_true rfl⟩ dX5_read_163 (fun r_39 hr_39 => ?_)
            refine lv_goto (tgt := 170) hx hb dX5_read_166 (by decide) ?_
            exact J170_20 r_39 ls _ ⟨rfl, lv_sub hl [1, 2] rfl⟩
        refine lv_icmp_eq (tgt := 124) hx hb dX5_read_106 (by decide) (fun c_40 => ?_) (fun c_40 => ?_)
        · refine lv_iconst (v := 0) hx hb dX5_read_124 (by decide) ?_
          exact J125_12 0 ls _ ⟨rfl, lv_sub hl [0, 1, 2, 3, 4] rfl, Or.inl rfl⟩
        · refine lv_aload_n hx hb dX5_read_109 rfl (lv_at hl 2 rfl) ?_
          refine yget (ci := 5) (k := 1) (v := .int (d_10.1 h0 1)) (C := RX5) (T := TX5) (N := 7) C0 hK hP hm_h0 hk_h0 (by decide) rfl inlX5 (by decide) mW584 (fun _ h9 => h9) rfl dX5_read_110 ?_
          refine lv_topi (fun z_41 ez_41 => ?_)
          refine lv_aload_n hx hb dX5_read_113 rfl (lv_at hl 1 rfl) ?_
          refine yVri (As := []) (rest := [.int z_41, .ref h0]) C0 (g_X4_logLong l G S d_10 r_1 hSh hmr_1 hkr_1) ok_X4_logLong (mW612 : Cond.methodLink RX5 49 yX4_logLong ∈ wsT) ⟨Nat.le_of_ble_eq_true rfl, Nat.le_of_ble_eq_true rfl⟩ hP hD hK hN hmr_1 hkr_1 (by decide) rfl rfl rfl hl.1 rfl (Nat.le_of_ble_eq_true rfl) ⟨Nat.le_of_ble_eq_true rfl, Nat.le_of_ble_eq_true rfl⟩ dX5_read_114 (fun r_42 hr_42 => ?_)
          refine lv_icmp_ge (tgt := 124) hx hb dX5_read_117 (by decide) (fun c_43 => ?_) (fun c_43 => ?_)
          · refine lv_iconst (v := 0) hx hb dX5_read_124 (by decide) ?_
            exact J125_12 0 ls _ ⟨rfl, lv_sub hl [0, 1, 2, 3, 4] rfl, Or.inl rfl⟩
          · refine lv_iconst (v := 1) hx hb dX5_read_120 (by decide) ?_
            refine lv_goto (tgt := 125) hx hb dX5_read_121 (by decide) ?_
            exact J125_12 1 ls _ ⟨rfl, lv_sub hl [0, 1, 2, 3, 4] rfl, Or.inr rfl⟩
      refine lv_icmp_ne (tgt := 88) hx hb dX5_read_81 (by decide) (fun c_44 => ?_) (fun c_44 => ?_)
      · refine lv_aload_n hx hb dX5_read_88 rfl (lv_at hl 2 rfl) ?_
        refine yget (ci := 5) (k := 0) (v := .int (d_7.1 h0 0)) (C := RX5) (T := TX5) (N := 7) C0 hK hP hm_h0 hk_h0 (by decide) rfl inlX5 (by decide) mW582 (fun _ h9 => h9) rfl dX5_read_89 ?_
        refine lv_topi (fun z_45 ez_45 => ?_)
        refine lv_aload_n hx hb dX5_read_92 rfl (lv_at hl 1 rfl) ?_
        refine yget (ci := 4) (k := 6) (v := .int (d_7.1 r_1 6)) (C := RX4) (T := TX4) (N := 11) C0 hK hP hmr_1 hkr_1 (by decide) rfl inlX4 (by decide) mW583 (fun _ h9 => h9) rfl dX5_read_93 ?_
        refine lv_topi (fun z_46 ez_46 => ?_)
        refine lv_iadd hx hb dX5_read_96 ?_
        refine lv_topi (fun z_47 ez_47 => ?_)
        exact J97_9 z_47 ls _ ⟨rfl, lv_sub hl [0, 1, 2, 3, 4] rfl⟩
      · refine lv_iconst (v := (-1)) hx hb dX5_read_84 (by decide) ?_
        refine lv_goto (tgt := 97) hx hb dX5_read_85 (by decide) ?_
        exact J97_9 (-1) ls _ ⟨rfl, lv_sub hl [0, 1, 2, 3, 4] rfl⟩
    refine lv_if_eq (tgt := 71) hx hb dX5_read_54 (by decide) (fun c_48 => ?_) (fun c_48 => ?_)
    · refine lv_iconst (v := (-1)) hx hb dX5_read_71 (by decide) ?_
      exact J72_6 (-1) ls _ ⟨rfl, lv_sub hl [3, 4, 5, 6, 7] rfl⟩
    · refine lv_aload_n hx hb dX5_read_57 rfl (lv_at hl 4 rfl) ?_
      refine lv_iload hx hb dX5_read_58 (lv_at hl 2 rfl) ?_
      refine lv_iload hx hb dX5_read_60 (lv_at hl 1 rfl) ?_
      refine va_mmax hx hb (by rw [hml]; exact hl.1.symm) hown (htl (.methodLink RX5 25 Lib.Math.max.name) mW579) (htl (.static Lib.Math.max.name) mW580) (htl (.initialized "java/lang/Math") mW204) (htl (.code Lib.Math.max.name Lib.Math.max.code 2 (some .int)) mW581) (Nat.le_of_ble_eq_true rfl) (Nat.le_of_ble_eq_true rfl) (Nat.le_of_ble_eq_true rfl) (Nat.le_of_ble_eq_true rfl) dX5_read_62 ?_
      refine lv_topi (fun z_49 ez_49 => ?_)
      refine yVri (As := [.int z_49]) (rest := [.ref h0]) C0 (g_X4_firstOffice l G S d r_1 z_49 hSh hmr_1 hkr_1) ok_X4_firstOffice (mW606 : Cond.methodLink RX5 31 yX4_firstOffice ∈ wsT) ⟨Nat.le_of_ble_eq_true rfl, Nat.le_of_ble_eq_true rfl⟩ hP hD hK hN hmr_1 hkr_1 (by decide) rfl rfl rfl hl.1 rfl (Nat.le_of_ble_eq_true rfl) ⟨Nat.le_of_ble_eq_true rfl, Nat.le_of_ble_eq_true rfl⟩ dX5_read_65 (fun r_50 hr_50 => ?_)
      refine lv_goto (tgt := 72) hx hb dX5_read_68 (by decide) ?_
      exact J72_6 r_50 ls _ ⟨rfl, lv_sub hl [3, 4, 5, 6, 7] rfl⟩
  refine lv_icmp_eq (tgt := 48) hx hb dX5_read_35 (by decide) (fun c_51 => ?_) (fun c_51 => ?_)
  · refine lv_iconst (v := 0) hx hb dX5_read_48 (by decide) ?_
    exact J49_5 0 ls _ ⟨rfl, lv_sub hl [0, 1, 2, 3, 4, 5, 6] rfl, Or.inl rfl⟩
  · refine lv_iload hx hb dX5_read_38 (lv_at hl 0 rfl) ?_
    refine lv_iconst (v := (-1)) hx hb dX5_read_40 (by decide) ?_
    refine lv_icmp_eq (tgt := 48) hx hb dX5_read_41 (by decide) (fun c_52 => ?_) (fun c_52 => ?_)
    · refine lv_iconst (v := 0) hx hb dX5_read_48 (by decide) ?_
      exact J49_5 0 ls _ ⟨rfl, lv_sub hl [0, 1, 2, 3, 4, 5, 6] rfl, Or.inl rfl⟩
    · refine lv_iconst (v := 1) hx hb dX5_read_44 (by decide) ?_
      refine lv_goto (tgt := 49) hx hb dX5_read_45 (by decide) ?_
      exact J49_5 1 ls _ ⟨rfl, lv_sub hl [0, 1, 2, 3, 4, 5, 6] rfl, Or.inr rfl⟩
theorem dX7_start_0 : decode cX7_start 0 = .ok (.aload_n 0, 1) := by decide +kernel
theorem dX7_start_1 : decode cX7_start 1 = .ok (.aload_n 0, 1) := by decide +kernel
theorem dX7_start_2 : decode cX7_start 2 = .ok (.getfield 18, 3) := by decide +kernel
theorem dX7_start_5 : decode cX7_start 5 = .ok (.iload_n 1, 1) := by decide +kernel
theorem dX7_start_6 : decode cX7_start 6 = .ok (.invokevirtual 31, 3) := by decide +kernel
theorem dX7_start_9 : decode cX7_start 9 = .ok (.putfield 28, 3) := by decide +kernel
theorem dX7_start_12 : decode cX7_start 12 = .ok (.aload_n 0, 1) := by decide +kernel
theorem dX7_start_13 : decode cX7_start 13 = .ok (.iload_n 2, 1) := by decide +kernel
theorem dX7_start_14 : decode cX7_start 14 = .ok (.putfield 35, 3) := by decide +kernel
theorem dX7_start_17 : decode cX7_start 17 = .ok (.aload_n 0, 1) := by decide +kernel
theorem dX7_start_18 : decode cX7_start 18 = .ok (.iload_n 2, 1) := by decide +kernel
theorem dX7_start_19 : decode cX7_start 19 = .ok (.putfield 39, 3) := by decide +kernel
theorem dX7_start_22 : decode cX7_start 22 = .ok (.aload_n 0, 1) := by decide +kernel
theorem dX7_start_23 : decode cX7_start 23 = .ok (.iload_n 3, 1) := by decide +kernel
theorem dX7_start_24 : decode cX7_start 24 = .ok (.putfield 42, 3) := by decide +kernel
theorem dX7_start_27 : decode cX7_start 27 = .ok (.aload_n 0, 1) := by decide +kernel
theorem dX7_start_28 : decode cX7_start 28 = .ok (.iload 4, 2) := by decide +kernel
theorem dX7_start_30 : decode cX7_start 30 = .ok (.putfield 45, 3) := by decide +kernel
theorem dX7_start_33 : decode cX7_start 33 = .ok (.aload_n 0, 1) := by decide +kernel
theorem dX7_start_34 : decode cX7_start 34 = .ok (.iload 5, 2) := by decide +kernel
theorem dX7_start_36 : decode cX7_start 36 = .ok (.putfield 48, 3) := by decide +kernel
theorem dX7_start_39 : decode cX7_start 39 = .ok (.aload_n 0, 1) := by decide +kernel
theorem dX7_start_40 : decode cX7_start 40 = .ok (.aload_n 0, 1) := by decide +kernel
theorem dX7_start_41 : decode cX7_start 41 = .ok (.getfield 18, 3) := by decide +kernel
theorem dX7_start_44 : decode cX7_start 44 = .ok (.getfield 52, 3) := by decide +kernel
theorem dX7_start_47 : decode cX7_start 47 = .ok (.iload_n 1, 1) := by decide +kernel
theorem dX7_start_48 : decode cX7_start 48 = .ok (.iload_n 2, 1) := by decide +kernel
theorem dX7_start_49 : decode cX7_start 49 = .ok (.iconst 1, 1) := by decide +kernel
theorem dX7_start_50 : decode cX7_start 50 = .ok (.iadd, 1) := by decide +kernel
theorem dX7_start_51 : decode cX7_start 51 = .ok (.invokevirtual 56, 3) := by decide +kernel
theorem dX7_start_54 : decode cX7_start 54 = .ok (.putfield 62, 3) := by decide +kernel
theorem dX7_start_57 : decode cX7_start 57 = .ok (.aload_n 0, 1) := by decide +kernel
theorem dX7_start_58 : decode cX7_start 58 = .ok (.aload_n 0, 1) := by decide +kernel
theorem dX7_start_59 : decode cX7_start 59 = .ok (.getfield 18, 3) := by decide +kernel
theorem dX7_start_62 : decode cX7_start 62 = .ok (.getfield 52, 3) := by decide +kernel
theorem dX7_start_65 : decode cX7_start 65 = .ok (.iload_n 1, 1) := by decide +kernel
theorem dX7_start_66 : decode cX7_start 66 = .ok (.ldc 65, 2) := by decide +kernel
theorem dX7_start_68 : decode cX7_start 68 = .ok (.invokevirtual 56, 3) := by decide +kernel
theorem dX7_start_71 : decode cX7_start 71 = .ok (.putfield 66, 3) := by decide +kernel
theorem dX7_start_74 : decode cX7_start 74 = .ok (.aload_n 0, 1) := by decide +kernel
theorem dX7_start_75 : decode cX7_start 75 = .ok (.aload_n 0, 1) := by decide +kernel
theorem dX7_start_76 : decode cX7_start 76 = .ok (.getfield 18, 3) := by decide +kernel
theorem dX7_start_79 : decode cX7_start 79 = .ok (.getfield 52, 3) := by decide +kernel
theorem dX7_start_82 : decode cX7_start 82 = .ok (.iload_n 1, 1) := by decide +kernel
theorem dX7_start_83 : decode cX7_start 83 = .ok (.iload_n 2, 1) := by decide +kernel
theorem dX7_start_84 : decode cX7_start 84 = .ok (.invokevirtual 69, 3) := by decide +kernel
theorem dX7_start_87 : decode cX7_start 87 = .ok (.putfield 72, 3) := by decide +kernel
theorem dX7_start_90 : decode cX7_start 90 = .ok (.aload_n 0, 1) := by decide +kernel
theorem dX7_start_91 : decode cX7_start 91 = .ok (.iconst 0, 1) := by decide +kernel
theorem dX7_start_92 : decode cX7_start 92 = .ok (.putfield 75, 3) := by decide +kernel
theorem dX7_start_95 : decode cX7_start 95 = .ok (.aload_n 0, 1) := by decide +kernel
theorem dX7_start_96 : decode cX7_start 96 = .ok (.getfield 28, 3) := by decide +kernel
theorem dX7_start_99 : decode cX7_start 99 = .ok (.getfield 78, 3) := by decide +kernel
theorem dX7_start_102 : decode cX7_start 102 = .ok (.iconst 1, 1) := by decide +kernel
theorem dX7_start_103 : decode cX7_start 103 = .ok (.iadd, 1) := by decide +kernel
theorem dX7_start_104 : decode cX7_start 104 = .ok (.iconst 0, 1) := by decide +kernel
theorem dX7_start_105 : decode cX7_start 105 = .ok (.invokestatic 83, 3) := by decide +kernel
theorem dX7_start_108 : decode cX7_start 108 = .ok (.istore 6, 2) := by decide +kernel
theorem dX7_start_110 : decode cX7_start 110 = .ok (.aload_n 0, 1) := by decide +kernel
theorem dX7_start_111 : decode cX7_start 111 = .ok (.getfield 28, 3) := by decide +kernel
theorem dX7_start_114 : decode cX7_start 114 = .ok (.getfield 78, 3) := by decide +kernel
theorem dX7_start_117 : decode cX7_start 117 = .ok (.iconst 0, 1) := by decide +kernel
theorem dX7_start_118 : decode cX7_start 118 = .ok (.invokestatic 83, 3) := by decide +kernel
theorem dX7_start_121 : decode cX7_start 121 = .ok (.istore 7, 2) := by decide +kernel
theorem dX7_start_123 : decode cX7_start 123 = .ok (.iload 7, 2) := by decide +kernel
theorem dX7_start_125 : decode cX7_start 125 = .ok (.iload 6, 2) := by decide +kernel
theorem dX7_start_127 : decode cX7_start 127 = .ok (.if_icmp .ge 55, 3) := by decide +kernel
theorem dX7_start_130 : decode cX7_start 130 = .ok (.aload_n 0, 1) := by decide +kernel
theorem dX7_start_131 : decode cX7_start 131 = .ok (.getfield 18, 3) := by decide +kernel
theorem dX7_start_134 : decode cX7_start 134 = .ok (.getfield 86, 3) := by decide +kernel
theorem dX7_start_137 : decode cX7_start 137 = .ok (.getfield 90, 3) := by decide +kernel
theorem dX7_start_140 : decode cX7_start 140 = .ok (.iload 7, 2) := by decide +kernel
theorem dX7_start_142 : decode cX7_start 142 = .ok (.invokestatic 95, 3) := by decide +kernel
theorem dX7_start_145 : decode cX7_start 145 = .ok (.iconst 0, 1) := by decide +kernel
theorem dX7_start_146 : decode cX7_start 146 = .ok (.iconst 4, 1) := by decide +kernel
theorem dX7_start_147 : decode cX7_start 147 = .ok (.invokestatic 99, 3) := by decide +kernel
theorem dX7_start_150 : decode cX7_start 150 = .ok (.ifCond .eq 26, 3) := by decide +kernel
theorem dX7_start_153 : decode cX7_start 153 = .ok (.aload_n 0, 1) := by decide +kernel
theorem dX7_start_154 : decode cX7_start 154 = .ok (.getfield 9, 3) := by decide +kernel
theorem dX7_start_157 : decode cX7_start 157 = .ok (.aload_n 0, 1) := by decide +kernel
theorem dX7_start_158 : decode cX7_start 158 = .ok (.getfield 75, 3) := by decide +kernel
theorem dX7_start_161 : decode cX7_start 161 = .ok (.iload 7, 2) := by decide +kernel
theorem dX7_start_163 : decode cX7_start 163 = .ok (.invokestatic 103, 3) := by decide +kernel
theorem dX7_start_166 : decode cX7_start 166 = .ok (.aload_n 0, 1) := by decide +kernel
theorem dX7_start_167 : decode cX7_start 167 = .ok (.dup, 1) := by decide +kernel
theorem dX7_start_168 : decode cX7_start 168 = .ok (.getfield 75, 3) := by decide +kernel
theorem dX7_start_171 : decode cX7_start 171 = .ok (.iconst 1, 1) := by decide +kernel
theorem dX7_start_172 : decode cX7_start 172 = .ok (.iadd, 1) := by decide +kernel
theorem dX7_start_173 : decode cX7_start 173 = .ok (.putfield 75, 3) := by decide +kernel
theorem dX7_start_176 : decode cX7_start 176 = .ok (.iinc 7 1, 3) := by decide +kernel
theorem dX7_start_179 : decode cX7_start 179 = .ok (.goto (-56), 3) := by decide +kernel
theorem dX7_start_182 : decode cX7_start 182 = .ok (.return_, 1) := by decide +kernel
set_option maxHeartbeats 4000000 in
set_option maxRecDepth 100000 in
theorem g_X7_start (l : Launch) (G : xG) (S : yS) (d : yD) (h0 : Nat) (p0 : Int32) (p1 : Int32) (p2 : Int32) (p3 : Int32) (p4 : Int32) (hSh : ySh S) (hPo : yPo S d) (hm_h0 : h0 ∈ S.1) (hk_h0 : S.2.1 h0 = 7) (hz_p4 : p4 = 0 ∨ p4 = 1) : xWv l G yX7_start cX7_start 8 none 3 73 0 0 [.ref h0, .int p0, .int p1, .int p2, .int p3, .int p4] (yW G S d) (fun u : yD => yAg S [7, 22, 23] d u ∧ (yPo S d → yPo S u) ∧ (True)) (fun u => yW G S u) := by
  intro sz
  refine xstart (by decide) (Nat.le_of_ble_eq_true rfl) (fun p e s m args below meth c ls C0 hr hlocks hin hsz hP hK hD hN hl => ?_)
  obtain ⟨hx, hb, hml, hown, htl⟩ := id C0
  subst hsz
  have hD := hD.self (sz := s.heap.size)
  generalize hAe : va_A (yW G S d) s.heap.size = A at hD ⊢
  have hA : ∀ q : Nat, s.heap.size ≤ q → A q := fun q h => by rw [← hAe]; exact Or.inr h
  have hS : va_S A s.heap s.heap [] := va_S.rf
  have hg0 : yAg S [7, 22, 23] d d := yAg.rf
  have hl : lv_has ls 8 [(0, .ref h0), (1, .int p0), (2, .int p1), (3, .int p2), (4, .int p3), (5, .int p4)] := hl
  refine lv_aload_n hx hb dX7_start_0 rfl (lv_at hl 0 rfl) ?_
  refine lv_aload_n hx hb dX7_start_1 rfl (lv_at hl 0 rfl) ?_
  refine yget (ci := 7) (k := 0) (v := .ref (S.2.2.1 h0 0)) (C := RX7) (T := TX7) (N := 18) C0 hK hP hm_h0 hk_h0 (by decide) rfl inlX7 (by decide) mW96 (fun _ h9 => h9) rfl dX7_start_2 ?_
  obtain ⟨hmy_1, hky_1⟩ := ySh.f7_0 hSh _ hm_h0 hk_h0
  refine lv_iload_n hx hb dX7_start_5 rfl (lv_at hl 1 rfl) ?_
  refine yVrr (As := [.int p0]) (rest := [.ref h0]) C0 (g_X0_portAt l G S d (S.2.2.1 h0 0) p0 hSh hmy_1 hky_1) ok_X0_portAt (mW757 : Cond.methodLink RX7 31 yX0_portAt ∈ wsT) ⟨Nat.le_of_ble_eq_true rfl, Nat.le_of_ble_eq_true rfl⟩ hP hD hK hN hmy_1 hky_1 (by decide) rfl rfl rfl hl.1 rfl (Nat.le_of_ble_eq_true rfl) ⟨Nat.le_of_ble_eq_true rfl, Nat.le_of_ble_eq_true rfl⟩ dX7_start_6 (fun r_2 hr_2 => ?_)
  obtain ⟨hmr_2, hkr_2, her_2⟩ := hr_2
  refine yput (ci := 7) (k := 7) (v := .ref r_2) (ty := .object "LaytimeDesk$Port") (d' := yp d h0 r_2) (C := RX7) (T := TX7) (N := 18) C0 hK hP hD hS hm_h0 hk_h0 (by decide) rfl inlX7 tyX7 tyX7_ok nmX7 (by decide) mW98 (fun _ h9 => h9) rfl (by decide +kernel) rfl rfl (Nat.le_of_ble_eq_true rfl) (by rw [ysp]; show _ = yfl 7 _ _ (va_up _ _ _ _) _; rw [va_up_self]; rfl) yag_p dX7_start_9 (fun H locs hP hD hS => ?_)
  obtain ⟨d_3, ed_3⟩ : ∃ z : yD, z = yp d h0 r_2 := ⟨_, rfl⟩
  rw [← ed_3] at hP hD
  have hgd_3 : yAg S [7, 22, 23] d d_3 := by rw [ed_3]; exact yAg.p hg0 (by rw [hk_h0]; decide)
  have hPod_3 : yPo S d_3 := by rw [ed_3]; exact yPo.p hPo hmr_2 hkr_2
  refine lv_aload_n hx hb dX7_start_12 rfl (lv_at hl 0 rfl) ?_
  refine lv_iload_n hx hb dX7_start_13 rfl (lv_at hl 2 rfl) ?_
  refine yputI (ci := 7) (k := 8) (ty := .int) (C := RX7) (T := TX7) (N := 18) C0 hK hP hD hS hm_h0 hk_h0 (by decide) rfl inlX7 tyX7 tyX7_ok nmX7 (by decide) mW743 (fun _ h9 => h9) rfl (by decide +kernel) rfl rfl (Nat.le_of_ble_eq_true rfl) ysi_7_8 dX7_start_14 (fun H locs hP hD hS => ?_)
  obtain ⟨d_4, ed_4⟩ : ∃ z : yD, z = yi d_3 h0 8 p1 := ⟨_, rfl⟩
  rw [← ed_4] at hP hD
  have hgd_4 : yAg S [7, 22, 23] d d_4 := by rw [ed_4]; exact yAg.i hgd_3 (by rw [hk_h0]; decide)
  have hPod_4 : yPo S d_4 := by rw [ed_4]; exact yPo.i hPod_3 hk_h0 (Or.inl rfl)
  refine lv_aload_n hx hb dX7_start_17 rfl (lv_at hl 0 rfl) ?_
  refine lv_iload_n hx hb dX7_start_18 rfl (lv_at hl 2 rfl) ?_
  refine yputI (ci := 7) (k := 9) (ty := .int) (C := RX7) (T := TX7) (N := 18) C0 hK hP hD hS hm_h0 hk_h0 (by decide) rfl inlX7 tyX7 tyX7_ok nmX7 (by decide) mW744 (fun _ h9 => h9) rfl (by decide +kernel) rfl rfl (Nat.le_of_ble_eq_true rfl) ysi_7_9 dX7_start_19 (fun H locs hP hD hS => ?_)
  obtain ⟨d_5, ed_5⟩ : ∃ z : yD, z = yi d_4 h0 9 p1 := ⟨_, rfl⟩
  rw [← ed_5] at hP hD
  have hgd_5 : yAg S [7, 22, 23] d d_5 := by rw [ed_5]; exact yAg.i hgd_4 (by rw [hk_h0]; decide)
  have hPod_5 : yPo S d_5 := by rw [ed_5]; exact yPo.i hPod_4 hk_h0 (Or.inl rfl)
  refine lv_aload_n hx hb dX7_start_22 rfl (lv_at hl 0 rfl) ?_
  refine lv_iload_n hx hb dX7_start_23 rfl (lv_at hl 3 rfl) ?_
  refine yputI (ci := 7) (k := 10) (ty := .int) (C := RX7) (T := TX7) (N := 18) C0 hK hP hD hS hm_h0 hk_h0 (by decide) rfl inlX7 tyX7 tyX7_ok nmX7 (by decide) mW745 (fun _ h9 => h9) rfl (by decide +kernel) rfl rfl (Nat.le_of_ble_eq_true rfl) ysi_7_10 dX7_start_24 (fun H locs hP hD hS => ?_)
  obtain ⟨d_6, ed_6⟩ : ∃ z : yD, z = yi d_5 h0 10 p2 := ⟨_, rfl⟩
  rw [← ed_6] at hP hD
  have hgd_6 : yAg S [7, 22, 23] d d_6 := by rw [ed_6]; exact yAg.i hgd_5 (by rw [hk_h0]; decide)
  have hPod_6 : yPo S d_6 := by rw [ed_6]; exact yPo.i hPod_5 hk_h0 (Or.inl rfl)
  refine lv_aload_n hx hb dX7_start_27 rfl (lv_at hl 0 rfl) ?_
  refine lv_iload hx hb dX7_start_28 (lv_at hl 4 rfl) ?_
  refine yputI (ci := 7) (k := 11) (ty := .int) (C := RX7) (T := TX7) (N := 18) C0 hK hP hD hS hm_h0 hk_h0 (by decide) rfl inlX7 tyX7 tyX7_ok nmX7 (by decide) mW746 (fun _ h9 => h9) rfl (by decide +kernel) rfl rfl (Nat.le_of_ble_eq_true rfl) ysi_7_11 dX7_start_30 (fun H locs hP hD hS => ?_)
  obtain ⟨d_7, ed_7⟩ : ∃ z : yD, z = yi d_6 h0 11 p3 := ⟨_, rfl⟩
  rw [← ed_7] at hP hD
  have hgd_7 : yAg S [7, 22, 23] d d_7 := by rw [ed_7]; exact yAg.i hgd_6 (by rw [hk_h0]; decide)
  have hPod_7 : yPo S d_7 := by rw [ed_7]; exact yPo.i hPod_6 hk_h0 (Or.inl rfl)
  refine lv_aload_n hx hb dX7_start_33 rfl (lv_at hl 0 rfl) ?_
  refine lv_iload hx hb dX7_start_34 (lv_at hl 5 rfl) ?_
  refine yputI (ci := 7) (k := 12) (ty := .boolean) (C := RX7) (T := TX7) (N := 18) C0 hK hP hD hS hm_h0 hk_h0 (by decide) rfl inlX7 tyX7 tyX7_ok nmX7 (by decide) mW747 (fun _ h9 => h9) rfl (by decide +kernel) (znb hz_p4).1 (znb hz_p4).2 (Nat.le_of_ble_eq_true rfl) ysi_7_12 dX7_start_36 (fun H locs hP hD hS => ?_)
  obtain ⟨d_8, ed_8⟩ : ∃ z : yD, z = yi d_7 h0 12 p4 := ⟨_, rfl⟩
  rw [← ed_8] at hP hD
  have hgd_8 : yAg S [7, 22, 23] d d_8 := by rw [ed_8]; exact yAg.i hgd_7 (by rw [hk_h0]; decide)
  have hPod_8 : yPo S d_8 := by rw [ed_8]; exact yPo.i hPod_7 hk_h0 (Or.inr hz_p4)
  refine lv_aload_n hx hb dX7_start_39 rfl (lv_at hl 0 rfl) ?_
  refine lv_aload_n hx hb dX7_start_40 rfl (lv_at hl 0 rfl) ?_
  refine yget (ci := 7) (k := 0) (v := .ref (S.2.2.1 h0 0)) (C := RX7) (T := TX7) (N := 18) C0 hK hP hm_h0 hk_h0 (by decide) rfl inlX7 (by decide) mW96 (fun _ h9 => h9) rfl dX7_start_41 ?_
  refine yget (ci := 0) (k := 1) (v := .ref (S.2.2.1 (S.2.2.1 h0 0) 1)) (C := RX0) (T := TX0) (N := 6) C0 hK hP hmy_1 hky_1 (by decide) rfl inlX0 (by decide) mW748 (fun _ h9 => h9) rfl dX7_start_44 ?_
  obtain ⟨hmy_9, hky_9⟩ := ySh.f0_1 hSh _ hmy_1 hky_1
  refine lv_iload_n hx hb dX7_start_47 rfl (lv_at hl 1 rfl) ?_
  refine lv_iload_n hx hb dX7_start_48 rfl (lv_at hl 2 rfl) ?_
  refine lv_iconst (v := 1) hx hb dX7_start_49 (by decide) ?_
  refine lv_iadd hx hb dX7_start_50 ?_
  refine lv_topi (fun z_10 ez_10 => ?_)
  refine yVri (As := [.int p0, .int z_10]) (rest := [.ref h0]) C0 (g_X2_indexOf l G S d_8 (S.2.2.1 (S.2.2.1 h0 0) 1) p0 z_10 hSh hmy_9 hky_9) ok_X2_indexOf (mW758 : Cond.methodLink RX7 56 yX2_indexOf ∈ wsT) ⟨Nat.le_of_ble_eq_true rfl, Nat.le_of_ble_eq_true rfl⟩ hP hD hK hN hmy_9 hky_9 (by decide) rfl rfl rfl hl.1 rfl (Nat.le_of_ble_eq_true rfl) ⟨Nat.le_of_ble_eq_true rfl, Nat.le_of_ble_eq_true rfl⟩ dX7_start_51 (fun r_11 hr_11 => ?_)
  refine yputI (ci := 7) (k := 13) (ty := .int) (C := RX7) (T := TX7) (N := 18) C0 hK hP hD hS hm_h0 hk_h0 (by decide) rfl inlX7 tyX7 tyX7_ok nmX7 (by decide) mW749 (fun _ h9 => h9) rfl (by decide +kernel) rfl rfl (Nat.le_of_ble_eq_true rfl) ysi_7_13 dX7_start_54 (fun H locs hP hD hS => ?_)
  obtain ⟨d_12, ed_12⟩ : ∃ z : yD, z = yi d_8 h0 13 r_11 := ⟨_, rfl⟩
  rw [← ed_12] at hP hD
  have hgd_12 : yAg S [7, 22, 23] d d_12 := by rw [ed_12]; exact yAg.i hgd_8 (by rw [hk_h0]; decide)
  have hPod_12 : yPo S d_12 := by rw [ed_12]; exact yPo.i hPod_8 hk_h0 (Or.inl rfl)
  refine lv_aload_n hx hb dX7_start_57 rfl (lv_at hl 0 rfl) ?_
  refine lv_aload_n hx hb dX7_start_58 rfl (lv_at hl 0 rfl) ?_
  refine yget (ci := 7) (k := 0) (v := .ref (S.2.2.1 h0 0)) (C := RX7) (T := TX7) (N := 18) C0 hK hP hm_h0 hk_h0 (by decide) rfl inlX7 (by decide) mW96 (fun _ h9 => h9) rfl dX7_start_59 ?_
  refine yget (ci := 0) (k := 1) (v := .ref (S.2.2.1 (S.2.2.1 h0 0) 1)) (C := RX0) (T := TX0) (N := 6) C0 hK hP hmy_1 hky_1 (by decide) rfl inlX0 (by decide) mW748 (fun _ h9 => h9) rfl dX7_start_62 ?_
  refine lv_iload_n hx hb dX7_start_65 rfl (lv_at hl 1 rfl) ?_
  refine lv_ldc (v := 129600) hx hb hown (htl (.constant RX7 65 (129600)) mW750) dX7_start_66 ?_
  refine yVri (As := [.int p0, .int 129600]) (rest := [.ref h0]) C0 (g_X2_indexOf l G S d_12 (S.2.2.1 (S.2.2.1 h0 0) 1) p0 129600 hSh hmy_9 hky_9) ok_X2_indexOf (mW758 : Cond.methodLink RX7 56 yX2_indexOf ∈ wsT) ⟨Nat.le_of_ble_eq_true rfl, Nat.le_of_ble_eq_true rfl⟩ hP hD hK hN hmy_9 hky_9 (by decide) rfl rfl rfl hl.1 rfl (Nat.le_of_ble_eq_true rfl) ⟨Nat.le_of_ble_eq_true rfl, Nat.le_of_ble_eq_true rfl⟩ dX7_start_68 (fun r_13 hr_13 => ?_)
  refine yputI (ci := 7) (k := 14) (ty := .int) (C := RX7) (T := TX7) (N := 18) C0 hK hP hD hS hm_h0 hk_h0 (by decide) rfl inlX7 tyX7 tyX7_ok nmX7 (by decide) mW751 (fun _ h9 => h9) rfl (by decide +kernel) rfl rfl (Nat.le_of_ble_eq_true rfl) ysi_7_14 dX7_start_71 (fun H locs hP hD hS => ?_)
  obtain ⟨d_14, ed_14⟩ : ∃ z : yD, z = yi d_12 h0 14 r_13 := ⟨_, rfl⟩
  rw [← ed_14] at hP hD
  have hgd_14 : yAg S [7, 22, 23] d d_14 := by rw [ed_14]; exact yAg.i hgd_12 (by rw [hk_h0]; decide)
  have hPod_14 : yPo S d_14 := by rw [ed_14]; exact yPo.i hPod_12 hk_h0 (Or.inl rfl)
  refine lv_aload_n hx hb dX7_start_74 rfl (lv_at hl 0 rfl) ?_
  refine lv_aload_n hx hb dX7_start_75 rfl (lv_at hl 0 rfl) ?_
  refine yget (ci := 7) (k := 0) (v := .ref (S.2.2.1 h0 0)) (C := RX7) (T := TX7) (N := 18) C0 hK hP hm_h0 hk_h0 (by decide) rfl inlX7 (by decide) mW96 (fun _ h9 => h9) rfl dX7_start_76 ?_
  refine yget (ci := 0) (k := 1) (v := .ref (S.2.2.1 (S.2.2.1 h0 0) 1)) (C := RX0) (T := TX0) (N := 6) C0 hK hP hmy_1 hky_1 (by decide) rfl inlX0 (by decide) mW748 (fun _ h9 => h9) rfl dX7_start_79 ?_
  refine lv_iload_n hx hb dX7_start_82 rfl (lv_at hl 1 rfl) ?_
  refine lv_iload_n hx hb dX7_start_83 rfl (lv_at hl 2 rfl) ?_
  refine yVri (As := [.int p0, .int p1]) (rest := [.ref h0]) C0 (g_X2_stateAt l G S d_14 (S.2.2.1 (S.2.2.1 h0 0) 1) p0 p1 hSh hmy_9 hky_9) ok_X2_stateAt (mW759 : Cond.methodLink RX7 69 yX2_stateAt ∈ wsT) ⟨Nat.le_of_ble_eq_true rfl, Nat.le_of_ble_eq_true rfl⟩ hP hD hK hN hmy_9 hky_9 (by decide) rfl rfl rfl hl.1 rfl (Nat.le_of_ble_eq_true rfl) ⟨Nat.le_of_ble_eq_true rfl, Nat.le_of_ble_eq_true rfl⟩ dX7_start_84 (fun r_15 hr_15 => ?_)
  refine yputI (ci := 7) (k := 15) (ty := .int) (C := RX7) (T := TX7) (N := 18) C0 hK hP hD hS hm_h0 hk_h0 (by decide) rfl inlX7 tyX7 tyX7_ok nmX7 (by decide) mW752 (fun _ h9 => h9) rfl (by decide +kernel) rfl rfl (Nat.le_of_ble_eq_true rfl) ysi_7_15 dX7_start_87 (fun H locs hP hD hS => ?_)
  obtain ⟨d_16, ed_16⟩ : ∃ z : yD, z = yi d_14 h0 15 r_15 := ⟨_, rfl⟩
  rw [← ed_16] at hP hD
  have hgd_16 : yAg S [7, 22, 23] d d_16 := by rw [ed_16]; exact yAg.i hgd_14 (by rw [hk_h0]; decide)
  have hPod_16 : yPo S d_16 := by rw [ed_16]; exact yPo.i hPod_14 hk_h0 (Or.inl rfl)
  refine lv_aload_n hx hb dX7_start_90 rfl (lv_at hl 0 rfl) ?_
  refine lv_iconst (v := 0) hx hb dX7_start_91 (by decide) ?_
  refine yputI (ci := 7) (k := 3) (ty := .int) (C := RX7) (T := TX7) (N := 18) C0 hK hP hD hS hm_h0 hk_h0 (by decide) rfl inlX7 tyX7 tyX7_ok nmX7 (by decide) mW753 (fun _ h9 => h9) rfl (by decide +kernel) rfl rfl (Nat.le_of_ble_eq_true rfl) ysi_7_3 dX7_start_92 (fun H locs hP hD hS => ?_)
  obtain ⟨d_17, ed_17⟩ : ∃ z : yD, z = yi d_16 h0 3 0 := ⟨_, rfl⟩
  rw [← ed_17] at hP hD
  have hgd_17 : yAg S [7, 22, 23] d d_17 := by rw [ed_17]; exact yAg.i hgd_16 (by rw [hk_h0]; decide)
  have hPod_17 : yPo S d_17 := by rw [ed_17]; exact yPo.i hPod_16 hk_h0 (Or.inl rfl)
  refine lv_aload_n hx hb dX7_start_95 rfl (lv_at hl 0 rfl) ?_
  refine yget (ci := 7) (k := 7) (v := .ref (d_17.2.2.1 h0)) (C := RX7) (T := TX7) (N := 18) C0 hK hP hm_h0 hk_h0 (by decide) rfl inlX7 (by decide) mW98 (fun _ h9 => h9) rfl dX7_start_96 ?_
  obtain ⟨hmy_18, hky_18⟩ := hPod_17.1 _ hm_h0 hk_h0
  refine yget (ci := 4) (k := 3) (v := .int (d_17.1 (d_17.2.2.1 h0) 3)) (C := RX4) (T := TX4) (N := 11) C0 hK hP hmy_18 hky_18 (by decide) rfl inlX4 (by decide) mW754 (fun _ h9 => h9) rfl dX7_start_99 ?_
  refine lv_topi (fun z_19 ez_19 => ?_)
  refine lv_iconst (v := 1) hx hb dX7_start_102 (by decide) ?_
  refine lv_iadd hx hb dX7_start_103 ?_
  refine lv_topi (fun z_20 ez_20 => ?_)
  refine lv_iconst (v := 0) hx hb dX7_start_104 (by decide) ?_
  refine ySNri (As := [.int z_20, .int 0]) (rest := []) C0 (g_X8_rowOf l G S d_17 z_20 0 ) ok_X8_rowOf (xN.n11 hN) ⟨Nat.le_of_ble_eq_true rfl, Nat.le_of_ble_eq_true rfl⟩ hP hD hK hN rfl hl.1 rfl (Nat.le_of_ble_eq_true rfl) ⟨Nat.le_of_ble_eq_true rfl, Nat.le_of_ble_eq_true rfl⟩ dX7_start_105 (fun r_21 hr_21 => ?_)
  refine lv_istore (lv' := [(6, .int r_21), (0, .ref h0), (1, .int p0), (2, .int p1), (3, .int p2), (4, .int p3), (5, .int p4)]) hx hb dX7_start_108 hl (by decide) rfl (fun ls hl => ?_)
  refine lv_aload_n hx hb dX7_start_110 rfl (lv_at hl 1 rfl) ?_
  refine yget (ci := 7) (k := 7) (v := .ref (d_17.2.2.1 h0)) (C := RX7) (T := TX7) (N := 18) C0 hK hP hm_h0 hk_h0 (by decide) rfl inlX7 (by decide) mW98 (fun _ h9 => h9) rfl dX7_start_111 ?_
  refine yget (ci := 4) (k := 3) (v := .int (d_17.1 (d_17.2.2.1 h0) 3)) (C := RX4) (T := TX4) (N := 11) C0 hK hP hmy_18 hky_18 (by decide) rfl inlX4 (by decide) mW754 (fun _ h9 => h9) rfl dX7_start_114 ?_
  refine lv_topi (fun z_22 ez_22 => ?_)
  refine lv_iconst (v := 0) hx hb dX7_start_117 (by decide) ?_
  refine ySNri (As := [.int z_22, .int 0]) (rest := []) C0 (g_X8_rowOf l G S d_17 z_22 0 ) ok_X8_rowOf (xN.n11 hN) ⟨Nat.le_of_ble_eq_true rfl, Nat.le_of_ble_eq_true rfl⟩ hP hD hK hN rfl hl.1 rfl (Nat.le_of_ble_eq_true rfl) ⟨Nat.le_of_ble_eq_true rfl, Nat.le_of_ble_eq_true rfl⟩ dX7_start_118 (fun r_23 hr_23 => ?_)
  refine lv_istore (lv' := [(7, .int r_23), (6, .int r_21), (0, .ref h0), (1, .int p0), (2, .int p1), (3, .int p2), (4, .int p3), (5, .int p4)]) hx hb dX7_start_121 hl (by decide) rfl (fun ls hl => ?_)
  refine yloop (σ := Int32 × yD) (fun x => (2147483647 - (x.1 : Int32).toInt).toNat) 123 (fun x H locs ls => va_P G.1 xcl (yW G S x.2) H ∧ va_D A (yW G S x.2) ∧ va_S A s.heap H locs ∧ yAg S [7, 22, 23] d x.2 ∧ yPo S x.2 ∧ lv_has ls 8 [(7, .int x.1), (6, .int r_21), (0, .ref h0)]) (fun x H locs ls hI hnext_26 => ?_) (r_23, d_17) ⟨hP, hD, hS, hgd_17, hPod_17, lv_sub hl [0, 1, 2] rfl⟩
  obtain ⟨v_24, d_25⟩ := x
  obtain ⟨hP, hD, hS, hgd_25, hPod_25, hl⟩ := hI
  have hl : lv_has ls 8 [(7, .int v_24), (6, .int r_21), (0, .ref h0)] := hl
  refine lv_iload hx hb dX7_start_123 (lv_at hl 0 rfl) ?_
  refine lv_iload hx hb dX7_start_125 (lv_at hl 1 rfl) ?_
  refine lv_icmp_ge (tgt := 182) hx hb dX7_start_127 (by decide) (fun c_28 => ?_) (fun c_28 => ?_)
  · exact W.vret hx hb hr (fun t ht hW => ⟨⟨d_25, rfl, ⟨hgd_25, (fun _ => hPod_25), trivial⟩, by rw [ht]; exact hP, hD⟩, hS.F ht⟩) hS.2.2 dX7_start_182
  · refine lv_aload_n hx hb dX7_start_130 rfl (lv_at hl 2 rfl) ?_
    refine yget (ci := 7) (k := 0) (v := .ref (S.2.2.1 h0 0)) (C := RX7) (T := TX7) (N := 18) C0 hK hP hm_h0 hk_h0 (by decide) rfl inlX7 (by decide) mW96 (fun _ h9 => h9) rfl dX7_start_131 ?_
    refine yget (ci := 0) (k := 0) (v := .ref (S.2.2.1 (S.2.2.1 h0 0) 0)) (C := RX0) (T := TX0) (N := 6) C0 hK hP hmy_1 hky_1 (by decide) rfl inlX0 (by decide) mW755 (fun _ h9 => h9) rfl dX7_start_134 ?_
    obtain ⟨hmy_29, hky_29⟩ := ySh.f0_0 hSh _ hmy_1 hky_1
    refine yget (ci := 6) (k := 0) (v := .ref (S.2.2.1 (S.2.2.1 (S.2.2.1 h0 0) 0) 0)) (C := RX6) (T := TX6) (N := 7) C0 hK hP hmy_29 hky_29 (by decide) rfl inlX6 (by decide) mW756 (fun _ h9 => h9) rfl dX7_start_137 ?_
    obtain ⟨hmy_30, hky_30⟩ := ySh.f6_0 hSh _ hmy_29 hky_29
    refine lv_iload hx hb dX7_start_140 (lv_at hl 0 rfl) ?_
    refine ySNri (As := [.ref (S.2.2.1 (S.2.2.1 (S.2.2.1 h0 0) 0) 0), .int v_24]) (rest := []) C0 (g_X8_at l G S d_25 (S.2.2.1 (S.2.2.1 (S.2.2.1 h0 0) 0) 0) 10 v_24 hmy_30 hky_30 (by decide) rfl rfl (by decide)) ok_X8_at (xN.n12 hN) ⟨Nat.le_of_ble_eq_true rfl, Nat.le_of_ble_eq_true rfl⟩ hP hD hK hN rfl hl.1 rfl (Nat.le_of_ble_eq_true rfl) ⟨Nat.le_of_ble_eq_true rfl, Nat.le_of_ble_eq_true rfl⟩ dX7_start_142 (fun r_31 hr_31 => ?_)
    refine lv_iconst (v := 0) hx hb dX7_start_145 (by decide) ?_
    refine lv_iconst (v := 4) hx hb dX7_start_146 (by decide) ?_
    refine ySNri (As := [.int r_31, .int 0, .int 4]) (rest := []) C0 (g_X8_within l G S d_25 r_31 0 4 ) ok_X8_within (xN.n13 hN) ⟨Nat.le_of_ble_eq_true rfl, Nat.le_of_ble_eq_true rfl⟩ hP hD hK hN rfl hl.1 rfl (Nat.le_of_ble_eq_true rfl) ⟨Nat.le_of_ble_eq_true rfl, Nat.le_of_ble_eq_true rfl⟩ dX7_start_147 (fun r_32 hr_32 => ?_)
    refine lv_if_eq (tgt := 176) hx hb dX7_start_150 (by decide) (fun c_33 => ?_) (fun c_33 => ?_)
    · refine lv_iinc (v := v_24 + 1) (lv' := [(7, .int (v_24 + 1)), (6, .int r_21), (0, .ref h0)]) hx hb dX7_start_176 hl (k := 0) rfl rfl (by decide) rfl (fun ls hl => ?_)
      refine lv_goto (tgt := 123) hx hb dX7_start_179 (by decide) ?_
      exact hnext_26 (v_24 + 1, d_25) _ _ ls (xup c_28) ⟨hP, hD, hS, hgd_25, hPod_25, lv_sub hl [0, 1, 2] rfl⟩
    · refine lv_aload_n hx hb dX7_start_153 rfl (lv_at hl 2 rfl) ?_
      refine yget (ci := 7) (k := 1) (v := .ref (S.2.2.1 h0 1)) (C := RX7) (T := TX7) (N := 18) C0 hK hP hm_h0 hk_h0 (by decide) rfl inlX7 (by decide) mW94 (fun _ h9 => h9) rfl dX7_start_154 ?_
      obtain ⟨hmy_35, hky_35⟩ := ySh.f7_1 hSh _ hm_h0 hk_h0
      refine lv_aload_n hx hb dX7_start_157 rfl (lv_at hl 2 rfl) ?_
      refine yget (ci := 7) (k := 3) (v := .int (d_25.1 h0 3)) (C := RX7) (T := TX7) (N := 18) C0 hK hP hm_h0 hk_h0 (by decide) rfl inlX7 (by decide) mW753 (fun _ h9 => h9) rfl dX7_start_158 ?_
      refine lv_topi (fun z_36 ez_36 => ?_)
      refine lv_iload hx hb dX7_start_161 (lv_at hl 0 rfl) ?_
      refine ySNwv (As := [.ref (S.2.2.1 h0 1), .int z_36, .int v_24]) (rest := []) C0 (g_X8_put l G S d_25 (S.2.2.1 h0 1) 22 z_36 v_24 hPod_25 hmy_35 hky_35 (by decide) rfl rfl (by decide)) ok_X8_put (xN.n14 hN) ⟨Nat.le_of_ble_eq_true rfl, Nat.le_of_ble_eq_true rfl⟩ hP hD hS hA hK hN rfl hl.1 rfl (Nat.le_of_ble_eq_true rfl) ⟨Nat.le_of_ble_eq_true rfl, Nat.le_of_ble_eq_true rfl⟩ dX7_start_163 (fun d_38 H locs hr_37 hP hD hS => ?_)
      obtain ⟨hgad_38, hpad_38, hxd_38⟩ := hr_37
      have hgd_38 : yAg S [7, 22, 23] d d_38 := yAg.tr hgd_25 hgad_38 (by first | decide | exact fun _ h => h)
      have hPod_38 : yPo S d_38 := hpad_38 hPod_25
      refine lv_aload_n hx hb dX7_start_166 rfl (lv_at hl 2 rfl) ?_
      refine lv_dup hx hb dX7_start_167 rfl ?_
      refine yget (ci := 7) (k := 3) (v := .int (d_38.1 h0 3)) (C := RX7) (T := TX7) (N := 18) C0 hK hP hm_h0 hk_h0 (by decide) rfl inlX7 (by decide) mW753 (fun _ h9 => h9) rfl dX7_start_168 ?_
      refine lv_topi (fun z_39 ez_39 => ?_)
      refine lv_iconst (v := 1) hx hb dX7_start_171 (by decide) ?_
      refine lv_iadd hx hb dX7_start_172 ?_
      refine lv_topi (fun z_40 ez_40 => ?_)
      refine yputI (ci := 7) (k := 3) (ty := .int) (C := RX7) (T := TX7) (N := 18) C0 hK hP hD hS hm_h0 hk_h0 (by decide) rfl inlX7 tyX7 tyX7_ok nmX7 (by decide) mW753 (fun _ h9 => h9) rfl (by decide +kernel) rfl rfl (Nat.le_of_ble_eq_true rfl) ysi_7_3 dX7_start_173 (fun H locs hP hD hS => ?_)
      obtain ⟨d_41, ed_41⟩ : ∃ z : yD, z = yi d_38 h0 3 z_40 := ⟨_, rfl⟩
      rw [← ed_41] at hP hD
      have hgd_41 : yAg S [7, 22, 23] d d_41 := by rw [ed_41]; exact yAg.i hgd_38 (by rw [hk_h0]; decide)
      have hPod_41 : yPo S d_41 := by rw [ed_41]; exact yPo.i hPod_38 hk_h0 (Or.inl rfl)
      refine lv_iinc (v := v_24 + 1) (lv' := [(7, .int (v_24 + 1)), (6, .int r_21), (0, .ref h0)]) hx hb dX7_start_176 hl (k := 0) rfl rfl (by decide) rfl (fun ls hl => ?_)
      refine lv_goto (tgt := 123) hx hb dX7_start_179 (by decide) ?_
      exact hnext_26 (v_24 + 1, d_41) _ _ ls (xup c_28) ⟨hP, hD, hS, hgd_41, hPod_41, lv_sub hl [0, 1, 2] rfl⟩
theorem dX7_step_0 : decode cX7_step 0 = .ok (.aload_n 0, 1) := by decide +kernel
theorem dX7_step_1 : decode cX7_step 1 = .ok (.aload_n 0, 1) := by decide +kernel
theorem dX7_step_2 : decode cX7_step 2 = .ok (.getfield 39, 3) := by decide +kernel
theorem dX7_step_5 : decode cX7_step 5 = .ok (.putfield 35, 3) := by decide +kernel
theorem dX7_step_8 : decode cX7_step 8 = .ok (.aload_n 0, 1) := by decide +kernel
theorem dX7_step_9 : decode cX7_step 9 = .ok (.getfield 35, 3) := by decide +kernel
theorem dX7_step_12 : decode cX7_step 12 = .ok (.aload_n 0, 1) := by decide +kernel
theorem dX7_step_13 : decode cX7_step 13 = .ok (.getfield 42, 3) := by decide +kernel
theorem dX7_step_16 : decode cX7_step 16 = .ok (.if_icmp .lt 5, 3) := by decide +kernel
theorem dX7_step_19 : decode cX7_step 19 = .ok (.iconst 0, 1) := by decide +kernel
theorem dX7_step_20 : decode cX7_step 20 = .ok (.ireturn, 1) := by decide +kernel
theorem dX7_step_21 : decode cX7_step 21 = .ok (.aload_n 0, 1) := by decide +kernel
theorem dX7_step_22 : decode cX7_step 22 = .ok (.getfield 35, 3) := by decide +kernel
theorem dX7_step_25 : decode cX7_step 25 = .ok (.sipush 1440, 3) := by decide +kernel
theorem dX7_step_28 : decode cX7_step 28 = .ok (.idiv, 1) := by decide +kernel
theorem dX7_step_29 : decode cX7_step 29 = .ok (.istore_n 1, 1) := by decide +kernel
theorem dX7_step_30 : decode cX7_step 30 = .ok (.iload_n 1, 1) := by decide +kernel
theorem dX7_step_31 : decode cX7_step 31 = .ok (.sipush 1440, 3) := by decide +kernel
theorem dX7_step_34 : decode cX7_step 34 = .ok (.imul, 1) := by decide +kernel
theorem dX7_step_35 : decode cX7_step 35 = .ok (.iconst 0, 1) := by decide +kernel
theorem dX7_step_36 : decode cX7_step 36 = .ok (.aload_n 0, 1) := by decide +kernel
theorem dX7_step_37 : decode cX7_step 37 = .ok (.getfield 28, 3) := by decide +kernel
theorem dX7_step_40 : decode cX7_step 40 = .ok (.getfield 107, 3) := by decide +kernel
theorem dX7_step_43 : decode cX7_step 43 = .ok (.iload_n 1, 1) := by decide +kernel
theorem dX7_step_44 : decode cX7_step 44 = .ok (.invokestatic 95, 3) := by decide +kernel
theorem dX7_step_47 : decode cX7_step 47 = .ok (.invokestatic 110, 3) := by decide +kernel
theorem dX7_step_50 : decode cX7_step 50 = .ok (.iadd, 1) := by decide +kernel
theorem dX7_step_51 : decode cX7_step 51 = .ok (.istore_n 2, 1) := by decide +kernel
theorem dX7_step_52 : decode cX7_step 52 = .ok (.aload_n 0, 1) := by decide +kernel
theorem dX7_step_53 : decode cX7_step 53 = .ok (.getfield 35, 3) := by decide +kernel
theorem dX7_step_56 : decode cX7_step 56 = .ok (.iload_n 2, 1) := by decide +kernel
theorem dX7_step_57 : decode cX7_step 57 = .ok (.if_icmp .lt 45, 3) := by decide +kernel
theorem dX7_step_60 : decode cX7_step 60 = .ok (.aload_n 0, 1) := by decide +kernel
theorem dX7_step_61 : decode cX7_step 61 = .ok (.aload_n 0, 1) := by decide +kernel
theorem dX7_step_62 : decode cX7_step 62 = .ok (.getfield 42, 3) := by decide +kernel
theorem dX7_step_65 : decode cX7_step 65 = .ok (.iload_n 1, 1) := by decide +kernel
theorem dX7_step_66 : decode cX7_step 66 = .ok (.iconst 1, 1) := by decide +kernel
theorem dX7_step_67 : decode cX7_step 67 = .ok (.iadd, 1) := by decide +kernel
theorem dX7_step_68 : decode cX7_step 68 = .ok (.sipush 1440, 3) := by decide +kernel
theorem dX7_step_71 : decode cX7_step 71 = .ok (.imul, 1) := by decide +kernel
theorem dX7_step_72 : decode cX7_step 72 = .ok (.invokestatic 115, 3) := by decide +kernel
theorem dX7_step_75 : decode cX7_step 75 = .ok (.putfield 39, 3) := by decide +kernel
theorem dX7_step_78 : decode cX7_step 78 = .ok (.aload_n 0, 1) := by decide +kernel
theorem dX7_step_79 : decode cX7_step 79 = .ok (.bipush (-3), 2) := by decide +kernel
theorem dX7_step_81 : decode cX7_step 81 = .ok (.putfield 118, 3) := by decide +kernel
theorem dX7_step_84 : decode cX7_step 84 = .ok (.aload_n 0, 1) := by decide +kernel
theorem dX7_step_85 : decode cX7_step 85 = .ok (.aload_n 0, 1) := by decide +kernel
theorem dX7_step_86 : decode cX7_step 86 = .ok (.getfield 48, 3) := by decide +kernel
theorem dX7_step_89 : decode cX7_step 89 = .ok (.ifCond .eq 7, 3) := by decide +kernel
theorem dX7_step_92 : decode cX7_step 92 = .ok (.iconst 2, 1) := by decide +kernel
theorem dX7_step_93 : decode cX7_step 93 = .ok (.goto 4, 3) := by decide +kernel
theorem dX7_step_96 : decode cX7_step 96 = .ok (.iconst 0, 1) := by decide +kernel
theorem dX7_step_97 : decode cX7_step 97 = .ok (.putfield 121, 3) := by decide +kernel
theorem dX7_step_100 : decode cX7_step 100 = .ok (.iconst 1, 1) := by decide +kernel
theorem dX7_step_101 : decode cX7_step 101 = .ok (.ireturn, 1) := by decide +kernel
theorem dX7_step_102 : decode cX7_step 102 = .ok (.aload_n 0, 1) := by decide +kernel
theorem dX7_step_103 : decode cX7_step 103 = .ok (.aload_n 0, 1) := by decide +kernel
theorem dX7_step_104 : decode cX7_step 104 = .ok (.getfield 42, 3) := by decide +kernel
theorem dX7_step_107 : decode cX7_step 107 = .ok (.iload_n 2, 1) := by decide +kernel
theorem dX7_step_108 : decode cX7_step 108 = .ok (.invokestatic 115, 3) := by decide +kernel
theorem dX7_step_111 : decode cX7_step 111 = .ok (.putfield 39, 3) := by decide +kernel
theorem dX7_step_114 : decode cX7_step 114 = .ok (.aload_n 0, 1) := by decide +kernel
theorem dX7_step_115 : decode cX7_step 115 = .ok (.invokevirtual 124, 3) := by decide +kernel
theorem dX7_step_118 : decode cX7_step 118 = .ok (.aload_n 0, 1) := by decide +kernel
theorem dX7_step_119 : decode cX7_step 119 = .ok (.aload_n 0, 1) := by decide +kernel
theorem dX7_step_120 : decode cX7_step 120 = .ok (.getfield 45, 3) := by decide +kernel
theorem dX7_step_123 : decode cX7_step 123 = .ok (.invokevirtual 127, 3) := by decide +kernel
theorem dX7_step_126 : decode cX7_step 126 = .ok (.aload_n 0, 1) := by decide +kernel
theorem dX7_step_127 : decode cX7_step 127 = .ok (.invokevirtual 131, 3) := by decide +kernel
theorem dX7_step_130 : decode cX7_step 130 = .ok (.iconst 0, 1) := by decide +kernel
theorem dX7_step_131 : decode cX7_step 131 = .ok (.istore_n 3, 1) := by decide +kernel
theorem dX7_step_132 : decode cX7_step 132 = .ok (.iload_n 3, 1) := by decide +kernel
theorem dX7_step_133 : decode cX7_step 133 = .ok (.aload_n 0, 1) := by decide +kernel
theorem dX7_step_134 : decode cX7_step 134 = .ok (.getfield 75, 3) := by decide +kernel
theorem dX7_step_137 : decode cX7_step 137 = .ok (.if_icmp .ge 81, 3) := by decide +kernel
theorem dX7_step_140 : decode cX7_step 140 = .ok (.aload_n 0, 1) := by decide +kernel
theorem dX7_step_141 : decode cX7_step 141 = .ok (.getfield 9, 3) := by decide +kernel
theorem dX7_step_144 : decode cX7_step 144 = .ok (.iload_n 3, 1) := by decide +kernel
theorem dX7_step_145 : decode cX7_step 145 = .ok (.invokestatic 95, 3) := by decide +kernel
theorem dX7_step_148 : decode cX7_step 148 = .ok (.istore 4, 2) := by decide +kernel
theorem dX7_step_150 : decode cX7_step 150 = .ok (.aload_n 0, 1) := by decide +kernel
theorem dX7_step_151 : decode cX7_step 151 = .ok (.getfield 18, 3) := by decide +kernel
theorem dX7_step_154 : decode cX7_step 154 = .ok (.getfield 86, 3) := by decide +kernel
theorem dX7_step_157 : decode cX7_step 157 = .ok (.getfield 90, 3) := by decide +kernel
theorem dX7_step_160 : decode cX7_step 160 = .ok (.iload 4, 2) := by decide +kernel
theorem dX7_step_162 : decode cX7_step 162 = .ok (.invokestatic 95, 3) := by decide +kernel
theorem dX7_step_165 : decode cX7_step 165 = .ok (.iconst 3, 1) := by decide +kernel
theorem dX7_step_166 : decode cX7_step 166 = .ok (.if_icmp .ne 7, 3) := by decide +kernel
theorem dX7_step_169 : decode cX7_step 169 = .ok (.iconst 1, 1) := by decide +kernel
theorem dX7_step_170 : decode cX7_step 170 = .ok (.goto 4, 3) := by decide +kernel
theorem dX7_step_173 : decode cX7_step 173 = .ok (.iconst 0, 1) := by decide +kernel
theorem dX7_step_174 : decode cX7_step 174 = .ok (.istore 5, 2) := by decide +kernel
theorem dX7_step_176 : decode cX7_step 176 = .ok (.iload 5, 2) := by decide +kernel
theorem dX7_step_178 : decode cX7_step 178 = .ok (.aload_n 0, 1) := by decide +kernel
theorem dX7_step_179 : decode cX7_step 179 = .ok (.getfield 35, 3) := by decide +kernel
theorem dX7_step_182 : decode cX7_step 182 = .ok (.aload_n 0, 1) := by decide +kernel
theorem dX7_step_183 : decode cX7_step 183 = .ok (.getfield 45, 3) := by decide +kernel
theorem dX7_step_186 : decode cX7_step 186 = .ok (.if_icmp .lt 7, 3) := by decide +kernel
theorem dX7_step_189 : decode cX7_step 189 = .ok (.iconst 1, 1) := by decide +kernel
theorem dX7_step_190 : decode cX7_step 190 = .ok (.goto 4, 3) := by decide +kernel
theorem dX7_step_193 : decode cX7_step 193 = .ok (.iconst 0, 1) := by decide +kernel
theorem dX7_step_194 : decode cX7_step 194 = .ok (.if_icmp .ne 18, 3) := by decide +kernel
theorem dX7_step_197 : decode cX7_step 197 = .ok (.aload_n 0, 1) := by decide +kernel
theorem dX7_step_198 : decode cX7_step 198 = .ok (.iload 4, 2) := by decide +kernel
theorem dX7_step_200 : decode cX7_step 200 = .ok (.invokevirtual 134, 3) := by decide +kernel
theorem dX7_step_203 : decode cX7_step 203 = .ok (.ifCond .eq 9, 3) := by decide +kernel
theorem dX7_step_206 : decode cX7_step 206 = .ok (.aload_n 0, 1) := by decide +kernel
theorem dX7_step_207 : decode cX7_step 207 = .ok (.iload 4, 2) := by decide +kernel
theorem dX7_step_209 : decode cX7_step 209 = .ok (.invokevirtual 138, 3) := by decide +kernel
theorem dX7_step_212 : decode cX7_step 212 = .ok (.iinc 3 1, 3) := by decide +kernel
theorem dX7_step_215 : decode cX7_step 215 = .ok (.goto (-83), 3) := by decide +kernel
theorem dX7_step_218 : decode cX7_step 218 = .ok (.aload_n 0, 1) := by decide +kernel
theorem dX7_step_219 : decode cX7_step 219 = .ok (.invokevirtual 141, 3) := by decide +kernel
theorem dX7_step_222 : decode cX7_step 222 = .ok (.iconst 1, 1) := by decide +kernel
theorem dX7_step_223 : decode cX7_step 223 = .ok (.ireturn, 1) := by decide +kernel
set_option maxHeartbeats 4000000 in
set_option maxRecDepth 100000 in
theorem g_X7_step (l : Launch) (G : xG) (S : yS) (d : yD) (h0 : Nat) (hSh : ySh S) (hPo : yPo S d) (hm_h0 : h0 ∈ S.1) (hk_h0 : S.2.1 h0 = 7) : xWi l G yX7_step cX7_step 6 (some .boolean) 3 64 0 0 [.ref h0] (yW G S d) (fun r (u : yD) => yAg S [7, 22, 23] d u ∧ (yPo S d → yPo S u) ∧ (r = 0 ∨ r = 1)) (fun u => yW G S u) := by
  intro sz
  refine xstart (by decide) (Nat.le_of_ble_eq_true rfl) (fun p e s m args below meth c ls C0 hr hlocks hin hsz hP hK hD hN hl => ?_)
  obtain ⟨hx, hb, hml, hown, htl⟩ := id C0
  subst hsz
  have hD := hD.self (sz := s.heap.size)
  generalize hAe : va_A (yW G S d) s.heap.size = A at hD ⊢
  have hA : ∀ q : Nat, s.heap.size ≤ q → A q := fun q h => by rw [← hAe]; exact Or.inr h
  have hS : va_S A s.heap s.heap [] := va_S.rf
  have hg0 : yAg S [7, 22, 23] d d := yAg.rf
  have hl : lv_has ls 6 [(0, .ref h0)] := hl
  refine lv_aload_n hx hb dX7_step_0 rfl (lv_at hl 0 rfl) ?_
  refine lv_aload_n hx hb dX7_step_1 rfl (lv_at hl 0 rfl) ?_
  refine yget (ci := 7) (k := 9) (v := .int (d.1 h0 9)) (C := RX7) (T := TX7) (N := 18) C0 hK hP hm_h0 hk_h0 (by decide) rfl inlX7 (by decide) mW744 (fun _ h9 => h9) rfl dX7_step_2 ?_
  refine lv_topi (fun z_1 ez_1 => ?_)
  refine yputI (ci := 7) (k := 8) (ty := .int) (C := RX7) (T := TX7) (N := 18) C0 hK hP hD hS hm_h0 hk_h0 (by decide) rfl inlX7 tyX7 tyX7_ok nmX7 (by decide) mW743 (fun _ h9 => h9) rfl (by decide +kernel) rfl rfl (Nat.le_of_ble_eq_true rfl) ysi_7_8 dX7_step_5 (fun H locs hP hD hS => ?_)
  obtain ⟨d_2, ed_2⟩ : ∃ z : yD, z = yi d h0 8 z_1 := ⟨_, rfl⟩
  rw [← ed_2] at hP hD
  have hgd_2 : yAg S [7, 22, 23] d d_2 := by rw [ed_2]; exact yAg.i hg0 (by rw [hk_h0]; decide)
  have hPod_2 : yPo S d_2 := by rw [ed_2]; exact yPo.i hPo hk_h0 (Or.inl rfl)
  refine lv_aload_n hx hb dX7_step_8 rfl (lv_at hl 0 rfl) ?_
  refine yget (ci := 7) (k := 8) (v := .int (d_2.1 h0 8)) (C := RX7) (T := TX7) (N := 18) C0 hK hP hm_h0 hk_h0 (by decide) rfl inlX7 (by decide) mW743 (fun _ h9 => h9) rfl dX7_step_9 ?_
  refine lv_topi (fun z_3 ez_3 => ?_)
  refine lv_aload_n hx hb dX7_step_12 rfl (lv_at hl 0 rfl) ?_
  refine yget (ci := 7) (k := 10) (v := .int (d_2.1 h0 10)) (C := RX7) (T := TX7) (N := 18) C0 hK hP hm_h0 hk_h0 (by decide) rfl inlX7 (by decide) mW745 (fun _ h9 => h9) rfl dX7_step_13 ?_
  refine lv_topi (fun z_4 ez_4 => ?_)
  refine lv_icmp_lt (tgt := 21) hx hb dX7_step_16 (by decide) (fun c_5 => ?_) (fun c_5 => ?_)
  · refine lv_aload_n hx hb dX7_step_21 rfl (lv_at hl 0 rfl) ?_
    refine yget (ci := 7) (k := 8) (v := .int (d_2.1 h0 8)) (C := RX7) (T := TX7) (N := 18) C0 hK hP hm_h0 hk_h0 (by decide) rfl inlX7 (by decide) mW743 (fun _ h9 => h9) rfl dX7_step_22 ?_
    refine lv_topi (fun z_6 ez_6 => ?_)
    refine lv_sipush (v := 1440) hx hb dX7_step_25 (by decide) ?_
    refine lv_idiv hx hb dX7_step_28 (by decide) ?_
    refine lv_topi (fun z_7 ez_7 => ?_)
    refine lv_istore_n (lv' := [(1, .int z_7), (0, .ref h0)]) hx hb dX7_step_29 rfl hl (by decide) rfl (fun ls hl => ?_)
    refine lv_iload_n hx hb dX7_step_30 rfl (lv_at hl 0 rfl) ?_
    refine lv_sipush (v := 1440) hx hb dX7_step_31 (by decide) ?_
    refine lv_imul hx hb dX7_step_34 ?_
    refine lv_topi (fun z_8 ez_8 => ?_)
    refine lv_iconst (v := 0) hx hb dX7_step_35 (by decide) ?_
    refine lv_aload_n hx hb dX7_step_36 rfl (lv_at hl 1 rfl) ?_
    refine yget (ci := 7) (k := 7) (v := .ref (d_2.2.2.1 h0)) (C := RX7) (T := TX7) (N := 18) C0 hK hP hm_h0 hk_h0 (by decide) rfl inlX7 (by decide) mW98 (fun _ h9 => h9) rfl dX7_step_37 ?_
    obtain ⟨hmy_9, hky_9⟩ := hPod_2.1 _ hm_h0 hk_h0
    refine yget (ci := 4) (k := 0) (v := .ref (S.2.2.1 (d_2.2.2.1 h0) 0)) (C := RX4) (T := TX4) (N := 11) C0 hK hP hmy_9 hky_9 (by decide) rfl inlX4 (by decide) mW764 (fun _ h9 => h9) rfl dX7_step_40 ?_
    obtain ⟨hmy_10, hky_10⟩ := ySh.f4_0 hSh _ hmy_9 hky_9
    refine lv_iload_n hx hb dX7_step_43 rfl (lv_at hl 0 rfl) ?_
    refine ySNri (As := [.ref (S.2.2.1 (d_2.2.2.1 h0) 0), .int z_7]) (rest := [.int 0, .int z_8]) C0 (g_X8_at l G S d_2 (S.2.2.1 (d_2.2.2.1 h0) 0) 20 z_7 hmy_10 hky_10 (by decide) rfl rfl (by decide)) ok_X8_at (xN.n12 hN) ⟨Nat.le_of_ble_eq_true rfl, Nat.le_of_ble_eq_true rfl⟩ hP hD hK hN rfl hl.1 rfl (Nat.le_of_ble_eq_true rfl) ⟨Nat.le_of_ble_eq_true rfl, Nat.le_of_ble_eq_true rfl⟩ dX7_step_44 (fun r_11 hr_11 => ?_)
    refine va_mmax hx hb (by rw [hml]; exact hl.1.symm) hown (htl (.methodLink RX7 110 Lib.Math.max.name) mW765) (htl (.static Lib.Math.max.name) mW580) (htl (.initialized "java/lang/Math") mW204) (htl (.code Lib.Math.max.name Lib.Math.max.code 2 (some .int)) mW581) (Nat.le_of_ble_eq_true rfl) (Nat.le_of_ble_eq_true rfl) (Nat.le_of_ble_eq_true rfl) (Nat.le_of_ble_eq_true rfl) dX7_step_47 ?_
    refine lv_topi (fun z_12 ez_12 => ?_)
    refine lv_iadd hx hb dX7_step_50 ?_
    refine lv_topi (fun z_13 ez_13 => ?_)
    refine lv_istore_n (lv' := [(2, .int z_13), (1, .int z_7), (0, .ref h0)]) hx hb dX7_step_51 rfl hl (by decide) rfl (fun ls hl => ?_)
    refine lv_aload_n hx hb dX7_step_52 rfl (lv_at hl 2 rfl) ?_
    refine yget (ci := 7) (k := 8) (v := .int (d_2.1 h0 8)) (C := RX7) (T := TX7) (N := 18) C0 hK hP hm_h0 hk_h0 (by decide) rfl inlX7 (by decide) mW743 (fun _ h9 => h9) rfl dX7_step_53 ?_
    refine lv_topi (fun z_14 ez_14 => ?_)
    refine lv_iload_n hx hb dX7_step_56 rfl (lv_at hl 0 rfl) ?_
    refine lv_icmp_lt (tgt := 102) hx hb dX7_step_57 (by decide) (fun c_15 => ?_) (fun c_15 => ?_)
    · refine lv_aload_n hx hb dX7_step_102 rfl (lv_at hl 2 rfl) ?_
      refine lv_aload_n hx hb dX7_step_103 rfl (lv_at hl 2 rfl) ?_
      refine yget (ci := 7) (k := 10) (v := .int (d_2.1 h0 10)) (C := RX7) (T := TX7) (N := 18) C0 hK hP hm_h0 hk_h0 (by decide) rfl inlX7 (by decide) mW745 (fun _ h9 => h9) rfl dX7_step_104 ?_
      refine lv_topi (fun z_16 ez_16 => ?_)
      refine lv_iload_n hx hb dX7_step_107 rfl (lv_at hl 0 rfl) ?_
      refine va_mmin hx hb (by rw [hml]; exact hl.1.symm) hown (htl (.methodLink RX7 115 Lib.Math.min.name) mW766) (htl (.static Lib.Math.min.name) mW203) (htl (.initialized "java/lang/Math") mW204) (htl (.code Lib.Math.min.name Lib.Math.min.code 2 (some .int)) mW205) (Nat.le_of_ble_eq_true rfl) (Nat.le_of_ble_eq_true rfl) (Nat.le_of_ble_eq_true rfl) (Nat.le_of_ble_eq_true rfl) dX7_step_108 ?_
      refine lv_topi (fun z_17 ez_17 => ?_)
      refine yputI (ci := 7) (k := 9) (ty := .int) (C := RX7) (T := TX7) (N := 18) C0 hK hP hD hS hm_h0 hk_h0 (by decide) rfl inlX7 tyX7 tyX7_ok nmX7 (by decide) mW744 (fun _ h9 => h9) rfl (by decide +kernel) rfl rfl (Nat.le_of_ble_eq_true rfl) ysi_7_9 dX7_step_111 (fun H locs hP hD hS => ?_)
      obtain ⟨d_18, ed_18⟩ : ∃ z : yD, z = yi d_2 h0 9 z_17 := ⟨_, rfl⟩
      rw [← ed_18] at hP hD
      have hgd_18 : yAg S [7, 22, 23] d d_18 := by rw [ed_18]; exact yAg.i hgd_2 (by rw [hk_h0]; decide)
      have hPod_18 : yPo S d_18 := by rw [ed_18]; exact yPo.i hPod_2 hk_h0 (Or.inl rfl)
      refine lv_aload_n hx hb dX7_step_114 rfl (lv_at hl 2 rfl) ?_
      refine yVwv (As := []) (rest := []) C0 (g_X7_readEvents l G S d_18 h0 hSh hPod_18 hm_h0 hk_h0) ok_X7_readEvents (mW769 : Cond.methodLink RX7 124 yX7_readEvents ∈ wsT) ⟨Nat.le_of_ble_eq_true rfl, Nat.le_of_ble_eq_true rfl⟩ hP hD hS hA hK hN hm_h0 hk_h0 (by decide) rfl rfl rfl hl.1 rfl (Nat.le_of_ble_eq_true rfl) ⟨Nat.le_of_ble_eq_true rfl, Nat.le_of_ble_eq_true rfl⟩ dX7_step_115 (fun d_20 H locs hr_19 hP hD hS => ?_)
      obtain ⟨hgad_20, hpad_20, hxd_20⟩ := hr_19
      have hgd_20 : yAg S [7, 22, 23] d d_20 := yAg.tr hgd_18 hgad_20 (by first | decide | exact fun _ h => h)
      have hPod_20 : yPo S d_20 := hpad_20 hPod_18
      refine lv_aload_n hx hb dX7_step_118 rfl (lv_at hl 2 rfl) ?_
      refine lv_aload_n hx hb dX7_step_119 rfl (lv_at hl 2 rfl) ?_
      refine yget (ci := 7) (k := 11) (v := .int (d_20.1 h0 11)) (C := RX7) (T := TX7) (N := 18) C0 hK hP hm_h0 hk_h0 (by decide) rfl inlX7 (by decide) mW746 (fun _ h9 => h9) rfl dX7_step_120 ?_
      refine lv_topi (fun z_21 ez_21 => ?_)
      refine yVwv (As := [.int z_21]) (rest := []) C0 (g_X7_breakAt l G S d_20 h0 z_21 hSh hPod_20 hm_h0 hk_h0) ok_X7_breakAt (mW774 : Cond.methodLink RX7 127 yX7_breakAt ∈ wsT) ⟨Nat.le_of_ble_eq_true rfl, Nat.le_of_ble_eq_true rfl⟩ hP hD hS hA hK hN hm_h0 hk_h0 (by decide) rfl rfl rfl hl.1 rfl (Nat.le_of_ble_eq_true rfl) ⟨Nat.le_of_ble_eq_true rfl, Nat.le_of_ble_eq_true rfl⟩ dX7_step_123 (fun d_23 H locs hr_22 hP hD hS => ?_)
      obtain ⟨hgad_23, hpad_23, hxd_23⟩ := hr_22
      have hgd_23 : yAg S [7, 22, 23] d d_23 := yAg.tr hgd_20 hgad_23 (by first | decide | exact fun _ h => h)
      have hPod_23 : yPo S d_23 := hpad_23 hPod_20
      refine lv_aload_n hx hb dX7_step_126 rfl (lv_at hl 2 rfl) ?_
      refine yVwv (As := []) (rest := []) C0 (g_X7_forgetAsked l G S d_23 h0 hSh hPod_23 hm_h0 hk_h0) ok_X7_forgetAsked (mW779 : Cond.methodLink RX7 131 yX7_forgetAsked ∈ wsT) ⟨Nat.le_of_ble_eq_true rfl, Nat.le_of_ble_eq_true rfl⟩ hP hD hS hA hK hN hm_h0 hk_h0 (by decide) rfl rfl rfl hl.1 rfl (Nat.le_of_ble_eq_true rfl) ⟨Nat.le_of_ble_eq_true rfl, Nat.le_of_ble_eq_true rfl⟩ dX7_step_127 (fun d_25 H locs hr_24 hP hD hS => ?_)
      obtain ⟨hgad_25, hpad_25, hxd_25⟩ := hr_24
      have hgd_25 : yAg S [7, 22, 23] d d_25 := yAg.tr hgd_23 hgad_25 (by first | decide | exact fun _ h => h)
      have hPod_25 : yPo S d_25 := hpad_25 hPod_23
      refine lv_iconst (v := 0) hx hb dX7_step_130 (by decide) ?_
      refine lv_istore_n (lv' := [(3, .int 0), (2, .int z_13), (1, .int z_7), (0, .ref h0)]) hx hb dX7_step_131 rfl hl (by decide) rfl (fun ls hl => ?_)
      refine yloop (σ := Int32 × yD) (fun x => (2147483647 - (x.1 : Int32).toInt).toNat) 132 (fun x H locs ls => va_P G.1 xcl (yW G S x.2) H ∧ va_D A (yW G S x.2) ∧ va_S A s.heap H locs ∧ yAg S [7, 22, 23] d x.2 ∧ yPo S x.2 ∧ lv_has ls 6 [(3, .int x.1), (0, .ref h0)]) (fun x H locs ls hI hnext_28 => ?_) (0, d_25) ⟨hP, hD, hS, hgd_25, hPod_25, lv_sub hl [0, 3] rfl⟩
      obtain ⟨v_26, d_27⟩ := x
      obtain ⟨hP, hD, hS, hgd_27, hPod_27, hl⟩ := hI
      have hl : lv_has ls 6 [(3, .int v_26), (0, .ref h0)] := hl
      refine lv_iload_n hx hb dX7_step_132 rfl (lv_at hl 0 rfl) ?_
      refine lv_aload_n hx hb dX7_step_133 rfl (lv_at hl 1 rfl) ?_
      refine yget (ci := 7) (k := 3) (v := .int (d_27.1 h0 3)) (C := RX7) (T := TX7) (N := 18) C0 hK hP hm_h0 hk_h0 (by decide) rfl inlX7 (by decide) mW753 (fun _ h9 => h9) rfl dX7_step_134 ?_
      refine lv_topi (fun z_30 ez_30 => ?_)
      refine lv_icmp_ge (tgt := 218) hx hb dX7_step_137 (by decide) (fun c_31 => ?_) (fun c_31 => ?_)
      · refine lv_aload_n hx hb dX7_step_218 rfl (lv_at hl 1 rfl) ?_
        refine yVwv (As := []) (rest := []) C0 (g_X7_choose l G S d_27 h0 hSh hPod_27 hm_h0 hk_h0) ok_X7_choose (mW798 : Cond.methodLink RX7 141 yX7_choose ∈ wsT) ⟨Nat.le_of_ble_eq_true rfl, Nat.le_of_ble_eq_true rfl⟩ hP hD hS hA hK hN hm_h0 hk_h0 (by decide) rfl rfl rfl hl.1 rfl (Nat.le_of_ble_eq_true rfl) ⟨Nat.le_of_ble_eq_true rfl, Nat.le_of_ble_eq_true rfl⟩ dX7_step_219 (fun d_33 H locs hr_32 hP hD hS => ?_)
        obtain ⟨hgad_33, hpad_33, hxd_33⟩ := hr_32
        have hgd_33 : yAg S [7, 22, 23] d d_33 := yAg.tr hgd_27 hgad_33 (by first | decide | exact fun _ h => h)
        have hPod_33 : yPo S d_33 := hpad_33 hPod_27
        refine lv_iconst (v := 1) hx hb dX7_step_222 (by decide) ?_
        exact W.zret (v := 1) (ty := .boolean) hx hb hr rfl (fun t ht hW => ⟨⟨1, d_33, rfl, ⟨hgd_33, (fun _ => hPod_33), Or.inr rfl⟩, by rw [ht]; exact hP, hD⟩, hS.F ht⟩) hS.2.2 dX7_step_223
      · refine lv_aload_n hx hb dX7_step_140 rfl (lv_at hl 1 rfl) ?_
        refine yget (ci := 7) (k := 1) (v := .ref (S.2.2.1 h0 1)) (C := RX7) (T := TX7) (N := 18) C0 hK hP hm_h0 hk_h0 (by decide) rfl inlX7 (by decide) mW94 (fun _ h9 => h9) rfl dX7_step_141 ?_
        obtain ⟨hmy_34, hky_34⟩ := ySh.f7_1 hSh _ hm_h0 hk_h0
        refine lv_iload_n hx hb dX7_step_144 rfl (lv_at hl 0 rfl) ?_
        refine ySNri (As := [.ref (S.2.2.1 h0 1), .int v_26]) (rest := []) C0 (g_X8_at l G S d_27 (S.2.2.1 h0 1) 22 v_26 hmy_34 hky_34 (by decide) rfl rfl (by decide)) ok_X8_at (xN.n12 hN) ⟨Nat.le_of_ble_eq_true rfl, Nat.le_of_ble_eq_true rfl⟩ hP hD hK hN rfl hl.1 rfl (Nat.le_of_ble_eq_true rfl) ⟨Nat.le_of_ble_eq_true rfl, Nat.le_of_ble_eq_true rfl⟩ dX7_step_145 (fun r_35 hr_35 => ?_)
        refine lv_istore (lv' := [(4, .int r_35), (3, .int v_26), (0, .ref h0)]) hx hb dX7_step_148 hl (by decide) rfl (fun ls hl => ?_)
        refine lv_aload_n hx hb dX7_step_150 rfl (lv_at hl 2 rfl) ?_
        refine yget (ci := 7) (k := 0) (v := .ref (S.2.2.1 h0 0)) (C := RX7) (T := TX7) (N := 18) C0 hK hP hm_h0 hk_h0 (by decide) rfl inlX7 (by decide) mW96 (fun _ h9 => h9) rfl dX7_step_151 ?_
        obtain ⟨hmy_36, hky_36⟩ := ySh.f7_0 hSh _ hm_h0 hk_h0
        refine yget (ci := 0) (k := 0) (v := .ref (S.2.2.1 (S.2.2.1 h0 0) 0)) (C := RX0) (T := TX0) (N := 6) C0 hK hP hmy_36 hky_36 (by decide) rfl inlX0 (by decide) mW755 (fun _ h9 => h9) rfl dX7_step_154 ?_
        obtain ⟨hmy_37, hky_37⟩ := ySh.f0_0 hSh _ hmy_36 hky_36
        refine yget (ci := 6) (k := 0) (v := .ref (S.2.2.1 (S.2.2.1 (S.2.2.1 h0 0) 0) 0)) (C := RX6) (T := TX6) (N := 7) C0 hK hP hmy_37 hky_37 (by decide) rfl inlX6 (by decide) mW756 (fun _ h9 => h9) rfl dX7_step_157 ?_
        obtain ⟨hmy_38, hky_38⟩ := ySh.f6_0 hSh _ hmy_37 hky_37
        refine lv_iload hx hb dX7_step_160 (lv_at hl 0 rfl) ?_
        refine ySNri (As := [.ref (S.2.2.1 (S.2.2.1 (S.2.2.1 h0 0) 0) 0), .int r_35]) (rest := []) C0 (g_X8_at l G S d_27 (S.2.2.1 (S.2.2.1 (S.2.2.1 h0 0) 0) 0) 10 r_35 hmy_38 hky_38 (by decide) rfl rfl (by decide)) ok_X8_at (xN.n12 hN) ⟨Nat.le_of_ble_eq_true rfl, Nat.le_of_ble_eq_true rfl⟩ hP hD hK hN rfl hl.1 rfl (Nat.le_of_ble_eq_true rfl) ⟨Nat.le_of_ble_eq_true rfl, Nat.le_of_ble_eq_true rfl⟩ dX7_step_162 (fun r_39 hr_39 => ?_)
        refine lv_iconst (v := 3) hx hb dX7_step_165 (by decide) ?_
        refine yjoinR (σ := Int32) 174 (fun x ls st => st = [.int x] ∧ lv_has ls 6 [(4, .int r_35), (3, .int v_26), (0, .ref h0)] ∧ (x = 0 ∨ x = 1)) (fun x ls st hI => ?_) (fun J174_40 => ?_)
        · obtain ⟨v_40, rfl⟩ : ∃ z, z = x := ⟨_, rfl⟩
          obtain ⟨rfl, hl, hzv_40⟩ := hI
          have hl : lv_has ls 6 [(4, .int r_35), (3, .int v_26), (0, .ref h0)] := hl
          refine lv_istore (lv' := [(5, .int v_40), (4, .int r_35), (3, .int v_26), (0, .ref h0)]) hx hb dX7_step_174 hl (by decide) rfl (fun ls hl => ?_)
          refine lv_iload hx hb dX7_step_176 (lv_at hl 0 rfl) ?_
          refine lv_aload_n hx hb dX7_step_178 rfl (lv_at hl 3 rfl) ?_
          refine yget (ci := 7) (k := 8) (v := .int (d_27.1 h0 8)) (C := RX7) (T := TX7) (N := 18) C0 hK hP hm_h0 hk_h0 (by decide) rfl inlX7 (by decide) mW743 (fun _ h9 => h9) rfl dX7_step_179 ?_
          refine lv_topi (fun z_41 ez_41 => ?_)
          refine lv_aload_n hx hb dX7_step_182 rfl (lv_at hl 3 rfl) ?_
          refine yget (ci := 7) (k := 11) (v := .int (d_27.1 h0 11)) (C := RX7) (T := TX7) (N := 18) C0 hK hP hm_h0 hk_h0 (by decide) rfl inlX7 (by decide) mW746 (fun _ h9 => h9) rfl dX7_step_183 ?_
          refine lv_topi (fun z_42 ez_42 => ?_)
          refine yjoinR (σ := Int32) 194 (fun x ls st => st = [.int x, .int v_40] ∧ lv_has ls 6 [(4, .int r_35), (3, .int v_26), (0, .ref h0)] ∧ (x = 0 ∨ x = 1)) (fun x ls st hI => ?_) (fun J194_43 => ?_)
          · obtain ⟨v_43, rfl⟩ : ∃ z, z = x := ⟨_, rfl⟩
            obtain ⟨rfl, hl, hzv_43⟩ := hI
            have hl : lv_has ls 6 [(4, .int r_35), (3, .int v_26), (0, .ref h0)] := hl
            refine lv_icmp_ne (tgt := 212) hx hb dX7_step_194 (by decide) (fun c_44 => ?_) (fun c_44 => ?_)
            · refine lv_iinc (v := v_26 + 1) (lv' := [(3, .int (v_26 + 1)), (4, .int r_35), (0, .ref h0)]) hx hb dX7_step_212 hl (k := 1) rfl rfl (by decide) rfl (fun ls hl => ?_)
              refine lv_goto (tgt := 132) hx hb dX7_step_215 (by decide) ?_
              exact hnext_28 (v_26 + 1, d_27) _ _ ls (xup c_31) ⟨hP, hD, hS, hgd_27, hPod_27, lv_sub hl [0, 2] rfl⟩
            · refine lv_aload_n hx hb dX7_step_197 rfl (lv_at hl 2 rfl) ?_
              refine lv_iload hx hb dX7_step_198 (lv_at hl 0 rfl) ?_
              refine yVwi (As := [.int r_35]) (rest := []) C0 (g_X7_spans l G S d_27 h0 r_35 hSh hPod_27 hm_h0 hk_h0) ok_X7_spans (mW786 : Cond.methodLink RX7 134 yX7_spans ∈ wsT) ⟨Nat.le_of_ble_eq_true rfl, Nat.le_of_ble_eq_true rfl⟩ hP hD hS hA hK hN hm_h0 hk_h0 (by decide) rfl rfl rfl hl.1 rfl (Nat.le_of_ble_eq_true rfl) ⟨Nat.le_of_ble_eq_true rfl, Nat.le_of_ble_eq_true rfl⟩ dX7_step_200 (fun r_46 d_47 H locs hr_46 hP hD hS => ?_)
              obtain ⟨hgad_47, hpad_47, hxd_47⟩ := hr_46
              have hgd_47 : yAg S [7, 22, 23] d d_47 := yAg.tr hgd_27 hgad_47 (by first | decide | exact fun _ h => h)
              have hPod_47 : yPo S d_47 := hpad_47 hPod_27
              refine lv_if_eq (tgt := 212) hx hb dX7_step_203 (by decide) (fun c_48 => ?_) (fun c_48 => ?_)
              · refine lv_iinc (v := v_26 + 1) (lv' := [(3, .int (v_26 + 1)), (4, .int r_35), (0, .ref h0)]) hx hb dX7_step_212 hl (k := 1) rfl rfl (by decide) rfl (fun ls hl => ?_)
                refine lv_goto (tgt := 132) hx hb dX7_step_215 (by decide) ?_
                exact hnext_28 (v_26 + 1, d_47) _ _ ls (xup c_31) ⟨hP, hD, hS, hgd_47, hPod_47, lv_sub hl [0, 2] rfl⟩
              · refine lv_aload_n hx hb dX7_step_206 rfl (lv_at hl 2 rfl) ?_
                refine lv_iload hx hb dX7_step_207 (lv_at hl 0 rfl) ?_
                refine yVwv (As := [.int r_35]) (rest := []) C0 (g_X7_addAsked l G S d_47 h0 r_35 hSh hPod_47 hm_h0 hk_h0) ok_X7_addAsked (mW794 : Cond.methodLink RX7 138 yX7_addAsked ∈ wsT) ⟨Nat.le_of_ble_eq_true rfl, Nat.le_of_ble_eq_true rfl⟩ hP hD hS hA hK hN hm_h0 hk_h0 (by decide) rfl rfl rfl hl.1 rfl (Nat.le_of_ble_eq_true rfl) ⟨Nat.le_of_ble_eq_true rfl, Nat.le_of_ble_eq_true rfl⟩ dX7_step_209 (fun d_51 H locs hr_50 hP hD hS => ?_)
                obtain ⟨hgad_51, hpad_51, hxd_51⟩ := hr_50
                have hgd_51 : yAg S [7, 22, 23] d d_51 := yAg.tr hgd_47 hgad_51 (by first | decide | exact fun _ h => h)
                have hPod_51 : yPo S d_51 := hpad_51 hPod_47
                refine lv_iinc (v := v_26 + 1) (lv' := [(3, .int (v_26 + 1)), (4, .int r_35), (0, .ref h0)]) hx hb dX7_step_212 hl (k := 1) rfl rfl (by decide) rfl (fun ls hl => ?_)
                refine lv_goto (tgt := 132) hx hb dX7_step_215 (by decide) ?_
                exact hnext_28 (v_26 + 1, d_51) _ _ ls (xup c_31) ⟨hP, hD, hS, hgd_51, hPod_51, lv_sub hl [0, 2] rfl⟩
          refine lv_icmp_lt (tgt := 193) hx hb dX7_step_186 (by decide) (fun c_53 => ?_) (fun c_53 => ?_)
          · refine lv_iconst (v := 0) hx hb dX7_step_193 (by decide) ?_
            exact J194_43 0 ls _ ⟨rfl, lv_sub hl [1, 2, 3] rfl, Or.inl rfl⟩
          · refine lv_iconst (v := 1) hx hb dX7_step_189 (by decide) ?_
            refine lv_goto (tgt := 194) hx hb dX7_step_190 (by decide) ?_
            exact J194_43 1 ls _ ⟨rfl, lv_sub hl [1, 2, 3] rfl, Or.inr rfl⟩
        refine lv_icmp_ne (tgt := 173) hx hb dX7_step_166 (by decide) (fun c_54 => ?_) (fun c_54 => ?_)
        · refine lv_iconst (v := 0) hx hb dX7_step_173 (by decide) ?_
          exact J174_40 0 ls _ ⟨rfl, lv_sub hl [0, 1, 2] rfl, Or.inl rfl⟩
        · refine lv_iconst (v := 1) hx hb dX7_step_169 (by decide) ?_
          refine lv_goto (tgt := 174) hx hb dX7_step_170 (by decide) ?_
          exact J174_40 1 ls _ ⟨rfl, lv_sub hl [0, 1, 2] rfl, Or.inr rfl⟩
    · refine lv_aload_n hx hb dX7_step_60 rfl (lv_at hl 2 rfl) ?_
      refine lv_aload_n hx hb dX7_step_61 rfl (lv_at hl 2 rfl) ?_
      refine yget (ci := 7) (k := 10) (v := .int (d_2.1 h0 10)) (C := RX7) (T := TX7) (N := 18) C0 hK hP hm_h0 hk_h0 (by decide) rfl inlX7 (by decide) mW745 (fun _ h9 => h9) rfl dX7_step_62 ?_
      refine lv_topi (fun z_55 ez_55 => ?_)
      refine lv_iload_n hx hb dX7_step_65 rfl (lv_at hl 1 rfl) ?_
      refine lv_iconst (v := 1) hx hb dX7_step_66 (by decide) ?_
      refine lv_iadd hx hb dX7_step_67 ?_
      refine lv_topi (fun z_56 ez_56 => ?_)
      refine lv_sipush (v := 1440) hx hb dX7_step_68 (by decide) ?_
      refine lv_imul hx hb dX7_step_71 ?_
      refine lv_topi (fun z_57 ez_57 => ?_)
      refine va_mmin hx hb (by rw [hml]; exact hl.1.symm) hown (htl (.methodLink RX7 115 Lib.Math.min.name) mW766) (htl (.static Lib.Math.min.name) mW203) (htl (.initialized "java/lang/Math") mW204) (htl (.code Lib.Math.min.name Lib.Math.min.code 2 (some .int)) mW205) (Nat.le_of_ble_eq_true rfl) (Nat.le_of_ble_eq_true rfl) (Nat.le_of_ble_eq_true rfl) (Nat.le_of_ble_eq_true rfl) dX7_step_72 ?_
      refine lv_topi (fun z_58 ez_58 => ?_)
      refine yputI (ci := 7) (k := 9) (ty := .int) (C := RX7) (T := TX7) (N := 18) C0 hK hP hD hS hm_h0 hk_h0 (by decide) rfl inlX7 tyX7 tyX7_ok nmX7 (by decide) mW744 (fun _ h9 => h9) rfl (by decide +kernel) rfl rfl (Nat.le_of_ble_eq_true rfl) ysi_7_9 dX7_step_75 (fun H locs hP hD hS => ?_)
      obtain ⟨d_59, ed_59⟩ : ∃ z : yD, z = yi d_2 h0 9 z_58 := ⟨_, rfl⟩
      rw [← ed_59] at hP hD
      have hgd_59 : yAg S [7, 22, 23] d d_59 := by rw [ed_59]; exact yAg.i hgd_2 (by rw [hk_h0]; decide)
      have hPod_59 : yPo S d_59 := by rw [ed_59]; exact yPo.i hPod_2 hk_h0 (Or.inl rfl)
      refine lv_aload_n hx hb dX7_step_78 rfl (lv_at hl 2 rfl) ?_
      refine lv_bipush (v := (-3)) hx hb dX7_step_79 (by decide) ?_
      refine yputI (ci := 7) (k := 17) (ty := .int) (C := RX7) (T := TX7) (N := 18) C0 hK hP hD hS hm_h0 hk_h0 (by decide) rfl inlX7 tyX7 tyX7_ok nmX7 (by decide) mW767 (fun _ h9 => h9) rfl (by decide +kernel) rfl rfl (Nat.le_of_ble_eq_true rfl) ysi_7_17 dX7_step_81 (fun H locs hP hD hS => ?_)
      obtain ⟨d_60, ed_60⟩ : ∃ z : yD, z = yi d_59 h0 17 (-3) := ⟨_, rfl⟩
      rw [← ed_60] at hP hD
      have hgd_60 : yAg S [7, 22, 23] d d_60 := by rw [ed_60]; exact yAg.i hgd_59 (by rw [hk_h0]; decide)
      have hPod_60 : yPo S d_60 := by rw [ed_60]; exact yPo.i hPod_59 hk_h0 (Or.inl rfl)
      refine lv_aload_n hx hb dX7_step_84 rfl (lv_at hl 2 rfl) ?_
      refine lv_aload_n hx hb dX7_step_85 rfl (lv_at hl 2 rfl) ?_
      refine yget (ci := 7) (k := 12) (v := .int (d_60.1 h0 12)) (C := RX7) (T := TX7) (N := 18) C0 hK hP hm_h0 hk_h0 (by decide) rfl inlX7 (by decide) mW747 (fun _ h9 => h9) rfl dX7_step_86 ?_
      refine lv_topi (fun z_61 ez_61 => ?_)
      have hzz_61 : z_61 = 0 ∨ z_61 = 1 := by rw [ez_61]; exact yPo.b hPod_60 hm_h0 hk_h0 rfl
      refine lv_if_eq (tgt := 96) hx hb dX7_step_89 (by decide) (fun c_62 => ?_) (fun c_62 => ?_)
      · refine lv_iconst (v := 0) hx hb dX7_step_96 (by decide) ?_
        refine yputI (ci := 7) (k := 16) (ty := .int) (C := RX7) (T := TX7) (N := 18) C0 hK hP hD hS hm_h0 hk_h0 (by decide) rfl inlX7 tyX7 tyX7_ok nmX7 (by decide) mW768 (fun _ h9 => h9) rfl (by decide +kernel) rfl rfl (Nat.le_of_ble_eq_true rfl) ysi_7_16 dX7_step_97 (fun H locs hP hD hS => ?_)
        obtain ⟨d_63, ed_63⟩ : ∃ z : yD, z = yi d_60 h0 16 0 := ⟨_, rfl⟩
        rw [← ed_63] at hP hD
        have hgd_63 : yAg S [7, 22, 23] d d_63 := by rw [ed_63]; exact yAg.i hgd_60 (by rw [hk_h0]; decide)
        have hPod_63 : yPo S d_63 := by rw [ed_63]; exact yPo.i hPod_60 hk_h0 (Or.inl rfl)
        refine lv_iconst (v := 1) hx hb dX7_step_100 (by decide) ?_
        exact W.zret (v := 1) (ty := .boolean) hx hb hr rfl (fun t ht hW => ⟨⟨1, d_63, rfl, ⟨hgd_63, (fun _ => hPod_63), Or.inr rfl⟩, by rw [ht]; exact hP, hD⟩, hS.F ht⟩) hS.2.2 dX7_step_101
      · refine lv_iconst (v := 2) hx hb dX7_step_92 (by decide) ?_
        refine lv_goto (tgt := 97) hx hb dX7_step_93 (by decide) ?_
        refine yputI (ci := 7) (k := 16) (ty := .int) (C := RX7) (T := TX7) (N := 18) C0 hK hP hD hS hm_h0 hk_h0 (by decide) rfl inlX7 tyX7 tyX7_ok nmX7 (by decide) mW768 (fun _ h9 => h9) rfl (by decide +kernel) rfl rfl (Nat.le_of_ble_eq_true rfl) ysi_7_16 dX7_step_97 (fun H locs hP hD hS => ?_)
        obtain ⟨d_64, ed_64⟩ : ∃ z : yD, z = yi d_60 h0 16 2 := ⟨_, rfl⟩
        rw [← ed_64] at hP hD
        have hgd_64 : yAg S [7, 22, 23] d d_64 := by rw [ed_64]; exact yAg.i hgd_60 (by rw [hk_h0]; decide)
        have hPod_64 : yPo S d_64 := by rw [ed_64]; exact yPo.i hPod_60 hk_h0 (Or.inl rfl)
        refine lv_iconst (v := 1) hx hb dX7_step_100 (by decide) ?_
        exact W.zret (v := 1) (ty := .boolean) hx hb hr rfl (fun t ht hW => ⟨⟨1, d_64, rfl, ⟨hgd_64, (fun _ => hPod_64), Or.inr rfl⟩, by rw [ht]; exact hP, hD⟩, hS.F ht⟩) hS.2.2 dX7_step_101
  · refine lv_iconst (v := 0) hx hb dX7_step_19 (by decide) ?_
    exact W.zret (v := 0) (ty := .boolean) hx hb hr rfl (fun t ht hW => ⟨⟨0, d_2, rfl, ⟨hgd_2, (fun _ => hPod_2), Or.inl rfl⟩, by rw [ht]; exact hP, hD⟩, hS.F ht⟩) hS.2.2 dX7_step_20
