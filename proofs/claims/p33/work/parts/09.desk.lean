theorem dX8_refused_0 : decode cX8_refused 0 = .ok (.aload_n 0, 1) := by decide +kernel
theorem dX8_refused_1 : decode cX8_refused 1 = .ok (.iload_n 1, 1) := by decide +kernel
theorem dX8_refused_2 : decode cX8_refused 2 = .ok (.putfield 351, 3) := by decide +kernel
theorem dX8_refused_5 : decode cX8_refused 5 = .ok (.iload_n 1, 1) := by decide +kernel
theorem dX8_refused_6 : decode cX8_refused 6 = .ok (.ifCond .eq 21, 3) := by decide +kernel
theorem dX8_refused_9 : decode cX8_refused 9 = .ok (.aload_n 0, 1) := by decide +kernel
theorem dX8_refused_10 : decode cX8_refused 10 = .ok (.getfield 28, 3) := by decide +kernel
theorem dX8_refused_13 : decode cX8_refused 13 = .ok (.iload_n 1, 1) := by decide +kernel
theorem dX8_refused_14 : decode cX8_refused 14 = .ok (.aload_n 0, 1) := by decide +kernel
theorem dX8_refused_15 : decode cX8_refused 15 = .ok (.getfield 28, 3) := by decide +kernel
theorem dX8_refused_18 : decode cX8_refused 18 = .ok (.iload_n 1, 1) := by decide +kernel
theorem dX8_refused_19 : decode cX8_refused 19 = .ok (.invokestatic 78, 3) := by decide +kernel
theorem dX8_refused_22 : decode cX8_refused 22 = .ok (.iconst 1, 1) := by decide +kernel
theorem dX8_refused_23 : decode cX8_refused 23 = .ok (.iadd, 1) := by decide +kernel
theorem dX8_refused_24 : decode cX8_refused 24 = .ok (.invokestatic 82, 3) := by decide +kernel
theorem dX8_refused_27 : decode cX8_refused 27 = .ok (.iload_n 1, 1) := by decide +kernel
theorem dX8_refused_28 : decode cX8_refused 28 = .ok (.ifCond .eq 7, 3) := by decide +kernel
theorem dX8_refused_31 : decode cX8_refused 31 = .ok (.iconst 1, 1) := by decide +kernel
theorem dX8_refused_32 : decode cX8_refused 32 = .ok (.goto 4, 3) := by decide +kernel
theorem dX8_refused_35 : decode cX8_refused 35 = .ok (.iconst 0, 1) := by decide +kernel
theorem dX8_refused_36 : decode cX8_refused 36 = .ok (.ireturn, 1) := by decide +kernel
set_option maxHeartbeats 4000000 in
set_option maxRecDepth 100000 in
theorem g_X8_refused (l : Launch) (G : xG) (S : yS) (d : yD) (q0 : Nat) (p0 : Int32) (hSh : ySh S) (hPo : yPo S d) (hm_q0 : q0 ∈ S.1) (hk_q0 : S.2.1 q0 = 8) : xWi l G yX8_refused cX8_refused 2 (some .boolean) 1 22 0 0 [.ref q0, .int p0] (yW G S d) (fun r (u : yD) => yAg S [8, 24] d u ∧ (yPo S d → yPo S u) ∧ (r = xref p0 ∧ u.1 q0 4 = d.1 q0 4)) (fun u => yW G S u) := by
  intro sz
  refine xstart (by decide) (Nat.le_of_ble_eq_true rfl) (fun p e s m args below meth c ls C0 hr hlocks hin hsz hP hK hD hN hl => ?_)
  obtain ⟨hx, hb, hml, hown, htl⟩ := id C0
  subst hsz
  have hD := hD.self (sz := s.heap.size)
  generalize hAe : va_A (yW G S d) s.heap.size = A at hD ⊢
  have hA : ∀ q : Nat, s.heap.size ≤ q → A q := fun q h => by rw [← hAe]; exact Or.inr h
  have hS : va_S A s.heap s.heap [] := va_S.rf
  have hg0 : yAg S [8, 24] d d := yAg.rf
  have hl : lv_has ls 2 [(0, .ref q0), (1, .int p0)] := hl
  refine lv_aload_n hx hb dX8_refused_0 rfl (lv_at hl 0 rfl) ?_
  refine lv_iload_n hx hb dX8_refused_1 rfl (lv_at hl 1 rfl) ?_
  refine yputI (ci := 8) (k := 5) (ty := .int) (C := RX8) (T := TX8) (N := 6) C0 hK hP hD hS hm_q0 hk_q0 (by decide) rfl inlX8 tyX8 tyX8_ok nmX8 (by decide) mW164 (fun _ h9 => h9) rfl (by decide +kernel) rfl rfl (Nat.le_of_ble_eq_true rfl) ysi_8_5 dX8_refused_2 (fun H locs hP hD hS => ?_)
  obtain ⟨d_1, ed_1⟩ : ∃ z : yD, z = yi d q0 5 p0 := ⟨_, rfl⟩
  rw [← ed_1] at hP hD
  have hgd_1 : yAg S [8, 24] d d_1 := by rw [ed_1]; exact yAg.i hg0 (by rw [hk_q0]; decide)
  have hPod_1 : yPo S d_1 := by rw [ed_1]; exact yPo.i hPo hk_q0 (Or.inl rfl)
  refine lv_iload_n hx hb dX8_refused_5 rfl (lv_at hl 1 rfl) ?_
  refine lv_if_eq (tgt := 27) hx hb dX8_refused_6 (by decide) (fun c_2 => ?_) (fun c_2 => ?_)
  · refine lv_iload_n hx hb dX8_refused_27 rfl (lv_at hl 1 rfl) ?_
    refine lv_if_eq (tgt := 35) hx hb dX8_refused_28 (by decide) (fun c_3 => ?_) (fun c_3 => absurd c_2 c_3)
    refine lv_iconst (v := 0) hx hb dX8_refused_35 (by decide) ?_
    exact W.zret (v := 0) (ty := .boolean) hx hb hr rfl (fun t ht hW => ⟨⟨0, d_1, rfl, ⟨hgd_1, (fun _ => hPod_1), ⟨(if_pos c_2).symm, by rw [ed_1]; exact yi_at (by decide)⟩⟩, by rw [ht]; exact hP, hD⟩, hS.F ht⟩) hS.2.2 dX8_refused_36
  · refine lv_aload_n hx hb dX8_refused_9 rfl (lv_at hl 0 rfl) ?_
    refine yget (ci := 8) (k := 3) (v := .ref (S.2.2.1 q0 3)) (C := RX8) (T := TX8) (N := 6) C0 hK hP hm_q0 hk_q0 (by decide) rfl inlX8 (by decide) mW23 (fun _ h9 => h9) rfl dX8_refused_10 ?_
    obtain ⟨hmy_4, hky_4⟩ := ySh.f8_3 hSh _ hm_q0 hk_q0
    refine lv_iload_n hx hb dX8_refused_13 rfl (lv_at hl 1 rfl) ?_
    refine lv_aload_n hx hb dX8_refused_14 rfl (lv_at hl 0 rfl) ?_
    refine yget (ci := 8) (k := 3) (v := .ref (S.2.2.1 q0 3)) (C := RX8) (T := TX8) (N := 6) C0 hK hP hm_q0 hk_q0 (by decide) rfl inlX8 (by decide) mW23 (fun _ h9 => h9) rfl dX8_refused_15 ?_
    refine lv_iload_n hx hb dX8_refused_18 rfl (lv_at hl 1 rfl) ?_
    refine ySri (As := [.ref (S.2.2.1 q0 3), .int p0]) (rest := [.int p0, .ref (S.2.2.1 q0 3)]) C0 (g_X8_at l G S d_1 (S.2.2.1 q0 3) 24 p0 hmy_4 hky_4 (by decide) rfl rfl (by decide)) ok_X8_at (mW165 : Cond.methodLink RX8 78 yX8_at ∈ wsT) ⟨Nat.le_of_ble_eq_true rfl, Nat.le_of_ble_eq_true rfl⟩ hP hD hK hN rfl hl.1 rfl (Nat.le_of_ble_eq_true rfl) ⟨Nat.le_of_ble_eq_true rfl, Nat.le_of_ble_eq_true rfl⟩ dX8_refused_19 (fun r_5 hr_5 => ?_)
    refine lv_iconst (v := 1) hx hb dX8_refused_22 (by decide) ?_
    refine lv_iadd hx hb dX8_refused_23 ?_
    refine lv_topi (fun z_6 ez_6 => ?_)
    refine ySwv (As := [.ref (S.2.2.1 q0 3), .int p0, .int z_6]) (rest := []) C0 (g_X8_put l G S d_1 (S.2.2.1 q0 3) 24 p0 z_6 hPod_1 hmy_4 hky_4 (by decide) rfl rfl (by decide)) ok_X8_put (mW168 : Cond.methodLink RX8 82 yX8_put ∈ wsT) ⟨Nat.le_of_ble_eq_true rfl, Nat.le_of_ble_eq_true rfl⟩ hP hD hS hA hK hN rfl hl.1 rfl (Nat.le_of_ble_eq_true rfl) ⟨Nat.le_of_ble_eq_true rfl, Nat.le_of_ble_eq_true rfl⟩ dX8_refused_24 (fun d_8 H locs hr_7 hP hD hS => ?_)
    obtain ⟨hgad_8, hpad_8, hxd_8⟩ := hr_7
    have hgd_8 : yAg S [8, 24] d d_8 := yAg.tr hgd_1 hgad_8 (by first | decide | exact fun _ h => h)
    have hPod_8 : yPo S d_8 := hpad_8 hPod_1
    refine lv_iload_n hx hb dX8_refused_27 rfl (lv_at hl 1 rfl) ?_
    refine lv_if_eq (tgt := 35) hx hb dX8_refused_28 (by decide) (fun c_9 => absurd c_9 c_2) (fun c_9 => ?_)
    refine lv_iconst (v := 1) hx hb dX8_refused_31 (by decide) ?_
    refine lv_goto (tgt := 36) hx hb dX8_refused_32 (by decide) ?_
    exact W.zret (v := 1) (ty := .boolean) hx hb hr rfl (fun t ht hW => ⟨⟨1, d_8, rfl, ⟨hgd_8, (fun _ => hPod_8), ⟨(if_neg c_2).symm, by rw [hxd_8, ed_1]; exact yi_at (by decide)⟩⟩, by rw [ht]; exact hP, hD⟩, hS.F ht⟩) hS.2.2 dX8_refused_36
