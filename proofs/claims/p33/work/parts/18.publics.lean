theorem xaddsub (x : Int32) : x + 1 - 1 = x := by
  first
  | exact Int32.add_sub_cancel x 1
  | simp
theorem dX8_contract_0 : decode cX8_contract 0 = .ok (.aload_n 0, 1) := by decide +kernel
theorem dX8_contract_1 : decode cX8_contract 1 = .ok (.aload_n 0, 1) := by decide +kernel
theorem dX8_contract_2 : decode cX8_contract 2 = .ok (.getfield 12, 3) := by decide +kernel
theorem dX8_contract_5 : decode cX8_contract 5 = .ok (.getfield 32, 3) := by decide +kernel
theorem dX8_contract_8 : decode cX8_contract 8 = .ok (.getfield 36, 3) := by decide +kernel
theorem dX8_contract_11 : decode cX8_contract 11 = .ok (.bipush 40, 2) := by decide +kernel
theorem dX8_contract_13 : decode cX8_contract 13 = .ok (.if_icmp .lt 7, 3) := by decide +kernel
theorem dX8_contract_16 : decode cX8_contract 16 = .ok (.iconst 5, 1) := by decide +kernel
theorem dX8_contract_17 : decode cX8_contract 17 = .ok (.goto 4, 3) := by decide +kernel
theorem dX8_contract_20 : decode cX8_contract 20 = .ok (.iconst 0, 1) := by decide +kernel
theorem dX8_contract_21 : decode cX8_contract 21 = .ok (.invokevirtual 42, 3) := by decide +kernel
theorem dX8_contract_24 : decode cX8_contract 24 = .ok (.ifCond .eq 5, 3) := by decide +kernel
theorem dX8_contract_27 : decode cX8_contract 27 = .ok (.iconst (-1), 1) := by decide +kernel
theorem dX8_contract_28 : decode cX8_contract 28 = .ok (.ireturn, 1) := by decide +kernel
theorem dX8_contract_29 : decode cX8_contract 29 = .ok (.aload_n 0, 1) := by decide +kernel
theorem dX8_contract_30 : decode cX8_contract 30 = .ok (.getfield 12, 3) := by decide +kernel
theorem dX8_contract_33 : decode cX8_contract 33 = .ok (.getfield 32, 3) := by decide +kernel
theorem dX8_contract_36 : decode cX8_contract 36 = .ok (.dup, 1) := by decide +kernel
theorem dX8_contract_37 : decode cX8_contract 37 = .ok (.getfield 36, 3) := by decide +kernel
theorem dX8_contract_40 : decode cX8_contract 40 = .ok (.iconst 1, 1) := by decide +kernel
theorem dX8_contract_41 : decode cX8_contract 41 = .ok (.iadd, 1) := by decide +kernel
theorem dX8_contract_42 : decode cX8_contract 42 = .ok (.putfield 36, 3) := by decide +kernel
theorem dX8_contract_45 : decode cX8_contract 45 = .ok (.aload_n 0, 1) := by decide +kernel
theorem dX8_contract_46 : decode cX8_contract 46 = .ok (.getfield 12, 3) := by decide +kernel
theorem dX8_contract_49 : decode cX8_contract 49 = .ok (.getfield 32, 3) := by decide +kernel
theorem dX8_contract_52 : decode cX8_contract 52 = .ok (.getfield 36, 3) := by decide +kernel
theorem dX8_contract_55 : decode cX8_contract 55 = .ok (.iconst 1, 1) := by decide +kernel
theorem dX8_contract_56 : decode cX8_contract 56 = .ok (.isub, 1) := by decide +kernel
theorem dX8_contract_57 : decode cX8_contract 57 = .ok (.ireturn, 1) := by decide +kernel
set_option maxHeartbeats 4000000 in
set_option maxRecDepth 100000 in
theorem g_X8_contract (l : Launch) (G : xG) (S : yS) (d : yD) (q0 : Nat) (hSh : ySh S) (hPo : yPo S d) (hm_q0 : q0 ∈ S.1) (hk_q0 : S.2.1 q0 = 8) (hnk : S.2.2.1 q0 0 ≠ S.2.2.1 q0 1) : xWi l G yX8_contract cX8_contract 1 (some .int) 2 43 0 0 [.ref q0] (yW G S d) (fun r (u : yD) => yAg S [6, 8, 24] d u ∧ (yPo S d → yPo S u) ∧ (((40 ≤ d.1 (S.2.2.1 (S.2.2.1 q0 0) 0) 6 ∧ r = -1 ∧ u.1 (S.2.2.1 (S.2.2.1 q0 0) 0) 6 = d.1 (S.2.2.1 (S.2.2.1 q0 0) 0) 6) ∨ (¬ 40 ≤ d.1 (S.2.2.1 (S.2.2.1 q0 0) 0) 6 ∧ r = d.1 (S.2.2.1 (S.2.2.1 q0 0) 0) 6 ∧ u.1 (S.2.2.1 (S.2.2.1 q0 0) 0) 6 = d.1 (S.2.2.1 (S.2.2.1 q0 0) 0) 6 + 1)) ∧ u.1 (S.2.2.1 (S.2.2.1 q0 1) 0) 6 = d.1 (S.2.2.1 (S.2.2.1 q0 1) 0) 6 ∧ u.1 q0 4 = d.1 q0 4)) (fun u => yW G S u) := by
  intro sz
  refine xstart (by decide) (Nat.le_of_ble_eq_true rfl) (fun p e s m args below meth c ls C0 hr hlocks hin hsz hP hK hD hN hl => ?_)
  obtain ⟨hx, hb, hml, hown, htl⟩ := id C0
  subst hsz
  have hD := hD.self (sz := s.heap.size)
  generalize hAe : va_A (yW G S d) s.heap.size = A at hD ⊢
  have hA : ∀ q : Nat, s.heap.size ≤ q → A q := fun q h => by rw [← hAe]; exact Or.inr h
  have hS : va_S A s.heap s.heap [] := va_S.rf
  have hg0 : yAg S [6, 8, 24] d d := yAg.rf
  have hl : lv_has ls 1 [(0, .ref q0)] := hl
  refine lv_aload_n hx hb dX8_contract_0 rfl (lv_at hl 0 rfl) ?_
  refine lv_aload_n hx hb dX8_contract_1 rfl (lv_at hl 0 rfl) ?_
  refine yget (ci := 8) (k := 0) (v := .ref (S.2.2.1 q0 0)) (C := RX8) (T := TX8) (N := 6) C0 hK hP hm_q0 hk_q0 (by decide) rfl inlX8 (by decide) mW16 (fun _ h9 => h9) rfl dX8_contract_2 ?_
  obtain ⟨hmy_1, hky_1⟩ := ySh.f8_0 hSh _ hm_q0 hk_q0
  refine yget (ci := 0) (k := 0) (v := .ref (S.2.2.1 (S.2.2.1 q0 0) 0)) (C := RX0) (T := TX0) (N := 6) C0 hK hP hmy_1 hky_1 (by decide) rfl inlX0 (by decide) mW158 (fun _ h9 => h9) rfl dX8_contract_5 ?_
  obtain ⟨hmy_2, hky_2⟩ := ySh.f0_0 hSh _ hmy_1 hky_1
  refine yget (ci := 6) (k := 6) (v := .int (d.1 (S.2.2.1 (S.2.2.1 q0 0) 0) 6)) (C := RX6) (T := TX6) (N := 7) C0 hK hP hmy_2 hky_2 (by decide) rfl inlX6 (by decide) mW159 (fun _ h9 => h9) rfl dX8_contract_8 ?_
  refine lv_topi (fun z_3 ez_3 => ?_)
  refine lv_bipush (v := 40) hx hb dX8_contract_11 (by decide) ?_
  refine lv_icmp_lt (tgt := 20) hx hb dX8_contract_13 (by decide) (fun c_4 => ?_) (fun c_4 => ?_)
  · refine lv_iconst (v := 0) hx hb dX8_contract_20 (by decide) ?_
    refine yVwi (As := [.int 0]) (rest := []) C0 (g_X8_refused l G S d q0 0 hSh hPo hm_q0 hk_q0) ok_X8_refused (mW160 : Cond.methodLink RX8 42 yX8_refused ∈ wsT) ⟨Nat.le_of_ble_eq_true rfl, Nat.le_of_ble_eq_true rfl⟩ hP hD hS hA hK hN hm_q0 hk_q0 (by decide) rfl rfl rfl hl.1 rfl (Nat.le_of_ble_eq_true rfl) ⟨Nat.le_of_ble_eq_true rfl, Nat.le_of_ble_eq_true rfl⟩ dX8_contract_21 (fun r_5 d_6 H locs hr_5 hP hD hS => ?_)
    obtain ⟨hgad_6, hpad_6, hxd_6⟩ := hr_5
    have hgd_6 : yAg S [6, 8, 24] d d_6 := yAg.tr hg0 hgad_6 (by first | decide | exact fun _ h => h)
    have hPod_6 : yPo S d_6 := hpad_6 hPo
    refine lv_if_eq (tgt := 29) hx hb dX8_contract_24 (by decide) (fun c_7 => ?_) (fun c_7 => absurd (hxd_6.1.trans (by decide +kernel)) c_7)
    refine lv_aload_n hx hb dX8_contract_29 rfl (lv_at hl 0 rfl) ?_
    refine yget (ci := 8) (k := 0) (v := .ref (S.2.2.1 q0 0)) (C := RX8) (T := TX8) (N := 6) C0 hK hP hm_q0 hk_q0 (by decide) rfl inlX8 (by decide) mW16 (fun _ h9 => h9) rfl dX8_contract_30 ?_
    refine yget (ci := 0) (k := 0) (v := .ref (S.2.2.1 (S.2.2.1 q0 0) 0)) (C := RX0) (T := TX0) (N := 6) C0 hK hP hmy_1 hky_1 (by decide) rfl inlX0 (by decide) mW158 (fun _ h9 => h9) rfl dX8_contract_33 ?_
    refine lv_dup hx hb dX8_contract_36 rfl ?_
    refine yget (ci := 6) (k := 6) (v := .int (d_6.1 (S.2.2.1 (S.2.2.1 q0 0) 0) 6)) (C := RX6) (T := TX6) (N := 7) C0 hK hP hmy_2 hky_2 (by decide) rfl inlX6 (by decide) mW159 (fun _ h9 => h9) rfl dX8_contract_37 ?_
    refine lv_topi (fun z_8 ez_8 => ?_)
    refine lv_iconst (v := 1) hx hb dX8_contract_40 (by decide) ?_
    refine lv_iadd hx hb dX8_contract_41 ?_
    refine lv_topi (fun z_9 ez_9 => ?_)
    refine yputI (ci := 6) (k := 6) (ty := .int) (C := RX6) (T := TX6) (N := 7) C0 hK hP hD hS hmy_2 hky_2 (by decide) rfl inlX6 tyX6 tyX6_ok nmX6 (by decide) mW159 (fun _ h9 => h9) rfl (by decide +kernel) rfl rfl (Nat.le_of_ble_eq_true rfl) ysi_6_6 dX8_contract_42 (fun H locs hP hD hS => ?_)
    obtain ⟨d_10, ed_10⟩ : ∃ z : yD, z = yi d_6 (S.2.2.1 (S.2.2.1 q0 0) 0) 6 z_9 := ⟨_, rfl⟩
    rw [← ed_10] at hP hD
    have hgd_10 : yAg S [6, 8, 24] d d_10 := by rw [ed_10]; exact yAg.i hgd_6 (by rw [hky_2]; decide)
    have hsd_10 : yAg S [6] d_6 d_10 := by rw [ed_10]; exact yAg.i yAg.rf (by rw [hky_2]; decide)
    have hPod_10 : yPo S d_10 := by rw [ed_10]; exact yPo.i hPod_6 hky_2 (Or.inl rfl)
    refine lv_aload_n hx hb dX8_contract_45 rfl (lv_at hl 0 rfl) ?_
    refine yget (ci := 8) (k := 0) (v := .ref (S.2.2.1 q0 0)) (C := RX8) (T := TX8) (N := 6) C0 hK hP hm_q0 hk_q0 (by decide) rfl inlX8 (by decide) mW16 (fun _ h9 => h9) rfl dX8_contract_46 ?_
    refine yget (ci := 0) (k := 0) (v := .ref (S.2.2.1 (S.2.2.1 q0 0) 0)) (C := RX0) (T := TX0) (N := 6) C0 hK hP hmy_1 hky_1 (by decide) rfl inlX0 (by decide) mW158 (fun _ h9 => h9) rfl dX8_contract_49 ?_
    refine yget (ci := 6) (k := 6) (v := .int (d_10.1 (S.2.2.1 (S.2.2.1 q0 0) 0) 6)) (C := RX6) (T := TX6) (N := 7) C0 hK hP hmy_2 hky_2 (by decide) rfl inlX6 (by decide) mW159 (fun _ h9 => h9) rfl dX8_contract_52 ?_
    refine lv_topi (fun z_11 ez_11 => ?_)
    refine lv_iconst (v := 1) hx hb dX8_contract_55 (by decide) ?_
    refine lv_isub hx hb dX8_contract_56 ?_
    refine lv_topi (fun z_12 ez_12 => ?_)
    obtain ⟨hmy_13, hky_13⟩ := ySh.f8_1 hSh _ hm_q0 hk_q0
    obtain ⟨hmy_14, hky_14⟩ := ySh.f0_0 hSh _ hmy_13 hky_13
    exact W.iret (v := z_12) hx hb hr (fun t ht hW => ⟨⟨z_12, d_10, rfl, ⟨hgd_10, (fun _ => hPod_10), ⟨Or.inr ⟨by rw [← ez_3]; exact Int32.not_le.mpr c_4, by rw [ez_12, ez_11, ed_10, yi_self, ez_9, ez_8, (congrFun (hgad_6 _ (by rw [hky_2]; decide)).1 6)]; exact xaddsub _, by rw [ed_10, yi_self, ez_9, ez_8, (congrFun (hgad_6 _ (by rw [hky_2]; decide)).1 6)]⟩, (by rw [ed_10]; exact (congrFun (show (yi d_6 (S.2.2.1 (S.2.2.1 q0 0) 0) 6 z_9).1 (S.2.2.1 (S.2.2.1 q0 1) 0) = _ from va_up_ne _ _ (Ne.symm (fun q => hnk (ySh.j0_0 hSh _ _ hmy_1 hmy_13 hky_1 hky_13 q)))) 6).trans (congrFun (hgad_6 _ (by rw [hky_14]; decide)).1 6)), ((congrFun (hsd_10 q0 (by rw [hk_q0]; decide)).1 4).trans (hxd_6.2))⟩⟩, by rw [ht]; exact hP, hD⟩, hS.F ht⟩) hS.2.2 dX8_contract_57
  · refine lv_iconst (v := 5) hx hb dX8_contract_16 (by decide) ?_
    refine lv_goto (tgt := 21) hx hb dX8_contract_17 (by decide) ?_
    refine yVwi (As := [.int 5]) (rest := []) C0 (g_X8_refused l G S d q0 5 hSh hPo hm_q0 hk_q0) ok_X8_refused (mW160 : Cond.methodLink RX8 42 yX8_refused ∈ wsT) ⟨Nat.le_of_ble_eq_true rfl, Nat.le_of_ble_eq_true rfl⟩ hP hD hS hA hK hN hm_q0 hk_q0 (by decide) rfl rfl rfl hl.1 rfl (Nat.le_of_ble_eq_true rfl) ⟨Nat.le_of_ble_eq_true rfl, Nat.le_of_ble_eq_true rfl⟩ dX8_contract_21 (fun r_15 d_16 H locs hr_15 hP hD hS => ?_)
    obtain ⟨hgad_16, hpad_16, hxd_16⟩ := hr_15
    have hgd_16 : yAg S [6, 8, 24] d d_16 := yAg.tr hg0 hgad_16 (by first | decide | exact fun _ h => h)
    have hPod_16 : yPo S d_16 := hpad_16 hPo
    refine lv_if_eq (tgt := 29) hx hb dX8_contract_24 (by decide) (fun c_17 => absurd (hxd_16.1.symm.trans c_17) (by decide +kernel)) (fun c_17 => ?_)
    refine lv_iconst (v := (-1)) hx hb dX8_contract_27 (by decide) ?_
    obtain ⟨hmy_18, hky_18⟩ := ySh.f8_1 hSh _ hm_q0 hk_q0
    obtain ⟨hmy_19, hky_19⟩ := ySh.f0_0 hSh _ hmy_18 hky_18
    exact W.iret (v := (-1)) hx hb hr (fun t ht hW => ⟨⟨(-1), d_16, rfl, ⟨hgd_16, (fun _ => hPod_16), ⟨Or.inl ⟨by rw [← ez_3]; exact Int32.not_lt.mp c_4, rfl, (congrFun (hgad_16 _ (by rw [hky_2]; decide)).1 6)⟩, (congrFun (hgad_16 _ (by rw [hky_19]; decide)).1 6), (hxd_16.2)⟩⟩, by rw [ht]; exact hP, hD⟩, hS.F ht⟩) hS.2.2 dX8_contract_28
theorem dX8_image_0 : decode cX8_image 0 = .ok (.aload_n 0, 1) := by decide +kernel
theorem dX8_image_1 : decode cX8_image 1 = .ok (.iconst 0, 1) := by decide +kernel
theorem dX8_image_2 : decode cX8_image 2 = .ok (.invokevirtual 42, 3) := by decide +kernel
theorem dX8_image_5 : decode cX8_image 5 = .ok (.pop, 1) := by decide +kernel
theorem dX8_image_6 : decode cX8_image 6 = .ok (.aload_n 0, 1) := by decide +kernel
theorem dX8_image_7 : decode cX8_image 7 = .ok (.getfield 16, 3) := by decide +kernel
theorem dX8_image_10 : decode cX8_image 10 = .ok (.aload_n 0, 1) := by decide +kernel
theorem dX8_image_11 : decode cX8_image 11 = .ok (.getfield 12, 3) := by decide +kernel
theorem dX8_image_14 : decode cX8_image 14 = .ok (.invokevirtual 345, 3) := by decide +kernel
theorem dX8_image_17 : decode cX8_image 17 = .ok (.aload_n 0, 1) := by decide +kernel
theorem dX8_image_18 : decode cX8_image 18 = .ok (.iconst 1, 1) := by decide +kernel
theorem dX8_image_19 : decode cX8_image 19 = .ok (.putfield 348, 3) := by decide +kernel
theorem dX8_image_22 : decode cX8_image 22 = .ok (.iconst 1, 1) := by decide +kernel
theorem dX8_image_23 : decode cX8_image 23 = .ok (.ireturn, 1) := by decide +kernel
set_option maxHeartbeats 4000000 in
set_option maxRecDepth 100000 in
theorem g_X8_image (l : Launch) (G : xG) (S : yS) (d : yD) (q0 : Nat) (hSh : ySh S) (hPo : yPo S d) (hm_q0 : q0 ∈ S.1) (hk_q0 : S.2.1 q0 = 8) (hnk : S.2.2.1 q0 0 ≠ S.2.2.1 q0 1) : xWi l G yX8_image cX8_image 1 (some .boolean) 5 106 0 0 [.ref q0] (yW G S d) (fun r (u : yD) => yAg S [0, 1, 2, 4, 6, 8, 10, 11, 12, 13, 14, 15, 16, 18, 19, 20, 21, 24] d u ∧ (yPo S d → yPo S u) ∧ ((u.1 q0 4 = 1 ∧ u.1 (S.2.2.1 (S.2.2.1 q0 1) 0) 6 = d.1 (S.2.2.1 (S.2.2.1 q0 0) 0) 6 ∧ u.1 (S.2.2.1 (S.2.2.1 q0 0) 0) 6 = d.1 (S.2.2.1 (S.2.2.1 q0 0) 0) 6 ∧ r = 1) ∧ zTake S d u (S.2.2.1 q0 1) (S.2.2.1 q0 0) ∧ zTk S d u (S.2.2.1 (S.2.2.1 q0 1) 0) (S.2.2.1 (S.2.2.1 q0 0) 0))) (fun u => yW G S u) := by
  intro sz
  refine xstart (by decide) (Nat.le_of_ble_eq_true rfl) (fun p e s m args below meth c ls C0 hr hlocks hin hsz hP hK hD hN hl => ?_)
  obtain ⟨hx, hb, hml, hown, htl⟩ := id C0
  subst hsz
  have hD := hD.self (sz := s.heap.size)
  generalize hAe : va_A (yW G S d) s.heap.size = A at hD ⊢
  have hA : ∀ q : Nat, s.heap.size ≤ q → A q := fun q h => by rw [← hAe]; exact Or.inr h
  have hS : va_S A s.heap s.heap [] := va_S.rf
  have hg0 : yAg S [0, 1, 2, 4, 6, 8, 10, 11, 12, 13, 14, 15, 16, 18, 19, 20, 21, 24] d d := yAg.rf
  have hl : lv_has ls 1 [(0, .ref q0)] := hl
  refine lv_aload_n hx hb dX8_image_0 rfl (lv_at hl 0 rfl) ?_
  refine lv_iconst (v := 0) hx hb dX8_image_1 (by decide) ?_
  refine yVwi (As := [.int 0]) (rest := []) C0 (g_X8_refused l G S d q0 0 hSh hPo hm_q0 hk_q0) ok_X8_refused (mW160 : Cond.methodLink RX8 42 yX8_refused ∈ wsT) ⟨Nat.le_of_ble_eq_true rfl, Nat.le_of_ble_eq_true rfl⟩ hP hD hS hA hK hN hm_q0 hk_q0 (by decide) rfl rfl rfl hl.1 rfl (Nat.le_of_ble_eq_true rfl) ⟨Nat.le_of_ble_eq_true rfl, Nat.le_of_ble_eq_true rfl⟩ dX8_image_2 (fun r_1 d_2 H locs hr_1 hP hD hS => ?_)
  obtain ⟨hgad_2, hpad_2, hxd_2⟩ := hr_1
  have hgd_2 : yAg S [0, 1, 2, 4, 6, 8, 10, 11, 12, 13, 14, 15, 16, 18, 19, 20, 21, 24] d d_2 := yAg.tr hg0 hgad_2 (by first | decide | exact fun _ h => h)
  have hPod_2 : yPo S d_2 := hpad_2 hPo
  refine lv_pop hx hb dX8_image_5 rfl ?_
  refine lv_aload_n hx hb dX8_image_6 rfl (lv_at hl 0 rfl) ?_
  refine yget (ci := 8) (k := 1) (v := .ref (S.2.2.1 q0 1)) (C := RX8) (T := TX8) (N := 6) C0 hK hP hm_q0 hk_q0 (by decide) rfl inlX8 (by decide) mW17 (fun _ h9 => h9) rfl dX8_image_7 ?_
  obtain ⟨hmy_3, hky_3⟩ := ySh.f8_1 hSh _ hm_q0 hk_q0
  refine lv_aload_n hx hb dX8_image_10 rfl (lv_at hl 0 rfl) ?_
  refine yget (ci := 8) (k := 0) (v := .ref (S.2.2.1 q0 0)) (C := RX8) (T := TX8) (N := 6) C0 hK hP hm_q0 hk_q0 (by decide) rfl inlX8 (by decide) mW16 (fun _ h9 => h9) rfl dX8_image_11 ?_
  obtain ⟨hmy_4, hky_4⟩ := ySh.f8_0 hSh _ hm_q0 hk_q0
  refine yVwv (As := [.ref (S.2.2.1 q0 0)]) (rest := []) C0 (g_X0_take l G S d_2 (S.2.2.1 q0 1) (S.2.2.1 q0 0) hSh hPod_2 hmy_3 hky_3 hmy_4 hky_4 hnk) ok_X0_take (mW1073 : Cond.methodLink RX8 345 yX0_take ∈ wsT) ⟨Nat.le_of_ble_eq_true rfl, Nat.le_of_ble_eq_true rfl⟩ hP hD hS hA hK hN hmy_3 hky_3 (by decide) rfl rfl rfl hl.1 rfl (Nat.le_of_ble_eq_true rfl) ⟨Nat.le_of_ble_eq_true rfl, Nat.le_of_ble_eq_true rfl⟩ dX8_image_14 (fun d_6 H locs hr_5 hP hD hS => ?_)
  obtain ⟨hgad_6, hpad_6, hxd_6⟩ := hr_5
  have hgd_6 : yAg S [0, 1, 2, 4, 6, 8, 10, 11, 12, 13, 14, 15, 16, 18, 19, 20, 21, 24] d d_6 := yAg.tr hgd_2 hgad_6 (by first | decide | exact fun _ h => h)
  have hPod_6 : yPo S d_6 := hpad_6 hPod_2
  refine lv_aload_n hx hb dX8_image_17 rfl (lv_at hl 0 rfl) ?_
  refine lv_iconst (v := 1) hx hb dX8_image_18 (by decide) ?_
  refine yputI (ci := 8) (k := 4) (ty := .boolean) (C := RX8) (T := TX8) (N := 6) C0 hK hP hD hS hm_q0 hk_q0 (by decide) rfl inlX8 tyX8 tyX8_ok nmX8 (by decide) mW1072 (fun _ h9 => h9) rfl (by decide +kernel) rfl rfl (Nat.le_of_ble_eq_true rfl) ysi_8_4 dX8_image_19 (fun H locs hP hD hS => ?_)
  obtain ⟨d_7, ed_7⟩ : ∃ z : yD, z = yi d_6 q0 4 1 := ⟨_, rfl⟩
  rw [← ed_7] at hP hD
  have hgd_7 : yAg S [0, 1, 2, 4, 6, 8, 10, 11, 12, 13, 14, 15, 16, 18, 19, 20, 21, 24] d d_7 := by rw [ed_7]; exact yAg.i hgd_6 (by rw [hk_q0]; decide)
  have hsd_7 : yAg S [8] d_6 d_7 := by rw [ed_7]; exact yAg.i yAg.rf (by rw [hk_q0]; decide)
  have hPod_7 : yPo S d_7 := by rw [ed_7]; exact yPo.i hPod_6 hk_q0 (Or.inr (Or.inr rfl))
  refine lv_iconst (v := 1) hx hb dX8_image_22 (by decide) ?_
  obtain ⟨hmy_8, hky_8⟩ := ySh.f0_0 hSh _ hmy_4 hky_4
  obtain ⟨hmy_9, hky_9⟩ := ySh.f0_0 hSh _ hmy_3 hky_3
  exact W.zret (v := 1) (ty := .boolean) hx hb hr rfl (fun t ht hW => ⟨⟨1, d_7, rfl, ⟨hgd_7, (fun _ => hPod_7), ⟨⟨by rw [ed_7]; exact yi_self, ((congrFun (hsd_7 _ (by rw [hky_9]; decide)).1 6)).trans (hxd_6.1.1.trans (congrFun (hgad_2 _ (by rw [hky_8]; decide)).1 6)), ((congrFun (hsd_7 _ (by rw [hky_8]; decide)).1 6)).trans ((congrFun (hxd_6.1.2 _ hky_8 (fun q => hnk (ySh.j0_0 hSh _ _ hmy_4 hmy_3 hky_4 hky_3 q))) 6).trans (congrFun (hgad_2 _ (by rw [hky_8]; decide)).1 6)), rfl⟩, (zTake.mono hxd_6.2.1 hSh hmy_3 hky_3 hmy_4 hky_4 (fun a ha => (yAg.o hgad_2 (a := a) (by rw [ha]; decide))) (fun a ha => (yAg.o hgad_2 (a := a) (by rw [ha]; decide))) (fun a ha => (yAg.o hsd_7 (a := a) (by rw [ha]; decide))) (fun a ha => (yAg.o hsd_7 (a := a) (by rw [ha]; decide)))), (zTk.mono hxd_6.2.2 hmy_9 hky_9 hmy_8 hky_8 (zRk.ag zRk.rf hSh hgad_2 (by decide)) (zRk.ag zRk.rf hSh hsd_7 (by decide)))⟩⟩, by rw [ht]; exact hP, hD⟩, hS.F ht⟩) hS.2.2 dX8_image_23
theorem dX8_back_0 : decode cX8_back 0 = .ok (.aload_n 0, 1) := by decide +kernel
theorem dX8_back_1 : decode cX8_back 1 = .ok (.aload_n 0, 1) := by decide +kernel
theorem dX8_back_2 : decode cX8_back 2 = .ok (.getfield 348, 3) := by decide +kernel
theorem dX8_back_5 : decode cX8_back 5 = .ok (.ifCond .eq 7, 3) := by decide +kernel
theorem dX8_back_8 : decode cX8_back 8 = .ok (.iconst 0, 1) := by decide +kernel
theorem dX8_back_9 : decode cX8_back 9 = .ok (.goto 4, 3) := by decide +kernel
theorem dX8_back_12 : decode cX8_back 12 = .ok (.iconst 2, 1) := by decide +kernel
theorem dX8_back_13 : decode cX8_back 13 = .ok (.invokevirtual 42, 3) := by decide +kernel
theorem dX8_back_16 : decode cX8_back 16 = .ok (.ifCond .eq 5, 3) := by decide +kernel
theorem dX8_back_19 : decode cX8_back 19 = .ok (.iconst 0, 1) := by decide +kernel
theorem dX8_back_20 : decode cX8_back 20 = .ok (.ireturn, 1) := by decide +kernel
theorem dX8_back_21 : decode cX8_back 21 = .ok (.aload_n 0, 1) := by decide +kernel
theorem dX8_back_22 : decode cX8_back 22 = .ok (.getfield 12, 3) := by decide +kernel
theorem dX8_back_25 : decode cX8_back 25 = .ok (.aload_n 0, 1) := by decide +kernel
theorem dX8_back_26 : decode cX8_back 26 = .ok (.getfield 16, 3) := by decide +kernel
theorem dX8_back_29 : decode cX8_back 29 = .ok (.invokevirtual 345, 3) := by decide +kernel
theorem dX8_back_32 : decode cX8_back 32 = .ok (.iconst 1, 1) := by decide +kernel
theorem dX8_back_33 : decode cX8_back 33 = .ok (.ireturn, 1) := by decide +kernel
set_option maxHeartbeats 4000000 in
set_option maxRecDepth 100000 in
theorem g_X8_back (l : Launch) (G : xG) (S : yS) (d : yD) (q0 : Nat) (hSh : ySh S) (hPo : yPo S d) (hm_q0 : q0 ∈ S.1) (hk_q0 : S.2.1 q0 = 8) (hnk : S.2.2.1 q0 0 ≠ S.2.2.1 q0 1) : xWi l G yX8_back cX8_back 1 (some .boolean) 5 106 0 0 [.ref q0] (yW G S d) (fun r (u : yD) => yAg S [0, 1, 2, 4, 6, 8, 10, 11, 12, 13, 14, 15, 16, 18, 19, 20, 21, 24] d u ∧ (yPo S d → yPo S u) ∧ ((((d.1 q0 4 = 0 ∧ r = 0 ∧ u.1 (S.2.2.1 (S.2.2.1 q0 0) 0) 6 = d.1 (S.2.2.1 (S.2.2.1 q0 0) 0) 6) ∨ (¬ d.1 q0 4 = 0 ∧ r = 1 ∧ u.1 (S.2.2.1 (S.2.2.1 q0 0) 0) 6 = d.1 (S.2.2.1 (S.2.2.1 q0 1) 0) 6)) ∧ u.1 (S.2.2.1 (S.2.2.1 q0 1) 0) 6 = d.1 (S.2.2.1 (S.2.2.1 q0 1) 0) 6 ∧ u.1 q0 4 = d.1 q0 4) ∧ ((d.1 q0 4 = 0 ∧ zKp S 1 d u ∧ zKp S 4 d u ∧ zRk S d u) ∨ (¬ d.1 q0 4 = 0 ∧ zTake S d u (S.2.2.1 q0 0) (S.2.2.1 q0 1) ∧ zTk S d u (S.2.2.1 (S.2.2.1 q0 0) 0) (S.2.2.1 (S.2.2.1 q0 1) 0))))) (fun u => yW G S u) := by
  intro sz
  refine xstart (by decide) (Nat.le_of_ble_eq_true rfl) (fun p e s m args below meth c ls C0 hr hlocks hin hsz hP hK hD hN hl => ?_)
  obtain ⟨hx, hb, hml, hown, htl⟩ := id C0
  subst hsz
  have hD := hD.self (sz := s.heap.size)
  generalize hAe : va_A (yW G S d) s.heap.size = A at hD ⊢
  have hA : ∀ q : Nat, s.heap.size ≤ q → A q := fun q h => by rw [← hAe]; exact Or.inr h
  have hS : va_S A s.heap s.heap [] := va_S.rf
  have hg0 : yAg S [0, 1, 2, 4, 6, 8, 10, 11, 12, 13, 14, 15, 16, 18, 19, 20, 21, 24] d d := yAg.rf
  have hl : lv_has ls 1 [(0, .ref q0)] := hl
  refine lv_aload_n hx hb dX8_back_0 rfl (lv_at hl 0 rfl) ?_
  refine lv_aload_n hx hb dX8_back_1 rfl (lv_at hl 0 rfl) ?_
  refine yget (ci := 8) (k := 4) (v := .int (d.1 q0 4)) (C := RX8) (T := TX8) (N := 6) C0 hK hP hm_q0 hk_q0 (by decide) rfl inlX8 (by decide) mW1072 (fun _ h9 => h9) rfl dX8_back_2 ?_
  refine lv_topi (fun z_1 ez_1 => ?_)
  have hzz_1 : z_1 = 0 ∨ z_1 = 1 := by rw [ez_1]; exact yPo.b hPo hm_q0 hk_q0 rfl
  refine lv_if_eq (tgt := 12) hx hb dX8_back_5 (by decide) (fun c_2 => ?_) (fun c_2 => ?_)
  · refine lv_iconst (v := 2) hx hb dX8_back_12 (by decide) ?_
    refine yVwi (As := [.int 2]) (rest := []) C0 (g_X8_refused l G S d q0 2 hSh hPo hm_q0 hk_q0) ok_X8_refused (mW160 : Cond.methodLink RX8 42 yX8_refused ∈ wsT) ⟨Nat.le_of_ble_eq_true rfl, Nat.le_of_ble_eq_true rfl⟩ hP hD hS hA hK hN hm_q0 hk_q0 (by decide) rfl rfl rfl hl.1 rfl (Nat.le_of_ble_eq_true rfl) ⟨Nat.le_of_ble_eq_true rfl, Nat.le_of_ble_eq_true rfl⟩ dX8_back_13 (fun r_3 d_4 H locs hr_3 hP hD hS => ?_)
    obtain ⟨hgad_4, hpad_4, hxd_4⟩ := hr_3
    have hgd_4 : yAg S [0, 1, 2, 4, 6, 8, 10, 11, 12, 13, 14, 15, 16, 18, 19, 20, 21, 24] d d_4 := yAg.tr hg0 hgad_4 (by first | decide | exact fun _ h => h)
    have hPod_4 : yPo S d_4 := hpad_4 hPo
    refine lv_if_eq (tgt := 21) hx hb dX8_back_16 (by decide) (fun c_5 => absurd (hxd_4.1.symm.trans c_5) (by decide +kernel)) (fun c_5 => ?_)
    refine lv_iconst (v := 0) hx hb dX8_back_19 (by decide) ?_
    obtain ⟨hmy_6, hky_6⟩ := ySh.f8_0 hSh _ hm_q0 hk_q0
    obtain ⟨hmy_7, hky_7⟩ := ySh.f8_1 hSh _ hm_q0 hk_q0
    obtain ⟨hmy_8, hky_8⟩ := ySh.f0_0 hSh _ hmy_6 hky_6
    obtain ⟨hmy_9, hky_9⟩ := ySh.f0_0 hSh _ hmy_7 hky_7
    exact W.zret (v := 0) (ty := .boolean) hx hb hr rfl (fun t ht hW => ⟨⟨0, d_4, rfl, ⟨hgd_4, (fun _ => hPod_4), ⟨⟨Or.inl ⟨by rw [← ez_1]; exact c_2, rfl, (congrFun (hgad_4 _ (by rw [hky_8]; decide)).1 6)⟩, (congrFun (hgad_4 _ (by rw [hky_9]; decide)).1 6), (hxd_4.2)⟩, Or.inl ⟨by rw [← ez_1]; exact c_2, (fun a ha => (yAg.o hgad_4 (a := a) (by rw [ha]; decide))), (fun a ha => (yAg.o hgad_4 (a := a) (by rw [ha]; decide))), (zRk.ag zRk.rf hSh hgad_4 (by decide))⟩⟩⟩, by rw [ht]; exact hP, hD⟩, hS.F ht⟩) hS.2.2 dX8_back_20
  · refine lv_iconst (v := 0) hx hb dX8_back_8 (by decide) ?_
    refine lv_goto (tgt := 13) hx hb dX8_back_9 (by decide) ?_
    refine yVwi (As := [.int 0]) (rest := []) C0 (g_X8_refused l G S d q0 0 hSh hPo hm_q0 hk_q0) ok_X8_refused (mW160 : Cond.methodLink RX8 42 yX8_refused ∈ wsT) ⟨Nat.le_of_ble_eq_true rfl, Nat.le_of_ble_eq_true rfl⟩ hP hD hS hA hK hN hm_q0 hk_q0 (by decide) rfl rfl rfl hl.1 rfl (Nat.le_of_ble_eq_true rfl) ⟨Nat.le_of_ble_eq_true rfl, Nat.le_of_ble_eq_true rfl⟩ dX8_back_13 (fun r_10 d_11 H locs hr_10 hP hD hS => ?_)
    obtain ⟨hgad_11, hpad_11, hxd_11⟩ := hr_10
    have hgd_11 : yAg S [0, 1, 2, 4, 6, 8, 10, 11, 12, 13, 14, 15, 16, 18, 19, 20, 21, 24] d d_11 := yAg.tr hg0 hgad_11 (by first | decide | exact fun _ h => h)
    have hPod_11 : yPo S d_11 := hpad_11 hPo
    refine lv_if_eq (tgt := 21) hx hb dX8_back_16 (by decide) (fun c_12 => ?_) (fun c_12 => absurd (hxd_11.1.trans (by decide +kernel)) c_12)
    refine lv_aload_n hx hb dX8_back_21 rfl (lv_at hl 0 rfl) ?_
    refine yget (ci := 8) (k := 0) (v := .ref (S.2.2.1 q0 0)) (C := RX8) (T := TX8) (N := 6) C0 hK hP hm_q0 hk_q0 (by decide) rfl inlX8 (by decide) mW16 (fun _ h9 => h9) rfl dX8_back_22 ?_
    obtain ⟨hmy_13, hky_13⟩ := ySh.f8_0 hSh _ hm_q0 hk_q0
    refine lv_aload_n hx hb dX8_back_25 rfl (lv_at hl 0 rfl) ?_
    refine yget (ci := 8) (k := 1) (v := .ref (S.2.2.1 q0 1)) (C := RX8) (T := TX8) (N := 6) C0 hK hP hm_q0 hk_q0 (by decide) rfl inlX8 (by decide) mW17 (fun _ h9 => h9) rfl dX8_back_26 ?_
    obtain ⟨hmy_14, hky_14⟩ := ySh.f8_1 hSh _ hm_q0 hk_q0
    refine yVwv (As := [.ref (S.2.2.1 q0 1)]) (rest := []) C0 (g_X0_take l G S d_11 (S.2.2.1 q0 0) (S.2.2.1 q0 1) hSh hPod_11 hmy_13 hky_13 hmy_14 hky_14 (fun q => hnk q.symm)) ok_X0_take (mW1073 : Cond.methodLink RX8 345 yX0_take ∈ wsT) ⟨Nat.le_of_ble_eq_true rfl, Nat.le_of_ble_eq_true rfl⟩ hP hD hS hA hK hN hmy_13 hky_13 (by decide) rfl rfl rfl hl.1 rfl (Nat.le_of_ble_eq_true rfl) ⟨Nat.le_of_ble_eq_true rfl, Nat.le_of_ble_eq_true rfl⟩ dX8_back_29 (fun d_16 H locs hr_15 hP hD hS => ?_)
    obtain ⟨hgad_16, hpad_16, hxd_16⟩ := hr_15
    have hgd_16 : yAg S [0, 1, 2, 4, 6, 8, 10, 11, 12, 13, 14, 15, 16, 18, 19, 20, 21, 24] d d_16 := yAg.tr hgd_11 hgad_16 (by first | decide | exact fun _ h => h)
    have hPod_16 : yPo S d_16 := hpad_16 hPod_11
    refine lv_iconst (v := 1) hx hb dX8_back_32 (by decide) ?_
    obtain ⟨hmy_17, hky_17⟩ := ySh.f0_0 hSh _ hmy_13 hky_13
    obtain ⟨hmy_18, hky_18⟩ := ySh.f0_0 hSh _ hmy_14 hky_14
    exact W.zret (v := 1) (ty := .boolean) hx hb hr rfl (fun t ht hW => ⟨⟨1, d_16, rfl, ⟨hgd_16, (fun _ => hPod_16), ⟨⟨Or.inr ⟨by rw [← ez_1]; exact c_2, rfl, hxd_16.1.1.trans (congrFun (hgad_11 _ (by rw [hky_18]; decide)).1 6)⟩, (congrFun (hxd_16.1.2 _ hky_18 (Ne.symm (fun q => hnk (ySh.j0_0 hSh _ _ hmy_13 hmy_14 hky_13 hky_14 q)))) 6).trans (congrFun (hgad_11 _ (by rw [hky_18]; decide)).1 6), ((congrFun (hgad_16 q0 (by rw [hk_q0]; decide)).1 4).trans (hxd_11.2))⟩, Or.inr ⟨by rw [← ez_1]; exact c_2, (zTake.mono hxd_16.2.1 hSh hmy_13 hky_13 hmy_14 hky_14 (fun a ha => (yAg.o hgad_11 (a := a) (by rw [ha]; decide))) (fun a ha => (yAg.o hgad_11 (a := a) (by rw [ha]; decide))) (fun a ha => ⟨rfl, rfl⟩) (fun a ha => ⟨rfl, rfl⟩)), (zTk.mono hxd_16.2.2 hmy_17 hky_17 hmy_18 hky_18 (zRk.ag zRk.rf hSh hgad_11 (by decide)) zRk.rf)⟩⟩⟩, by rw [ht]; exact hP, hD⟩, hS.F ht⟩) hS.2.2 dX8_back_33
theorem dX8_status_0 : decode cX8_status 0 = .ok (.iload_n 1, 1) := by decide +kernel
theorem dX8_status_1 : decode cX8_status 1 = .ok (.iconst 1, 1) := by decide +kernel
theorem dX8_status_2 : decode cX8_status 2 = .ok (.iconst 5, 1) := by decide +kernel
theorem dX8_status_3 : decode cX8_status 3 = .ok (.invokestatic 71, 3) := by decide +kernel
theorem dX8_status_6 : decode cX8_status 6 = .ok (.ifCond .eq 12, 3) := by decide +kernel
theorem dX8_status_9 : decode cX8_status 9 = .ok (.aload_n 0, 1) := by decide +kernel
theorem dX8_status_10 : decode cX8_status 10 = .ok (.getfield 28, 3) := by decide +kernel
theorem dX8_status_13 : decode cX8_status 13 = .ok (.iload_n 1, 1) := by decide +kernel
theorem dX8_status_14 : decode cX8_status 14 = .ok (.invokestatic 78, 3) := by decide +kernel
theorem dX8_status_17 : decode cX8_status 17 = .ok (.ireturn, 1) := by decide +kernel
theorem dX8_status_18 : decode cX8_status 18 = .ok (.iload_n 1, 1) := by decide +kernel
theorem dX8_status_19 : decode cX8_status 19 = .ok (.tableswitch 87 0 8 #[49, 87, 87, 87, 87, 87, 54, 65, 76], 49) := by decide +kernel
theorem dX8_status_68 : decode cX8_status 68 = .ok (.aload_n 0, 1) := by decide +kernel
theorem dX8_status_69 : decode cX8_status 69 = .ok (.getfield 351, 3) := by decide +kernel
theorem dX8_status_72 : decode cX8_status 72 = .ok (.ireturn, 1) := by decide +kernel
theorem dX8_status_73 : decode cX8_status 73 = .ok (.aload_n 0, 1) := by decide +kernel
theorem dX8_status_74 : decode cX8_status 74 = .ok (.getfield 12, 3) := by decide +kernel
theorem dX8_status_77 : decode cX8_status 77 = .ok (.getfield 32, 3) := by decide +kernel
theorem dX8_status_80 : decode cX8_status 80 = .ok (.getfield 36, 3) := by decide +kernel
theorem dX8_status_83 : decode cX8_status 83 = .ok (.ireturn, 1) := by decide +kernel
theorem dX8_status_84 : decode cX8_status 84 = .ok (.aload_n 0, 1) := by decide +kernel
theorem dX8_status_85 : decode cX8_status 85 = .ok (.getfield 12, 3) := by decide +kernel
theorem dX8_status_88 : decode cX8_status 88 = .ok (.getfield 136, 3) := by decide +kernel
theorem dX8_status_91 : decode cX8_status 91 = .ok (.getfield 140, 3) := by decide +kernel
theorem dX8_status_94 : decode cX8_status 94 = .ok (.ireturn, 1) := by decide +kernel
theorem dX8_status_95 : decode cX8_status 95 = .ok (.aload_n 0, 1) := by decide +kernel
theorem dX8_status_96 : decode cX8_status 96 = .ok (.getfield 12, 3) := by decide +kernel
theorem dX8_status_99 : decode cX8_status 99 = .ok (.getfield 325, 3) := by decide +kernel
theorem dX8_status_102 : decode cX8_status 102 = .ok (.getfield 336, 3) := by decide +kernel
theorem dX8_status_105 : decode cX8_status 105 = .ok (.ireturn, 1) := by decide +kernel
theorem dX8_status_106 : decode cX8_status 106 = .ok (.iconst (-1), 1) := by decide +kernel
theorem dX8_status_107 : decode cX8_status 107 = .ok (.ireturn, 1) := by decide +kernel
set_option maxHeartbeats 4000000 in
set_option maxRecDepth 100000 in
theorem g_X8_status (l : Launch) (G : xG) (S : yS) (d : yD) (q0 : Nat) (p0 : Int32) (hSh : ySh S) (hm_q0 : q0 ∈ S.1) (hk_q0 : S.2.1 q0 = 8) : xRi l G yX8_status cX8_status 2 (some .int) 1 22 [.ref q0, .int p0] (yW G S d) (fun r => True) := by
  intro sz
  refine xstart (by decide) (Nat.le_of_ble_eq_true rfl) (fun p e s m args below meth c ls C0 hr hlocks hin hsz hP hK hD hN hl => ?_)
  obtain ⟨hx, hb, hml, hown, htl⟩ := id C0
  have hl : lv_has ls 2 [(0, .ref q0), (1, .int p0)] := hl
  refine lv_iload_n hx hb dX8_status_0 rfl (lv_at hl 1 rfl) ?_
  refine lv_iconst (v := 1) hx hb dX8_status_1 (by decide) ?_
  refine lv_iconst (v := 5) hx hb dX8_status_2 (by decide) ?_
  refine ySri (As := [.int p0, .int 1, .int 5]) (rest := []) C0 (g_X8_within l G S d p0 1 5 ) ok_X8_within (mW193 : Cond.methodLink RX8 71 yX8_within ∈ wsT) ⟨Nat.le_of_ble_eq_true rfl, Nat.le_of_ble_eq_true rfl⟩ hP hD hK hN rfl hl.1 rfl (Nat.le_of_ble_eq_true rfl) ⟨Nat.le_of_ble_eq_true rfl, Nat.le_of_ble_eq_true rfl⟩ dX8_status_3 (fun r_1 hr_1 => ?_)
  refine lv_if_eq (tgt := 18) hx hb dX8_status_6 (by decide) (fun c_2 => ?_) (fun c_2 => ?_)
  · refine lv_iload_n hx hb dX8_status_18 rfl (lv_at hl 1 rfl) ?_
    rcases xtab p0 9 (by decide) with hsw_3 | ⟨k_4, hk_4, hsw_3⟩
    · refine lv_tableOut (tgt := 106) hx hb dX8_status_19 (by omega) (by decide) ?_
      refine lv_iconst (v := (-1)) hx hb dX8_status_106 (by decide) ?_
      exact W.iret (v := (-1)) hx hb hr (fun t ht hW => ⟨(-1), rfl, trivial, ht⟩) (fun q hq => by cases hq) dX8_status_107
    · obtain rfl | rfl | rfl | rfl | rfl | rfl | rfl | rfl | rfl : k_4 = 0 ∨ k_4 = 1 ∨ k_4 = 2 ∨ k_4 = 3 ∨ k_4 = 4 ∨ k_4 = 5 ∨ k_4 = 6 ∨ k_4 = 7 ∨ k_4 = 8 := by omega
      · subst hsw_3
        refine lv_tableIn (tgt := 68) (off := 49) hx hb dX8_status_19 (by decide +kernel) (by decide +kernel) (by decide +kernel) (by decide) ?_
        refine lv_aload_n hx hb dX8_status_68 rfl (lv_at hl 0 rfl) ?_
        refine yget (ci := 8) (k := 5) (v := .int (d.1 q0 5)) (C := RX8) (T := TX8) (N := 6) C0 hK hP hm_q0 hk_q0 (by decide) rfl inlX8 (by decide) mW164 (fun _ h9 => h9) rfl dX8_status_69 ?_
        refine lv_topi (fun z_5 ez_5 => ?_)
        exact W.iret (v := z_5) hx hb hr (fun t ht hW => ⟨z_5, rfl, trivial, ht⟩) (fun q hq => by cases hq) dX8_status_72
      · subst hsw_3
        refine lv_tableIn (tgt := 106) (off := 87) hx hb dX8_status_19 (by decide +kernel) (by decide +kernel) (by decide +kernel) (by decide) ?_
        refine lv_iconst (v := (-1)) hx hb dX8_status_106 (by decide) ?_
        exact W.iret (v := (-1)) hx hb hr (fun t ht hW => ⟨(-1), rfl, trivial, ht⟩) (fun q hq => by cases hq) dX8_status_107
      · subst hsw_3
        refine lv_tableIn (tgt := 106) (off := 87) hx hb dX8_status_19 (by decide +kernel) (by decide +kernel) (by decide +kernel) (by decide) ?_
        refine lv_iconst (v := (-1)) hx hb dX8_status_106 (by decide) ?_
        exact W.iret (v := (-1)) hx hb hr (fun t ht hW => ⟨(-1), rfl, trivial, ht⟩) (fun q hq => by cases hq) dX8_status_107
      · subst hsw_3
        refine lv_tableIn (tgt := 106) (off := 87) hx hb dX8_status_19 (by decide +kernel) (by decide +kernel) (by decide +kernel) (by decide) ?_
        refine lv_iconst (v := (-1)) hx hb dX8_status_106 (by decide) ?_
        exact W.iret (v := (-1)) hx hb hr (fun t ht hW => ⟨(-1), rfl, trivial, ht⟩) (fun q hq => by cases hq) dX8_status_107
      · subst hsw_3
        refine lv_tableIn (tgt := 106) (off := 87) hx hb dX8_status_19 (by decide +kernel) (by decide +kernel) (by decide +kernel) (by decide) ?_
        refine lv_iconst (v := (-1)) hx hb dX8_status_106 (by decide) ?_
        exact W.iret (v := (-1)) hx hb hr (fun t ht hW => ⟨(-1), rfl, trivial, ht⟩) (fun q hq => by cases hq) dX8_status_107
      · subst hsw_3
        refine lv_tableIn (tgt := 106) (off := 87) hx hb dX8_status_19 (by decide +kernel) (by decide +kernel) (by decide +kernel) (by decide) ?_
        refine lv_iconst (v := (-1)) hx hb dX8_status_106 (by decide) ?_
        exact W.iret (v := (-1)) hx hb hr (fun t ht hW => ⟨(-1), rfl, trivial, ht⟩) (fun q hq => by cases hq) dX8_status_107
      · subst hsw_3
        refine lv_tableIn (tgt := 73) (off := 54) hx hb dX8_status_19 (by decide +kernel) (by decide +kernel) (by decide +kernel) (by decide) ?_
        refine lv_aload_n hx hb dX8_status_73 rfl (lv_at hl 0 rfl) ?_
        refine yget (ci := 8) (k := 0) (v := .ref (S.2.2.1 q0 0)) (C := RX8) (T := TX8) (N := 6) C0 hK hP hm_q0 hk_q0 (by decide) rfl inlX8 (by decide) mW16 (fun _ h9 => h9) rfl dX8_status_74 ?_
        obtain ⟨hmy_6, hky_6⟩ := ySh.f8_0 hSh _ hm_q0 hk_q0
        refine yget (ci := 0) (k := 0) (v := .ref (S.2.2.1 (S.2.2.1 q0 0) 0)) (C := RX0) (T := TX0) (N := 6) C0 hK hP hmy_6 hky_6 (by decide) rfl inlX0 (by decide) mW158 (fun _ h9 => h9) rfl dX8_status_77 ?_
        obtain ⟨hmy_7, hky_7⟩ := ySh.f0_0 hSh _ hmy_6 hky_6
        refine yget (ci := 6) (k := 6) (v := .int (d.1 (S.2.2.1 (S.2.2.1 q0 0) 0) 6)) (C := RX6) (T := TX6) (N := 7) C0 hK hP hmy_7 hky_7 (by decide) rfl inlX6 (by decide) mW159 (fun _ h9 => h9) rfl dX8_status_80 ?_
        refine lv_topi (fun z_8 ez_8 => ?_)
        exact W.iret (v := z_8) hx hb hr (fun t ht hW => ⟨z_8, rfl, trivial, ht⟩) (fun q hq => by cases hq) dX8_status_83
      · subst hsw_3
        refine lv_tableIn (tgt := 84) (off := 65) hx hb dX8_status_19 (by decide +kernel) (by decide +kernel) (by decide +kernel) (by decide) ?_
        refine lv_aload_n hx hb dX8_status_84 rfl (lv_at hl 0 rfl) ?_
        refine yget (ci := 8) (k := 0) (v := .ref (S.2.2.1 q0 0)) (C := RX8) (T := TX8) (N := 6) C0 hK hP hm_q0 hk_q0 (by decide) rfl inlX8 (by decide) mW16 (fun _ h9 => h9) rfl dX8_status_85 ?_
        obtain ⟨hmy_9, hky_9⟩ := ySh.f8_0 hSh _ hm_q0 hk_q0
        refine yget (ci := 0) (k := 1) (v := .ref (S.2.2.1 (S.2.2.1 q0 0) 1)) (C := RX0) (T := TX0) (N := 6) C0 hK hP hmy_9 hky_9 (by decide) rfl inlX0 (by decide) mW316 (fun _ h9 => h9) rfl dX8_status_88 ?_
        obtain ⟨hmy_10, hky_10⟩ := ySh.f0_1 hSh _ hmy_9 hky_9
        refine yget (ci := 2) (k := 2) (v := .int (d.1 (S.2.2.1 (S.2.2.1 q0 0) 1) 2)) (C := RX2) (T := TX2) (N := 3) C0 hK hP hmy_10 hky_10 (by decide) rfl inlX2 (by decide) mW399 (fun _ h9 => h9) rfl dX8_status_91 ?_
        refine lv_topi (fun z_11 ez_11 => ?_)
        exact W.iret (v := z_11) hx hb hr (fun t ht hW => ⟨z_11, rfl, trivial, ht⟩) (fun q hq => by cases hq) dX8_status_94
      · subst hsw_3
        refine lv_tableIn (tgt := 95) (off := 76) hx hb dX8_status_19 (by decide +kernel) (by decide +kernel) (by decide +kernel) (by decide) ?_
        refine lv_aload_n hx hb dX8_status_95 rfl (lv_at hl 0 rfl) ?_
        refine yget (ci := 8) (k := 0) (v := .ref (S.2.2.1 q0 0)) (C := RX8) (T := TX8) (N := 6) C0 hK hP hm_q0 hk_q0 (by decide) rfl inlX8 (by decide) mW16 (fun _ h9 => h9) rfl dX8_status_96 ?_
        obtain ⟨hmy_12, hky_12⟩ := ySh.f8_0 hSh _ hm_q0 hk_q0
        refine yget (ci := 0) (k := 2) (v := .ref (S.2.2.1 (S.2.2.1 q0 0) 2)) (C := RX0) (T := TX0) (N := 6) C0 hK hP hmy_12 hky_12 (by decide) rfl inlX0 (by decide) mW1028 (fun _ h9 => h9) rfl dX8_status_99 ?_
        obtain ⟨hmy_13, hky_13⟩ := ySh.f0_2 hSh _ hmy_12 hky_12
        refine yget (ci := 1) (k := 2) (v := .int (d.1 (S.2.2.1 (S.2.2.1 q0 0) 2) 2)) (C := RX1) (T := TX1) (N := 4) C0 hK hP hmy_13 hky_13 (by decide) rfl inlX1 (by decide) mW1043 (fun _ h9 => h9) rfl dX8_status_102 ?_
        refine lv_topi (fun z_14 ez_14 => ?_)
        exact W.iret (v := z_14) hx hb hr (fun t ht hW => ⟨z_14, rfl, trivial, ht⟩) (fun q hq => by cases hq) dX8_status_105
  · refine lv_aload_n hx hb dX8_status_9 rfl (lv_at hl 0 rfl) ?_
    refine yget (ci := 8) (k := 3) (v := .ref (S.2.2.1 q0 3)) (C := RX8) (T := TX8) (N := 6) C0 hK hP hm_q0 hk_q0 (by decide) rfl inlX8 (by decide) mW23 (fun _ h9 => h9) rfl dX8_status_10 ?_
    obtain ⟨hmy_15, hky_15⟩ := ySh.f8_3 hSh _ hm_q0 hk_q0
    refine lv_iload_n hx hb dX8_status_13 rfl (lv_at hl 1 rfl) ?_
    refine ySri (As := [.ref (S.2.2.1 q0 3), .int p0]) (rest := []) C0 (g_X8_at l G S d (S.2.2.1 q0 3) 24 p0 hmy_15 hky_15 (by decide) rfl rfl (by decide)) ok_X8_at (mW165 : Cond.methodLink RX8 78 yX8_at ∈ wsT) ⟨Nat.le_of_ble_eq_true rfl, Nat.le_of_ble_eq_true rfl⟩ hP hD hK hN rfl hl.1 rfl (Nat.le_of_ble_eq_true rfl) ⟨Nat.le_of_ble_eq_true rfl, Nat.le_of_ble_eq_true rfl⟩ dX8_status_14 (fun r_16 hr_16 => ?_)
    exact W.iret (v := r_16) hx hb hr (fun t ht hW => ⟨r_16, rfl, trivial, ht⟩) (fun q hq => by cases hq) dX8_status_17
