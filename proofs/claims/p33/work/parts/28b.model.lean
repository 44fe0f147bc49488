theorem dX9_close_0 : decode cX9_close 0 = .ok (.aload_n 0, 1) := by decide +kernel
theorem dX9_close_1 : decode cX9_close 1 = .ok (.iconst 0, 1) := by decide +kernel
theorem dX9_close_2 : decode cX9_close 2 = .ok (.putfield 147, 3) := by decide +kernel
theorem dX9_close_5 : decode cX9_close 5 = .ok (.aload_n 0, 1) := by decide +kernel
theorem dX9_close_6 : decode cX9_close 6 = .ok (.iload_n 1, 1) := by decide +kernel
theorem dX9_close_7 : decode cX9_close 7 = .ok (.invokevirtual 165, 3) := by decide +kernel
theorem dX9_close_10 : decode cX9_close 10 = .ok (.istore_n 2, 1) := by decide +kernel
theorem dX9_close_11 : decode cX9_close 11 = .ok (.iload_n 2, 1) := by decide +kernel
theorem dX9_close_12 : decode cX9_close 12 = .ok (.ifCond .eq 11, 3) := by decide +kernel
theorem dX9_close_15 : decode cX9_close 15 = .ok (.aload_n 0, 1) := by decide +kernel
theorem dX9_close_16 : decode cX9_close 16 = .ok (.iload_n 2, 1) := by decide +kernel
theorem dX9_close_17 : decode cX9_close 17 = .ok (.invokevirtual 168, 3) := by decide +kernel
theorem dX9_close_20 : decode cX9_close 20 = .ok (.pop, 1) := by decide +kernel
theorem dX9_close_21 : decode cX9_close 21 = .ok (.iconst 0, 1) := by decide +kernel
theorem dX9_close_22 : decode cX9_close 22 = .ok (.ireturn, 1) := by decide +kernel
theorem dX9_close_23 : decode cX9_close 23 = .ok (.aload_n 0, 1) := by decide +kernel
theorem dX9_close_24 : decode cX9_close 24 = .ok (.iload_n 1, 1) := by decide +kernel
theorem dX9_close_25 : decode cX9_close 25 = .ok (.iconst 0, 1) := by decide +kernel
theorem dX9_close_26 : decode cX9_close 26 = .ok (.ldc 174, 2) := by decide +kernel
theorem dX9_close_28 : decode cX9_close 28 = .ok (.invokevirtual 183, 3) := by decide +kernel
theorem dX9_close_31 : decode cX9_close 31 = .ok (.pop, 1) := by decide +kernel
theorem dX9_close_32 : decode cX9_close 32 = .ok (.aload_n 0, 1) := by decide +kernel
theorem dX9_close_33 : decode cX9_close 33 = .ok (.getfield 36, 3) := by decide +kernel
theorem dX9_close_36 : decode cX9_close 36 = .ok (.bipush 12, 2) := by decide +kernel
theorem dX9_close_38 : decode cX9_close 38 = .ok (.iload_n 1, 1) := by decide +kernel
theorem dX9_close_39 : decode cX9_close 39 = .ok (.imul, 1) := by decide +kernel
theorem dX9_close_40 : decode cX9_close 40 = .ok (.lconst 0, 1) := by decide +kernel
theorem dX9_close_41 : decode cX9_close 41 = .ok (.lastore, 1) := by decide +kernel
theorem dX9_close_42 : decode cX9_close 42 = .ok (.aload_n 0, 1) := by decide +kernel
theorem dX9_close_43 : decode cX9_close 43 = .ok (.iload_n 1, 1) := by decide +kernel
theorem dX9_close_44 : decode cX9_close 44 = .ok (.invokevirtual 189, 3) := by decide +kernel
theorem dX9_close_47 : decode cX9_close 47 = .ok (.iconst 1, 1) := by decide +kernel
theorem dX9_close_48 : decode cX9_close 48 = .ok (.ireturn, 1) := by decide +kernel
set_option maxHeartbeats 4000000 in
set_option maxRecDepth 100000 in
theorem g_X9_close (l : Launch) (G : xG) (S : yS) (d : yD) (h0 : Nat) (p0 : Int32) (hSh : ySh S) (hPo : yPo S d) (hm_h0 : h0 ∈ S.1) (hk_h0 : S.2.1 h0 = 9) (hI : yMI S d h0) : xWi l G yX9_close cX9_close 3 (some .boolean) 2 42 0 0 [.ref h0, .int p0] (yW G S d) (fun r (u : yD) => yAg S [9, 41, 45, 46, 47, 69] d u ∧ (yPo S d → yPo S u) ∧ yK [1, 38] d u h0 ∧ (yMI S u h0 ∧ ((r.toInt = 0 ∧ ¬ (0 ≤ p0.toInt ∧ p0.toInt ≤ 7 ∧ yOI S d h0 p0.toInt.toNat = 1) ∧ zPf S d u h0 (fun _ => False)) ∨ (r.toInt = 1 ∧ (0 ≤ p0.toInt ∧ p0.toInt ≤ 7 ∧ yOI S d h0 p0.toInt.toNat = 1) ∧ u.2.2.2.2 (S.2.2.1 h0 11) (12 * p0.toInt.toNat) = 0 ∧ zPf S d u h0 (fun i => i = 12 * p0.toInt.toNat))))) (fun u => yW G S u) := by
  intro sz
  refine xstart (by decide) (Nat.le_of_ble_eq_true rfl) (fun p e s m args below meth c ls C0 hr hlocks hin hsz hP hK hD hN hl => ?_)
  obtain ⟨hx, hb, hml, hown, htl⟩ := id C0
  subst hsz
  have hD := hD.self (sz := s.heap.size)
  generalize hAe : va_A (yW G S d) s.heap.size = A at hD ⊢
  have hA : ∀ q : Nat, s.heap.size ≤ q → A q := fun q h => by rw [← hAe]; exact Or.inr h
  have hS : va_S A s.heap s.heap [] := va_S.rf
  have hg0 : yAg S [9, 41, 45, 46, 47, 69] d d := yAg.rf
  have hl : lv_has ls 3 [(0, .ref h0), (1, .int p0)] := hl
  refine lv_aload_n hx hb dX9_close_0 rfl (lv_at hl 0 rfl) ?_
  refine lv_iconst (v := 0) hx hb dX9_close_1 (by decide) ?_
  refine yputI (ci := 9) (k := 38) (ty := .int) (C := RX9) (T := TX9) (N := 67) C0 hK hP hD hS hm_h0 hk_h0 (by decide) rfl inlX9 tyX9 tyX9_ok nmX9 (by decide) mW175 (fun _ h9 => h9) rfl (by decide +kernel) rfl rfl (Nat.le_of_ble_eq_true rfl) ysi_9_38 dX9_close_2 (fun H locs hP hD hS => ?_)
  obtain ⟨d_1, ed_1⟩ : ∃ z : yD, z = yi d h0 38 0 := ⟨_, rfl⟩
  rw [← ed_1] at hP hD
  have hgd_1 : yAg S [9, 41, 45, 46, 47, 69] d d_1 := by rw [ed_1]; exact yAg.i hg0 (by rw [hk_h0]; decide)
  have hsd_1 : yAg S [9] d d_1 := by rw [ed_1]; exact yAg.i yAg.rf (by rw [hk_h0]; decide)
  have hPod_1 : yPo S d_1 := by rw [ed_1]; exact yPo.i hPo hk_h0 (Or.inl rfl)
  have hfd_1 : yK [1, 38] d d_1 h0 := by rw [ed_1]; exact yK.i yK.rf (by decide)
  have hId_1 : yMI S d_1 h0 := yMI.ag hI hSh hm_h0 hk_h0 (show yAg S [9] d d_1 from by rw [ed_1]; exact yAg.i yAg.rf (by rw [hk_h0]; decide)) (show yK [38] d d_1 h0 from by rw [ed_1]; exact yK.i yK.rf (by decide)) (by decide) (by decide)
  have hE0d_1 : (d_1.1 h0 0).toInt = (d.1 h0 0).toInt := congrArg Int32.toInt ((show yK [38] d d_1 h0 from by rw [ed_1]; exact yK.i yK.rf (by decide)) 0 (by decide))
  have hE1d_1 : (d_1.1 h0 1).toInt = (d.1 h0 1).toInt := congrArg Int32.toInt ((show yK [38] d d_1 h0 from by rw [ed_1]; exact yK.i yK.rf (by decide)) 1 (by decide))
  have hE2d_1 : (d_1.1 h0 2).toInt = (d.1 h0 2).toInt := congrArg Int32.toInt ((show yK [38] d d_1 h0 from by rw [ed_1]; exact yK.i yK.rf (by decide)) 2 (by decide))
  have hE3d_1 : (d_1.1 h0 3).toInt = (d.1 h0 3).toInt := congrArg Int32.toInt ((show yK [38] d d_1 h0 from by rw [ed_1]; exact yK.i yK.rf (by decide)) 3 (by decide))
  have hE63d_1 : (d_1.1 h0 63).toInt = (d.1 h0 63).toInt := congrArg Int32.toInt ((show yK [38] d d_1 h0 from by rw [ed_1]; exact yK.i yK.rf (by decide)) 63 (by decide))
  refine lv_aload_n hx hb dX9_close_5 rfl (lv_at hl 0 rfl) ?_
  refine lv_iload_n hx hb dX9_close_6 rfl (lv_at hl 1 rfl) ?_
  refine yVri (As := [.int p0]) (rest := []) C0 (g_X9_portWhy l G S d_1 h0 p0 hSh hm_h0 hk_h0) ok_X9_portWhy (mW387 : Cond.methodLink RX9 165 yX9_portWhy ∈ wsT) ⟨Nat.le_of_ble_eq_true rfl, Nat.le_of_ble_eq_true rfl⟩ hP hD hK hN hm_h0 hk_h0 (by decide) rfl rfl rfl hl.1 rfl (Nat.le_of_ble_eq_true rfl) ⟨Nat.le_of_ble_eq_true rfl, Nat.le_of_ble_eq_true rfl⟩ dX9_close_7 (fun r_2 hr_2 => ?_)
  refine lv_istore_n (lv' := [(2, .int r_2), (0, .ref h0), (1, .int p0)]) hx hb dX9_close_10 rfl hl (by decide) rfl (fun ls hl => ?_)
  refine lv_iload_n hx hb dX9_close_11 rfl (lv_at hl 0 rfl) ?_
  refine lv_if_eq (tgt := 23) hx hb dX9_close_12 (by decide) (fun c_3 => ?_) (fun c_3 => ?_)
  · refine lv_aload_n hx hb dX9_close_23 rfl (lv_at hl 1 rfl) ?_
    refine lv_iload_n hx hb dX9_close_24 rfl (lv_at hl 2 rfl) ?_
    refine lv_iconst (v := 0) hx hb dX9_close_25 (by decide) ?_
    refine lv_ldc (v := 129600) hx hb hown (htl (.constant RX9 174 (129600)) mW221) dX9_close_26 ?_
    refine yVwi (As := [.int p0, .int 0, .int 129600]) (rest := []) C0 (g_X9_clear l G S d_1 h0 p0 0 129600 hSh hPod_1 hm_h0 hk_h0 hId_1) ok_X9_clear (mW360 : Cond.methodLink RX9 183 yX9_clear ∈ wsT) ⟨Nat.le_of_ble_eq_true rfl, Nat.le_of_ble_eq_true rfl⟩ hP hD hS hA hK hN hm_h0 hk_h0 (by decide) rfl rfl rfl hl.1 rfl (Nat.le_of_ble_eq_true rfl) ⟨Nat.le_of_ble_eq_true rfl, Nat.le_of_ble_eq_true rfl⟩ dX9_close_28 (fun r_4 d_5 H locs hr_4 hP hD hS => ?_)
    obtain ⟨hgad_5, hpad_5, hfad_5, hxd_5⟩ := hr_4
    have hfd_5 : yK [1, 38] d d_5 h0 := yK.tr hfd_1 hfad_5 (by decide)
    have hE0d_5 : (d_5.1 h0 0).toInt = (d_1.1 h0 0).toInt := congrArg Int32.toInt (hfad_5 0 (by decide))
    have hE2d_5 : (d_5.1 h0 2).toInt = (d_1.1 h0 2).toInt := congrArg Int32.toInt (hfad_5 2 (by decide))
    have hE3d_5 : (d_5.1 h0 3).toInt = (d_1.1 h0 3).toInt := congrArg Int32.toInt (hfad_5 3 (by decide))
    have hE63d_5 : (d_5.1 h0 63).toInt = (d_1.1 h0 63).toInt := congrArg Int32.toInt (hfad_5 63 (by decide))
    have hId_5 : yMI S d_5 h0 := hxd_5.1
    have hgd_5 : yAg S [9, 41, 45, 46, 47, 69] d d_5 := yAg.tr hgd_1 hgad_5 (by first | decide | exact fun _ h => h)
    have hPod_5 : yPo S d_5 := hpad_5 hPod_1
    refine lv_pop hx hb dX9_close_31 rfl ?_
    refine lv_aload_n hx hb dX9_close_32 rfl (lv_at hl 1 rfl) ?_
    refine yget (ci := 9) (k := 11) (v := .ref (S.2.2.1 h0 11)) (C := RX9) (T := TX9) (N := 67) C0 hK hP hm_h0 hk_h0 (by decide) rfl inlX9 (by decide) mW116 (fun _ h9 => h9) rfl dX9_close_33 ?_
    obtain ⟨hmy_6, hky_6⟩ := ySh.f9_11 hSh _ hm_h0 hk_h0
    refine lv_bipush (v := 12) hx hb dX9_close_36 (by decide) ?_
    refine lv_iload_n hx hb dX9_close_38 rfl (lv_at hl 2 rfl) ?_
    refine lv_imul hx hb dX9_close_39 ?_
    refine lv_topi (fun z_7 ez_7 => ?_)
    refine lv_lconst (v := 0) hx hb dX9_close_40 (by decide) ?_
    have hCC_8 := yMI.c hId_5
    have F_9 := feq (rfl : (r_2 : Int32).toInt = (r_2 : Int32).toInt) (by decide +kernel : (0 : Int32).toInt = 0) c_3
    have T_10 : (z_7 : Int32).toInt = 12 * (p0 : Int32).toInt := tmul ez_7 (by decide +kernel : (12 : Int32).toInt = 12) (rfl : (p0 : Int32).toInt = (p0 : Int32).toInt) (by omega) (by omega)
    refine yastJ C0 hK hP hD hS hmy_6 hky_6 (by decide) rfl 4 rfl (xinT 96 rfl (by omega) (by omega)) dX9_close_41 (fun H locs hP hD hS => ?_)
    obtain ⟨d_11, ed_11⟩ : ∃ z : yD, z = ye d_5 (S.2.2.1 h0 11) (z_7 : Int32).toNatClampNeg 0 := ⟨_, rfl⟩
    rw [← ed_11] at hP hD
    have hgd_11 : yAg S [9, 41, 45, 46, 47, 69] d d_11 := by rw [ed_11]; exact yAg.e hgd_5 (by rw [hky_6]; decide)
    have hsd_11 : yAg S [41] d_5 d_11 := by rw [ed_11]; exact yAg.e yAg.rf (by rw [hky_6]; decide)
    have hPod_11 : yPo S d_11 := by rw [ed_11]; exact hPod_5
    have hfd_11 : yK [1, 38] d d_11 h0 := yK.ag hfd_5 (show yAg S [41] d_5 d_11 from by rw [ed_11]; exact yAg.e yAg.rf (by rw [hky_6]; decide)) (by rw [hk_h0]; decide)
    have T_12 : (0 : Int64).toInt = 0 := by decide +kernel
    have hId_11 : yMI S d_11 h0 := by rw [ed_11]; exact yMI.w11 hId_5 hSh hm_h0 hk_h0 (yBp.up (yMI.bp_ hId_5) (fun p hp e => by have e_ : (z_7 : Int32).toInt.toNat = 12 * p + 1 := e; refine ⟨?_, ?_⟩ <;> omega) (fun p hp e => by have e_ : (z_7 : Int32).toInt.toNat = 12 * p + 2 := e; refine ⟨?_, ?_⟩ <;> omega) (fun p hp e => by have e_ : (z_7 : Int32).toInt.toNat = 12 * p + 6 := e; refine ⟨?_, ?_⟩ <;> omega))
    have hE0d_11 : (d_11.1 h0 0).toInt = (d_5.1 h0 0).toInt := congrArg Int32.toInt ((yK.ag (F := []) yK.rf (show yAg S [41] d_5 d_11 from by rw [ed_11]; exact yAg.e yAg.rf (by rw [hky_6]; decide)) (by rw [hk_h0]; decide)) 0 (by decide))
    have hE1d_11 : (d_11.1 h0 1).toInt = (d_5.1 h0 1).toInt := congrArg Int32.toInt ((yK.ag (F := []) yK.rf (show yAg S [41] d_5 d_11 from by rw [ed_11]; exact yAg.e yAg.rf (by rw [hky_6]; decide)) (by rw [hk_h0]; decide)) 1 (by decide))
    have hE2d_11 : (d_11.1 h0 2).toInt = (d_5.1 h0 2).toInt := congrArg Int32.toInt ((yK.ag (F := []) yK.rf (show yAg S [41] d_5 d_11 from by rw [ed_11]; exact yAg.e yAg.rf (by rw [hky_6]; decide)) (by rw [hk_h0]; decide)) 2 (by decide))
    have hE3d_11 : (d_11.1 h0 3).toInt = (d_5.1 h0 3).toInt := congrArg Int32.toInt ((yK.ag (F := []) yK.rf (show yAg S [41] d_5 d_11 from by rw [ed_11]; exact yAg.e yAg.rf (by rw [hky_6]; decide)) (by rw [hk_h0]; decide)) 3 (by decide))
    have hE63d_11 : (d_11.1 h0 63).toInt = (d_5.1 h0 63).toInt := congrArg Int32.toInt ((yK.ag (F := []) yK.rf (show yAg S [41] d_5 d_11 from by rw [ed_11]; exact yAg.e yAg.rf (by rw [hky_6]; decide)) (by rw [hk_h0]; decide)) 63 (by decide))
    refine lv_aload_n hx hb dX9_close_42 rfl (lv_at hl 1 rfl) ?_
    refine lv_iload_n hx hb dX9_close_43 rfl (lv_at hl 2 rfl) ?_
    refine yVwv (As := [.int p0]) (rest := []) C0 (g_X9_part l G S d_11 h0 p0 hSh hPod_11 hm_h0 hk_h0 hId_11 (by refine ⟨?_, ?_⟩ <;> omega)) ok_X9_part (mW365 : Cond.methodLink RX9 189 yX9_part ∈ wsT) ⟨Nat.le_of_ble_eq_true rfl, Nat.le_of_ble_eq_true rfl⟩ hP hD hS hA hK hN hm_h0 hk_h0 (by decide) rfl rfl rfl hl.1 rfl (Nat.le_of_ble_eq_true rfl) ⟨Nat.le_of_ble_eq_true rfl, Nat.le_of_ble_eq_true rfl⟩ dX9_close_44 (fun d_14 H locs hr_13 hP hD hS => ?_)
    obtain ⟨hgad_14, hpad_14, hfad_14, hxd_14⟩ := hr_13
    have hfd_14 : yK [1, 38] d d_14 h0 := yK.tr hfd_11 hfad_14 (by decide)
    have hE0d_14 : (d_14.1 h0 0).toInt = (d_11.1 h0 0).toInt := congrArg Int32.toInt (hfad_14 0 (by decide))
    have hE1d_14 : (d_14.1 h0 1).toInt = (d_11.1 h0 1).toInt := congrArg Int32.toInt (hfad_14 1 (by decide))
    have hE2d_14 : (d_14.1 h0 2).toInt = (d_11.1 h0 2).toInt := congrArg Int32.toInt (hfad_14 2 (by decide))
    have hE3d_14 : (d_14.1 h0 3).toInt = (d_11.1 h0 3).toInt := congrArg Int32.toInt (hfad_14 3 (by decide))
    have hE63d_14 : (d_14.1 h0 63).toInt = (d_11.1 h0 63).toInt := congrArg Int32.toInt (hfad_14 63 (by decide))
    have hId_14 : yMI S d_14 h0 := hxd_14.1
    have hgd_14 : yAg S [9, 41, 45, 46, 47, 69] d d_14 := yAg.tr hgd_11 hgad_14 (by first | decide | exact fun _ h => h)
    have hPod_14 : yPo S d_14 := hpad_14 hPod_11
    refine lv_iconst (v := 1) hx hb dX9_close_47 (by decide) ?_
    have hrf_15 : d_1.2.2.2.2 (S.2.2.1 h0 11) = d.2.2.2.2 (S.2.2.1 h0 11) := (hsd_1 _ (by rw [(ySh.f9_11 hSh h0 hm_h0 hk_h0).2]; decide)).2.2.2.2
    have hrf_15a : yOI S d_1 h0 (p0 : Int32).toInt.toNat = yOI S d h0 (p0 : Int32).toInt.toNat := by unfold yOI; rw [hrf_15]
    have hrf_15b : yOf S d_1 h0 (p0 : Int32).toInt.toNat 2 = yOf S d h0 (p0 : Int32).toInt.toNat 2 := by unfold yOf; rw [hrf_15]
    have hCC_16 := yMI.c hId_14
    have hz_ : d_11.2.2.2.2 (S.2.2.1 h0 11) (12 * p0.toInt.toNat) = 0 := by rw [show 12 * p0.toInt.toNat = (z_7 : Int32).toNatClampNeg from (show _ = (z_7 : Int32).toInt.toNat by omega), ed_11]; exact ye_self
    exact W.zret (v := 1) (ty := .boolean) hx hb hr rfl (fun t ht hW => ⟨⟨1, d_14, rfl, ⟨hgd_14, (fun _ => hPod_14), hfd_14, ⟨hId_14, Or.inr ⟨by have h0_ : (1 : Int32).toInt = 1 := (by decide +kernel); omega, by omega, (hxd_14.2 _ (by omega) id).trans hz_, (zPf.tr (zPf.tr (zPf.tr (zPf.eq (hsd_1 _ (by rw [(ySh.f9_11 hSh h0 hm_h0 hk_h0).2]; decide)).2.2.2.2) (zPf.eq (hgad_5 _ (by rw [(ySh.f9_11 hSh h0 hm_h0 hk_h0).2]; decide)).2.2.2.2)) (zPf.up ed_11 (fun q => by have e_ : (z_7 : Int32).toInt.toNat = (z_7 : Int32).toNatClampNeg := rfl; (show _ = _; omega)))) (zPf.mono (E := fun _ => False) (hxd_14.2) (fun _ h => False.elim h)))⟩⟩⟩, by rw [ht]; exact hP, hD⟩, hS.F ht⟩) hS.2.2 dX9_close_48
  · refine lv_aload_n hx hb dX9_close_15 rfl (lv_at hl 1 rfl) ?_
    refine lv_iload_n hx hb dX9_close_16 rfl (lv_at hl 0 rfl) ?_
    have F_17 := fne (rfl : (r_2 : Int32).toInt = (r_2 : Int32).toInt) (by decide +kernel : (0 : Int32).toInt = 0) c_3
    refine yVwi (As := [.int r_2]) (rest := []) C0 (g_X9_no l G S d_1 h0 r_2 hSh hPod_1 hm_h0 hk_h0 (by refine ⟨?_, ?_⟩ <;> omega)) ok_X9_no (mW177 : Cond.methodLink RX9 168 yX9_no ∈ wsT) ⟨Nat.le_of_ble_eq_true rfl, Nat.le_of_ble_eq_true rfl⟩ hP hD hS hA hK hN hm_h0 hk_h0 (by decide) rfl rfl rfl hl.1 rfl (Nat.le_of_ble_eq_true rfl) ⟨Nat.le_of_ble_eq_true rfl, Nat.le_of_ble_eq_true rfl⟩ dX9_close_17 (fun r_18 d_19 H locs hr_18 hP hD hS => ?_)
    obtain ⟨hgad_19, hpad_19, hfad_19, hxd_19⟩ := hr_18
    have hfd_19 : yK [1, 38] d d_19 h0 := yK.tr hfd_1 hfad_19 (by decide)
    have hE0d_19 : (d_19.1 h0 0).toInt = (d_1.1 h0 0).toInt := congrArg Int32.toInt (hfad_19 0 (by decide))
    have hE1d_19 : (d_19.1 h0 1).toInt = (d_1.1 h0 1).toInt := congrArg Int32.toInt (hfad_19 1 (by decide))
    have hE2d_19 : (d_19.1 h0 2).toInt = (d_1.1 h0 2).toInt := congrArg Int32.toInt (hfad_19 2 (by decide))
    have hE3d_19 : (d_19.1 h0 3).toInt = (d_1.1 h0 3).toInt := congrArg Int32.toInt (hfad_19 3 (by decide))
    have hE63d_19 : (d_19.1 h0 63).toInt = (d_1.1 h0 63).toInt := congrArg Int32.toInt (hfad_19 63 (by decide))
    have hId_19 : yMI S d_19 h0 := yMI.ag hId_1 hSh hm_h0 hk_h0 hgad_19 hfad_19 (by decide) (by decide)
    have hgd_19 : yAg S [9, 41, 45, 46, 47, 69] d d_19 := yAg.tr hgd_1 hgad_19 (by first | decide | exact fun _ h => h)
    have hPod_19 : yPo S d_19 := hpad_19 hPod_1
    refine lv_pop hx hb dX9_close_20 rfl ?_
    refine lv_iconst (v := 0) hx hb dX9_close_21 (by decide) ?_
    have hrf_20 : d_1.2.2.2.2 (S.2.2.1 h0 11) = d.2.2.2.2 (S.2.2.1 h0 11) := (hsd_1 _ (by rw [(ySh.f9_11 hSh h0 hm_h0 hk_h0).2]; decide)).2.2.2.2
    have hrf_20a : yOI S d_1 h0 (p0 : Int32).toInt.toNat = yOI S d h0 (p0 : Int32).toInt.toNat := by unfold yOI; rw [hrf_20]
    have hrf_20b : yOf S d_1 h0 (p0 : Int32).toInt.toNat 2 = yOf S d h0 (p0 : Int32).toInt.toNat 2 := by unfold yOf; rw [hrf_20]
    have hCC_21 := yMI.c hId_19
    exact W.zret (v := 0) (ty := .boolean) hx hb hr rfl (fun t ht hW => ⟨⟨0, d_19, rfl, ⟨hgd_19, (fun _ => hPod_19), hfd_19, ⟨hId_19, Or.inl ⟨by have h0_ : (0 : Int32).toInt = 0 := (by decide +kernel); omega, by omega, (zPf.tr (zPf.eq (hsd_1 _ (by rw [(ySh.f9_11 hSh h0 hm_h0 hk_h0).2]; decide)).2.2.2.2) (zPf.eq (hgad_19 _ (by rw [(ySh.f9_11 hSh h0 hm_h0 hk_h0).2]; decide)).2.2.2.2))⟩⟩⟩, by rw [ht]; exact hP, hD⟩, hS.F ht⟩) hS.2.2 dX9_close_22
theorem dX9_day_0 : decode cX9_day 0 = .ok (.aload_n 0, 1) := by decide +kernel
theorem dX9_day_1 : decode cX9_day 1 = .ok (.iconst 0, 1) := by decide +kernel
theorem dX9_day_2 : decode cX9_day 2 = .ok (.putfield 147, 3) := by decide +kernel
theorem dX9_day_5 : decode cX9_day 5 = .ok (.aload_n 0, 1) := by decide +kernel
theorem dX9_day_6 : decode cX9_day 6 = .ok (.iload_n 1, 1) := by decide +kernel
theorem dX9_day_7 : decode cX9_day 7 = .ok (.iload_n 2, 1) := by decide +kernel
theorem dX9_day_8 : decode cX9_day 8 = .ok (.invokevirtual 206, 3) := by decide +kernel
theorem dX9_day_11 : decode cX9_day 11 = .ok (.istore 4, 2) := by decide +kernel
theorem dX9_day_13 : decode cX9_day 13 = .ok (.iload 4, 2) := by decide +kernel
theorem dX9_day_15 : decode cX9_day 15 = .ok (.ifCond .eq 12, 3) := by decide +kernel
theorem dX9_day_18 : decode cX9_day 18 = .ok (.aload_n 0, 1) := by decide +kernel
theorem dX9_day_19 : decode cX9_day 19 = .ok (.iload 4, 2) := by decide +kernel
theorem dX9_day_21 : decode cX9_day 21 = .ok (.invokevirtual 168, 3) := by decide +kernel
theorem dX9_day_24 : decode cX9_day 24 = .ok (.pop, 1) := by decide +kernel
theorem dX9_day_25 : decode cX9_day 25 = .ok (.iconst 0, 1) := by decide +kernel
theorem dX9_day_26 : decode cX9_day 26 = .ok (.ireturn, 1) := by decide +kernel
theorem dX9_day_27 : decode cX9_day 27 = .ok (.aload_n 0, 1) := by decide +kernel
theorem dX9_day_28 : decode cX9_day 28 = .ok (.iload_n 1, 1) := by decide +kernel
theorem dX9_day_29 : decode cX9_day 29 = .ok (.sipush 1440, 3) := by decide +kernel
theorem dX9_day_32 : decode cX9_day 32 = .ok (.iload_n 2, 1) := by decide +kernel
theorem dX9_day_33 : decode cX9_day 33 = .ok (.imul, 1) := by decide +kernel
theorem dX9_day_34 : decode cX9_day 34 = .ok (.sipush 1440, 3) := by decide +kernel
theorem dX9_day_37 : decode cX9_day 37 = .ok (.iload_n 2, 1) := by decide +kernel
theorem dX9_day_38 : decode cX9_day 38 = .ok (.imul, 1) := by decide +kernel
theorem dX9_day_39 : decode cX9_day 39 = .ok (.sipush 1440, 3) := by decide +kernel
theorem dX9_day_42 : decode cX9_day 42 = .ok (.iadd, 1) := by decide +kernel
theorem dX9_day_43 : decode cX9_day 43 = .ok (.invokevirtual 183, 3) := by decide +kernel
theorem dX9_day_46 : decode cX9_day 46 = .ok (.pop, 1) := by decide +kernel
theorem dX9_day_47 : decode cX9_day 47 = .ok (.aload_n 0, 1) := by decide +kernel
theorem dX9_day_48 : decode cX9_day 48 = .ok (.getfield 44, 3) := by decide +kernel
theorem dX9_day_51 : decode cX9_day 51 = .ok (.bipush 90, 2) := by decide +kernel
theorem dX9_day_53 : decode cX9_day 53 = .ok (.iload_n 1, 1) := by decide +kernel
theorem dX9_day_54 : decode cX9_day 54 = .ok (.imul, 1) := by decide +kernel
theorem dX9_day_55 : decode cX9_day 55 = .ok (.iload_n 2, 1) := by decide +kernel
theorem dX9_day_56 : decode cX9_day 56 = .ok (.iadd, 1) := by decide +kernel
theorem dX9_day_57 : decode cX9_day 57 = .ok (.iload_n 3, 1) := by decide +kernel
theorem dX9_day_58 : decode cX9_day 58 = .ok (.ifCond .ne 7, 3) := by decide +kernel
theorem dX9_day_61 : decode cX9_day 61 = .ok (.iconst 1, 1) := by decide +kernel
theorem dX9_day_62 : decode cX9_day 62 = .ok (.goto 4, 3) := by decide +kernel
theorem dX9_day_65 : decode cX9_day 65 = .ok (.iconst 0, 1) := by decide +kernel
theorem dX9_day_66 : decode cX9_day 66 = .ok (.bastore, 1) := by decide +kernel
theorem dX9_day_67 : decode cX9_day 67 = .ok (.aload_n 0, 1) := by decide +kernel
theorem dX9_day_68 : decode cX9_day 68 = .ok (.getfield 40, 3) := by decide +kernel
theorem dX9_day_71 : decode cX9_day 71 = .ok (.bipush 90, 2) := by decide +kernel
theorem dX9_day_73 : decode cX9_day 73 = .ok (.iload_n 1, 1) := by decide +kernel
theorem dX9_day_74 : decode cX9_day 74 = .ok (.imul, 1) := by decide +kernel
theorem dX9_day_75 : decode cX9_day 75 = .ok (.iload_n 2, 1) := by decide +kernel
theorem dX9_day_76 : decode cX9_day 76 = .ok (.iadd, 1) := by decide +kernel
theorem dX9_day_77 : decode cX9_day 77 = .ok (.sipush 1440, 3) := by decide +kernel
theorem dX9_day_80 : decode cX9_day 80 = .ok (.sastore, 1) := by decide +kernel
theorem dX9_day_81 : decode cX9_day 81 = .ok (.iconst 1, 1) := by decide +kernel
theorem dX9_day_82 : decode cX9_day 82 = .ok (.ireturn, 1) := by decide +kernel
set_option maxHeartbeats 4000000 in
set_option maxRecDepth 100000 in
theorem g_X9_day (l : Launch) (G : xG) (S : yS) (d : yD) (h0 : Nat) (p0 : Int32) (p1 : Int32) (p2 : Int32) (hSh : ySh S) (hPo : yPo S d) (hm_h0 : h0 ∈ S.1) (hk_h0 : S.2.1 h0 = 9) (hI : yMI S d h0) (hz_p2 : p2 = 0 ∨ p2 = 1) : xWi l G yX9_day cX9_day 5 (some .boolean) 3 65 0 0 [.ref h0, .int p0, .int p1, .int p2] (yW G S d) (fun r (u : yD) => yAg S [9, 42, 43, 45, 46, 47, 69] d u ∧ (yPo S d → yPo S u) ∧ yK [1, 38] d u h0 ∧ (yMI S u h0 ∧ ((r.toInt = 0 ∧ ¬ (0 ≤ p0.toInt ∧ p0.toInt ≤ 7 ∧ yOI S d h0 p0.toInt.toNat = 1 ∧ 0 ≤ p1.toInt ∧ p1.toInt < yOf S d h0 p0.toInt.toNat 2)) ∨ (r.toInt = 1 ∧ (0 ≤ p0.toInt ∧ p0.toInt ≤ 7 ∧ yOI S d h0 p0.toInt.toNat = 1 ∧ 0 ≤ p1.toInt ∧ p1.toInt < yOf S d h0 p0.toInt.toNat 2))))) (fun u => yW G S u) := by
  intro sz
  refine xstart (by decide) (Nat.le_of_ble_eq_true rfl) (fun p e s m args below meth c ls C0 hr hlocks hin hsz hP hK hD hN hl => ?_)
  obtain ⟨hx, hb, hml, hown, htl⟩ := id C0
  subst hsz
  have hD := hD.self (sz := s.heap.size)
  generalize hAe : va_A (yW G S d) s.heap.size = A at hD ⊢
  have hA : ∀ q : Nat, s.heap.size ≤ q → A q := fun q h => by rw [← hAe]; exact Or.inr h
  have hS : va_S A s.heap s.heap [] := va_S.rf
  have hg0 : yAg S [9, 42, 43, 45, 46, 47, 69] d d := yAg.rf
  have hl : lv_has ls 5 [(0, .ref h0), (1, .int p0), (2, .int p1), (3, .int p2)] := hl
  refine lv_aload_n hx hb dX9_day_0 rfl (lv_at hl 0 rfl) ?_
  refine lv_iconst (v := 0) hx hb dX9_day_1 (by decide) ?_
  refine yputI (ci := 9) (k := 38) (ty := .int) (C := RX9) (T := TX9) (N := 67) C0 hK hP hD hS hm_h0 hk_h0 (by decide) rfl inlX9 tyX9 tyX9_ok nmX9 (by decide) mW175 (fun _ h9 => h9) rfl (by decide +kernel) rfl rfl (Nat.le_of_ble_eq_true rfl) ysi_9_38 dX9_day_2 (fun H locs hP hD hS => ?_)
  obtain ⟨d_1, ed_1⟩ : ∃ z : yD, z = yi d h0 38 0 := ⟨_, rfl⟩
  rw [← ed_1] at hP hD
  have hgd_1 : yAg S [9, 42, 43, 45, 46, 47, 69] d d_1 := by rw [ed_1]; exact yAg.i hg0 (by rw [hk_h0]; decide)
  have hsd_1 : yAg S [9] d d_1 := by rw [ed_1]; exact yAg.i yAg.rf (by rw [hk_h0]; decide)
  have hPod_1 : yPo S d_1 := by rw [ed_1]; exact yPo.i hPo hk_h0 (Or.inl rfl)
  have hfd_1 : yK [1, 38] d d_1 h0 := by rw [ed_1]; exact yK.i yK.rf (by decide)
  have hId_1 : yMI S d_1 h0 := yMI.ag hI hSh hm_h0 hk_h0 (show yAg S [9] d d_1 from by rw [ed_1]; exact yAg.i yAg.rf (by rw [hk_h0]; decide)) (show yK [38] d d_1 h0 from by rw [ed_1]; exact yK.i yK.rf (by decide)) (by decide) (by decide)
  have hE0d_1 : (d_1.1 h0 0).toInt = (d.1 h0 0).toInt := congrArg Int32.toInt ((show yK [38] d d_1 h0 from by rw [ed_1]; exact yK.i yK.rf (by decide)) 0 (by decide))
  have hE1d_1 : (d_1.1 h0 1).toInt = (d.1 h0 1).toInt := congrArg Int32.toInt ((show yK [38] d d_1 h0 from by rw [ed_1]; exact yK.i yK.rf (by decide)) 1 (by decide))
  have hE2d_1 : (d_1.1 h0 2).toInt = (d.1 h0 2).toInt := congrArg Int32.toInt ((show yK [38] d d_1 h0 from by rw [ed_1]; exact yK.i yK.rf (by decide)) 2 (by decide))
  have hE3d_1 : (d_1.1 h0 3).toInt = (d.1 h0 3).toInt := congrArg Int32.toInt ((show yK [38] d d_1 h0 from by rw [ed_1]; exact yK.i yK.rf (by decide)) 3 (by decide))
  have hE63d_1 : (d_1.1 h0 63).toInt = (d.1 h0 63).toInt := congrArg Int32.toInt ((show yK [38] d d_1 h0 from by rw [ed_1]; exact yK.i yK.rf (by decide)) 63 (by decide))
  refine lv_aload_n hx hb dX9_day_5 rfl (lv_at hl 0 rfl) ?_
  refine lv_iload_n hx hb dX9_day_6 rfl (lv_at hl 1 rfl) ?_
  refine lv_iload_n hx hb dX9_day_7 rfl (lv_at hl 2 rfl) ?_
  refine yVri (As := [.int p0, .int p1]) (rest := []) C0 (g_X9_dayWhy l G S d_1 h0 p0 p1 hSh hm_h0 hk_h0 hId_1) ok_X9_dayWhy (mW450 : Cond.methodLink RX9 206 yX9_dayWhy ∈ wsT) ⟨Nat.le_of_ble_eq_true rfl, Nat.le_of_ble_eq_true rfl⟩ hP hD hK hN hm_h0 hk_h0 (by decide) rfl rfl rfl hl.1 rfl (Nat.le_of_ble_eq_true rfl) ⟨Nat.le_of_ble_eq_true rfl, Nat.le_of_ble_eq_true rfl⟩ dX9_day_8 (fun r_2 hr_2 => ?_)
  refine lv_istore (lv' := [(4, .int r_2), (0, .ref h0), (1, .int p0), (2, .int p1), (3, .int p2)]) hx hb dX9_day_11 hl (by decide) rfl (fun ls hl => ?_)
  refine lv_iload hx hb dX9_day_13 (lv_at hl 0 rfl) ?_
  refine lv_if_eq (tgt := 27) hx hb dX9_day_15 (by decide) (fun c_3 => ?_) (fun c_3 => ?_)
  · refine lv_aload_n hx hb dX9_day_27 rfl (lv_at hl 1 rfl) ?_
    refine lv_iload_n hx hb dX9_day_28 rfl (lv_at hl 2 rfl) ?_
    refine lv_sipush (v := 1440) hx hb dX9_day_29 (by decide) ?_
    refine lv_iload_n hx hb dX9_day_32 rfl (lv_at hl 3 rfl) ?_
    refine lv_imul hx hb dX9_day_33 ?_
    refine lv_topi (fun z_4 ez_4 => ?_)
    refine lv_sipush (v := 1440) hx hb dX9_day_34 (by decide) ?_
    refine lv_iload_n hx hb dX9_day_37 rfl (lv_at hl 3 rfl) ?_
    refine lv_imul hx hb dX9_day_38 ?_
    refine lv_topi (fun z_5 ez_5 => ?_)
    refine lv_sipush (v := 1440) hx hb dX9_day_39 (by decide) ?_
    refine lv_iadd hx hb dX9_day_42 ?_
    refine lv_topi (fun z_6 ez_6 => ?_)
    refine yVwi (As := [.int p0, .int z_4, .int z_6]) (rest := []) C0 (g_X9_clear l G S d_1 h0 p0 z_4 z_6 hSh hPod_1 hm_h0 hk_h0 hId_1) ok_X9_clear (mW360 : Cond.methodLink RX9 183 yX9_clear ∈ wsT) ⟨Nat.le_of_ble_eq_true rfl, Nat.le_of_ble_eq_true rfl⟩ hP hD hS hA hK hN hm_h0 hk_h0 (by decide) rfl rfl rfl hl.1 rfl (Nat.le_of_ble_eq_true rfl) ⟨Nat.le_of_ble_eq_true rfl, Nat.le_of_ble_eq_true rfl⟩ dX9_day_43 (fun r_7 d_8 H locs hr_7 hP hD hS => ?_)
    obtain ⟨hgad_8, hpad_8, hfad_8, hxd_8⟩ := hr_7
    have hfd_8 : yK [1, 38] d d_8 h0 := yK.tr hfd_1 hfad_8 (by decide)
    have hE0d_8 : (d_8.1 h0 0).toInt = (d_1.1 h0 0).toInt := congrArg Int32.toInt (hfad_8 0 (by decide))
    have hE2d_8 : (d_8.1 h0 2).toInt = (d_1.1 h0 2).toInt := congrArg Int32.toInt (hfad_8 2 (by decide))
    have hE3d_8 : (d_8.1 h0 3).toInt = (d_1.1 h0 3).toInt := congrArg Int32.toInt (hfad_8 3 (by decide))
    have hE63d_8 : (d_8.1 h0 63).toInt = (d_1.1 h0 63).toInt := congrArg Int32.toInt (hfad_8 63 (by decide))
    have hId_8 : yMI S d_8 h0 := hxd_8.1
    have hgd_8 : yAg S [9, 42, 43, 45, 46, 47, 69] d d_8 := yAg.tr hgd_1 hgad_8 (by first | decide | exact fun _ h => h)
    have hPod_8 : yPo S d_8 := hpad_8 hPod_1
    refine lv_pop hx hb dX9_day_46 rfl ?_
    refine lv_aload_n hx hb dX9_day_47 rfl (lv_at hl 1 rfl) ?_
    refine yget (ci := 9) (k := 13) (v := .ref (S.2.2.1 h0 13)) (C := RX9) (T := TX9) (N := 67) C0 hK hP hm_h0 hk_h0 (by decide) rfl inlX9 (by decide) mW120 (fun _ h9 => h9) rfl dX9_day_48 ?_
    obtain ⟨hmy_9, hky_9⟩ := ySh.f9_13 hSh _ hm_h0 hk_h0
    refine lv_bipush (v := 90) hx hb dX9_day_51 (by decide) ?_
    refine lv_iload_n hx hb dX9_day_53 rfl (lv_at hl 2 rfl) ?_
    refine lv_imul hx hb dX9_day_54 ?_
    refine lv_topi (fun z_10 ez_10 => ?_)
    refine lv_iload_n hx hb dX9_day_55 rfl (lv_at hl 3 rfl) ?_
    refine lv_iadd hx hb dX9_day_56 ?_
    refine lv_topi (fun z_11 ez_11 => ?_)
    refine lv_iload_n hx hb dX9_day_57 rfl (lv_at hl 4 rfl) ?_
    refine lv_if_ne (tgt := 65) hx hb dX9_day_58 (by decide) (fun c_12 => ?_) (fun c_12 => ?_)
    · refine lv_iconst (v := 0) hx hb dX9_day_65 (by decide) ?_
      have hCC_13 := yMI.c hId_8
      have F_14 := feq (rfl : (r_2 : Int32).toInt = (r_2 : Int32).toInt) (by decide +kernel : (0 : Int32).toInt = 0) c_3
      have F_15 := fne (rfl : (p2 : Int32).toInt = (p2 : Int32).toInt) (by decide +kernel : (0 : Int32).toInt = 0) c_12
      have T_17 : (z_10 : Int32).toInt = 90 * (p0 : Int32).toInt := tmul ez_10 (by decide +kernel : (90 : Int32).toInt = 90) (rfl : (p0 : Int32).toInt = (p0 : Int32).toInt) (by omega) (by omega)
      have T_16 : (z_11 : Int32).toInt = (z_10 : Int32).toInt + (p1 : Int32).toInt := tadd ez_11 (rfl : (z_10 : Int32).toInt = (z_10 : Int32).toInt) (rfl : (p1 : Int32).toInt = (p1 : Int32).toInt) (by omega) (by omega)
      refine yastZ C0 hK hP hD hS hmy_9 hky_9 (by decide) rfl 3 rfl (xinT 720 rfl (by omega) (by omega)) dX9_day_66 (fun H locs hP hD hS => ?_)
      obtain ⟨d_18, ed_18⟩ : ∃ z : yD, z = ycs d_8 (S.2.2.1 h0 13) (upd (d_8.2.2.2.1 (S.2.2.1 h0 13)) (z_11 : Int32).toNatClampNeg (vp_nar .boolean 0)) := ⟨_, rfl⟩
      rw [← ed_18] at hP hD
      have hgd_18 : yAg S [9, 42, 43, 45, 46, 47, 69] d d_18 := by rw [ed_18]; exact yAg.cs hgd_8 (by rw [hky_9]; decide)
      have hsd_18 : yAg S [43] d_8 d_18 := by rw [ed_18]; exact yAg.cs yAg.rf (by rw [hky_9]; decide)
      have hPod_18 : yPo S d_18 := by rw [ed_18]; exact hPod_8
      have hfd_18 : yK [1, 38] d d_18 h0 := yK.ag hfd_8 (show yAg S [43] d_8 d_18 from by rw [ed_18]; exact yAg.cs yAg.rf (by rw [hky_9]; decide)) (by rw [hk_h0]; decide)
      have hId_18 : yMI S d_18 h0 := yMI.ag hId_8 hSh hm_h0 hk_h0 (show yAg S [43] d_8 d_18 from by rw [ed_18]; exact yAg.cs yAg.rf (by rw [hky_9]; decide)) (yK.ag (F := []) yK.rf (show yAg S [43] d_8 d_18 from by rw [ed_18]; exact yAg.cs yAg.rf (by rw [hky_9]; decide)) (by rw [hk_h0]; decide)) (by decide) (by decide)
      have hE0d_18 : (d_18.1 h0 0).toInt = (d_8.1 h0 0).toInt := congrArg Int32.toInt ((yK.ag (F := []) yK.rf (show yAg S [43] d_8 d_18 from by rw [ed_18]; exact yAg.cs yAg.rf (by rw [hky_9]; decide)) (by rw [hk_h0]; decide)) 0 (by decide))
      have hE1d_18 : (d_18.1 h0 1).toInt = (d_8.1 h0 1).toInt := congrArg Int32.toInt ((yK.ag (F := []) yK.rf (show yAg S [43] d_8 d_18 from by rw [ed_18]; exact yAg.cs yAg.rf (by rw [hky_9]; decide)) (by rw [hk_h0]; decide)) 1 (by decide))
      have hE2d_18 : (d_18.1 h0 2).toInt = (d_8.1 h0 2).toInt := congrArg Int32.toInt ((yK.ag (F := []) yK.rf (show yAg S [43] d_8 d_18 from by rw [ed_18]; exact yAg.cs yAg.rf (by rw [hky_9]; decide)) (by rw [hk_h0]; decide)) 2 (by decide))
      have hE3d_18 : (d_18.1 h0 3).toInt = (d_8.1 h0 3).toInt := congrArg Int32.toInt ((yK.ag (F := []) yK.rf (show yAg S [43] d_8 d_18 from by rw [ed_18]; exact yAg.cs yAg.rf (by rw [hky_9]; decide)) (by rw [hk_h0]; decide)) 3 (by decide))
      have hE63d_18 : (d_18.1 h0 63).toInt = (d_8.1 h0 63).toInt := congrArg Int32.toInt ((yK.ag (F := []) yK.rf (show yAg S [43] d_8 d_18 from by rw [ed_18]; exact yAg.cs yAg.rf (by rw [hky_9]; decide)) (by rw [hk_h0]; decide)) 63 (by decide))
      refine lv_aload_n hx hb dX9_day_67 rfl (lv_at hl 1 rfl) ?_
      refine yget (ci := 9) (k := 12) (v := .ref (S.2.2.1 h0 12)) (C := RX9) (T := TX9) (N := 67) C0 hK hP hm_h0 hk_h0 (by decide) rfl inlX9 (by decide) mW118 (fun _ h9 => h9) rfl dX9_day_68 ?_
      obtain ⟨hmy_19, hky_19⟩ := ySh.f9_12 hSh _ hm_h0 hk_h0
      refine lv_bipush (v := 90) hx hb dX9_day_71 (by decide) ?_
      refine lv_iload_n hx hb dX9_day_73 rfl (lv_at hl 2 rfl) ?_
      refine lv_imul hx hb dX9_day_74 ?_
      refine lv_topi (fun z_20 ez_20 => ?_)
      refine lv_iload_n hx hb dX9_day_75 rfl (lv_at hl 3 rfl) ?_
      refine lv_iadd hx hb dX9_day_76 ?_
      refine lv_topi (fun z_21 ez_21 => ?_)
      refine lv_sipush (v := 1440) hx hb dX9_day_77 (by decide) ?_
      have hCC_22 := yMI.c hId_18
      have T_24 : (z_20 : Int32).toInt = 90 * (p0 : Int32).toInt := tmul ez_20 (by decide +kernel : (90 : Int32).toInt = 90) (rfl : (p0 : Int32).toInt = (p0 : Int32).toInt) (by omega) (by omega)
      have T_23 : (z_21 : Int32).toInt = (z_20 : Int32).toInt + (p1 : Int32).toInt := tadd ez_21 (rfl : (z_20 : Int32).toInt = (z_20 : Int32).toInt) (rfl : (p1 : Int32).toInt = (p1 : Int32).toInt) (by omega) (by omega)
      refine yastS C0 hK hP hD hS hmy_19 hky_19 (by decide) rfl 2 rfl (xinT 720 rfl (by omega) (by omega)) dX9_day_80 (fun H locs hP hD hS => ?_)
      obtain ⟨d_25, ed_25⟩ : ∃ z : yD, z = ycs d_18 (S.2.2.1 h0 12) (upd (d_18.2.2.2.1 (S.2.2.1 h0 12)) (z_21 : Int32).toNatClampNeg (vp_nar .short 1440)) := ⟨_, rfl⟩
      rw [← ed_25] at hP hD
      have hgd_25 : yAg S [9, 42, 43, 45, 46, 47, 69] d d_25 := by rw [ed_25]; exact yAg.cs hgd_18 (by rw [hky_19]; decide)
      have hsd_25 : yAg S [42] d_18 d_25 := by rw [ed_25]; exact yAg.cs yAg.rf (by rw [hky_19]; decide)
      have hPod_25 : yPo S d_25 := by rw [ed_25]; exact hPod_18
      have hfd_25 : yK [1, 38] d d_25 h0 := yK.ag hfd_18 (show yAg S [42] d_18 d_25 from by rw [ed_25]; exact yAg.cs yAg.rf (by rw [hky_19]; decide)) (by rw [hk_h0]; decide)
      have hId_25 : yMI S d_25 h0 := yMI.ag hId_18 hSh hm_h0 hk_h0 (show yAg S [42] d_18 d_25 from by rw [ed_25]; exact yAg.cs yAg.rf (by rw [hky_19]; decide)) (yK.ag (F := []) yK.rf (show yAg S [42] d_18 d_25 from by rw [ed_25]; exact yAg.cs yAg.rf (by rw [hky_19]; decide)) (by rw [hk_h0]; decide)) (by decide) (by decide)
      have hE0d_25 : (d_25.1 h0 0).toInt = (d_18.1 h0 0).toInt := congrArg Int32.toInt ((yK.ag (F := []) yK.rf (show yAg S [42] d_18 d_25 from by rw [ed_25]; exact yAg.cs yAg.rf (by rw [hky_19]; decide)) (by rw [hk_h0]; decide)) 0 (by decide))
      have hE1d_25 : (d_25.1 h0 1).toInt = (d_18.1 h0 1).toInt := congrArg Int32.toInt ((yK.ag (F := []) yK.rf (show yAg S [42] d_18 d_25 from by rw [ed_25]; exact yAg.cs yAg.rf (by rw [hky_19]; decide)) (by rw [hk_h0]; decide)) 1 (by decide))
      have hE2d_25 : (d_25.1 h0 2).toInt = (d_18.1 h0 2).toInt := congrArg Int32.toInt ((yK.ag (F := []) yK.rf (show yAg S [42] d_18 d_25 from by rw [ed_25]; exact yAg.cs yAg.rf (by rw [hky_19]; decide)) (by rw [hk_h0]; decide)) 2 (by decide))
      have hE3d_25 : (d_25.1 h0 3).toInt = (d_18.1 h0 3).toInt := congrArg Int32.toInt ((yK.ag (F := []) yK.rf (show yAg S [42] d_18 d_25 from by rw [ed_25]; exact yAg.cs yAg.rf (by rw [hky_19]; decide)) (by rw [hk_h0]; decide)) 3 (by decide))
      have hE63d_25 : (d_25.1 h0 63).toInt = (d_18.1 h0 63).toInt := congrArg Int32.toInt ((yK.ag (F := []) yK.rf (show yAg S [42] d_18 d_25 from by rw [ed_25]; exact yAg.cs yAg.rf (by rw [hky_19]; decide)) (by rw [hk_h0]; decide)) 63 (by decide))
      refine lv_iconst (v := 1) hx hb dX9_day_81 (by decide) ?_
      have hrf_26 : d_1.2.2.2.2 (S.2.2.1 h0 11) = d.2.2.2.2 (S.2.2.1 h0 11) := (hsd_1 _ (by rw [(ySh.f9_11 hSh h0 hm_h0 hk_h0).2]; decide)).2.2.2.2
      have hrf_26a : yOI S d_1 h0 (p0 : Int32).toInt.toNat = yOI S d h0 (p0 : Int32).toInt.toNat := by unfold yOI; rw [hrf_26]
      have hrf_26b : yOf S d_1 h0 (p0 : Int32).toInt.toNat 2 = yOf S d h0 (p0 : Int32).toInt.toNat 2 := by unfold yOf; rw [hrf_26]
      have hCC_27 := yMI.c hId_25
      exact W.zret (v := 1) (ty := .boolean) hx hb hr rfl (fun t ht hW => ⟨⟨1, d_25, rfl, ⟨hgd_25, (fun _ => hPod_25), hfd_25, ⟨hId_25, Or.inr ⟨by have h0_ : (1 : Int32).toInt = 1 := (by decide +kernel); omega, by omega⟩⟩⟩, by rw [ht]; exact hP, hD⟩, hS.F ht⟩) hS.2.2 dX9_day_82
    · refine lv_iconst (v := 1) hx hb dX9_day_61 (by decide) ?_
      refine lv_goto (tgt := 66) hx hb dX9_day_62 (by decide) ?_
      have hCC_28 := yMI.c hId_8
      have F_29 := feq (rfl : (r_2 : Int32).toInt = (r_2 : Int32).toInt) (by decide +kernel : (0 : Int32).toInt = 0) c_3
      have F_30 := feq (rfl : (p2 : Int32).toInt = (p2 : Int32).toInt) (by decide +kernel : (0 : Int32).toInt = 0) c_12
      have T_32 : (z_10 : Int32).toInt = 90 * (p0 : Int32).toInt := tmul ez_10 (by decide +kernel : (90 : Int32).toInt = 90) (rfl : (p0 : Int32).toInt = (p0 : Int32).toInt) (by omega) (by omega)
      have T_31 : (z_11 : Int32).toInt = (z_10 : Int32).toInt + (p1 : Int32).toInt := tadd ez_11 (rfl : (z_10 : Int32).toInt = (z_10 : Int32).toInt) (rfl : (p1 : Int32).toInt = (p1 : Int32).toInt) (by omega) (by omega)
      refine yastZ C0 hK hP hD hS hmy_9 hky_9 (by decide) rfl 3 rfl (xinT 720 rfl (by omega) (by omega)) dX9_day_66 (fun H locs hP hD hS => ?_)
      obtain ⟨d_33, ed_33⟩ : ∃ z : yD, z = ycs d_8 (S.2.2.1 h0 13) (upd (d_8.2.2.2.1 (S.2.2.1 h0 13)) (z_11 : Int32).toNatClampNeg (vp_nar .boolean 1)) := ⟨_, rfl⟩
      rw [← ed_33] at hP hD
      have hgd_33 : yAg S [9, 42, 43, 45, 46, 47, 69] d d_33 := by rw [ed_33]; exact yAg.cs hgd_8 (by rw [hky_9]; decide)
      have hsd_33 : yAg S [43] d_8 d_33 := by rw [ed_33]; exact yAg.cs yAg.rf (by rw [hky_9]; decide)
      have hPod_33 : yPo S d_33 := by rw [ed_33]; exact hPod_8
      have hfd_33 : yK [1, 38] d d_33 h0 := yK.ag hfd_8 (show yAg S [43] d_8 d_33 from by rw [ed_33]; exact yAg.cs yAg.rf (by rw [hky_9]; decide)) (by rw [hk_h0]; decide)
      have hId_33 : yMI S d_33 h0 := yMI.ag hId_8 hSh hm_h0 hk_h0 (show yAg S [43] d_8 d_33 from by rw [ed_33]; exact yAg.cs yAg.rf (by rw [hky_9]; decide)) (yK.ag (F := []) yK.rf (show yAg S [43] d_8 d_33 from by rw [ed_33]; exact yAg.cs yAg.rf (by rw [hky_9]; decide)) (by rw [hk_h0]; decide)) (by decide) (by decide)
      have hE0d_33 : (d_33.1 h0 0).toInt = (d_8.1 h0 0).toInt := congrArg Int32.toInt ((yK.ag (F := []) yK.rf (show yAg S [43] d_8 d_33 from by rw [ed_33]; exact yAg.cs yAg.rf (by rw [hky_9]; decide)) (by rw [hk_h0]; decide)) 0 (by decide))
      have hE1d_33 : (d_33.1 h0 1).toInt = (d_8.1 h0 1).toInt := congrArg Int32.toInt ((yK.ag (F := []) yK.rf (show yAg S [43] d_8 d_33 from by rw [ed_33]; exact yAg.cs yAg.rf (by rw [hky_9]; decide)) (by rw [hk_h0]; decide)) 1 (by decide))
      have hE2d_33 : (d_33.1 h0 2).toInt = (d_8.1 h0 2).toInt := congrArg Int32.toInt ((yK.ag (F := []) yK.rf (show yAg S [43] d_8 d_33 from by rw [ed_33]; exact yAg.cs yAg.rf (by rw [hky_9]; decide)) (by rw [hk_h0]; decide)) 2 (by decide))
      have hE3d_33 : (d_33.1 h0 3).toInt = (d_8.1 h0 3).toInt := congrArg Int32.toInt ((yK.ag (F := []) yK.rf (show yAg S [43] d_8 d_33 from by rw [ed_33]; exact yAg.cs yAg.rf (by rw [hky_9]; decide)) (by rw [hk_h0]; decide)) 3 (by decide))
      have hE63d_33 : (d_33.1 h0 63).toInt = (d_8.1 h0 63).toInt := congrArg Int32.toInt ((yK.ag (F := []) yK.rf (show yAg S [43] d_8 d_33 from by rw [ed_33]; exact yAg.cs yAg.rf (by rw [hky_9]; decide)) (by rw [hk_h0]; decide)) 63 (by decide))
      refine lv_aload_n hx hb dX9_day_67 rfl (lv_at hl 1 rfl) ?_
      refine yget (ci := 9) (k := 12) (v := .ref (S.2.2.1 h0 12)) (C := RX9) (T := TX9) (N := 67) C0 hK hP hm_h0 hk_h0 (by decide) rfl inlX9 (by decide) mW118 (fun _ h9 => h9) rfl dX9_day_68 ?_
      obtain ⟨hmy_34, hky_34⟩ := ySh.f9_12 hSh _ hm_h0 hk_h0
      refine lv_bipush (v := 90) hx hb dX9_day_71 (by decide) ?_
      refine lv_iload_n hx hb dX9_day_73 rfl (lv_at hl 2 rfl) ?_
      refine lv_imul hx hb dX9_day_74 ?_
      refine lv_topi (fun z_35 ez_35 => ?_)
      refine lv_iload_n hx hb dX9_day_75 rfl (lv_at hl 3 rfl) ?_
      refine lv_iadd hx hb dX9_day_76 ?_
      refine lv_topi (fun z_36 ez_36 => ?_)
      refine lv_sipush (v := 1440) hx hb dX9_day_77 (by decide) ?_
      have hCC_37 := yMI.c hId_33
      have T_39 : (z_35 : Int32).toInt = 90 * (p0 : Int32).toInt := tmul ez_35 (by decide +kernel : (90 : Int32).toInt = 90) (rfl : (p0 : Int32).toInt = (p0 : Int32).toInt) (by omega) (by omega)
      have T_38 : (z_36 : Int32).toInt = (z_35 : Int32).toInt + (p1 : Int32).toInt := tadd ez_36 (rfl : (z_35 : Int32).toInt = (z_35 : Int32).toInt) (rfl : (p1 : Int32).toInt = (p1 : Int32).toInt) (by omega) (by omega)
      refine yastS C0 hK hP hD hS hmy_34 hky_34 (by decide) rfl 2 rfl (xinT 720 rfl (by omega) (by omega)) dX9_day_80 (fun H locs hP hD hS => ?_)
      obtain ⟨d_40, ed_40⟩ : ∃ z : yD, z = ycs d_33 (S.2.2.1 h0 12) (upd (d_33.2.2.2.1 (S.2.2.1 h0 12)) (z_36 : Int32).toNatClampNeg (vp_nar .short 1440)) := ⟨_, rfl⟩
      rw [← ed_40] at hP hD
      have hgd_40 : yAg S [9, 42, 43, 45, 46, 47, 69] d d_40 := by rw [ed_40]; exact yAg.cs hgd_33 (by rw [hky_34]; decide)
      have hsd_40 : yAg S [42] d_33 d_40 := by rw [ed_40]; exact yAg.cs yAg.rf (by rw [hky_34]; decide)
      have hPod_40 : yPo S d_40 := by rw [ed_40]; exact hPod_33
      have hfd_40 : yK [1, 38] d d_40 h0 := yK.ag hfd_33 (show yAg S [42] d_33 d_40 from by rw [ed_40]; exact yAg.cs yAg.rf (by rw [hky_34]; decide)) (by rw [hk_h0]; decide)
      have hId_40 : yMI S d_40 h0 := yMI.ag hId_33 hSh hm_h0 hk_h0 (show yAg S [42] d_33 d_40 from by rw [ed_40]; exact yAg.cs yAg.rf (by rw [hky_34]; decide)) (yK.ag (F := []) yK.rf (show yAg S [42] d_33 d_40 from by rw [ed_40]; exact yAg.cs yAg.rf (by rw [hky_34]; decide)) (by rw [hk_h0]; decide)) (by decide) (by decide)
      have hE0d_40 : (d_40.1 h0 0).toInt = (d_33.1 h0 0).toInt := congrArg Int32.toInt ((yK.ag (F := []) yK.rf (show yAg S [42] d_33 d_40 from by rw [ed_40]; exact yAg.cs yAg.rf (by rw [hky_34]; decide)) (by rw [hk_h0]; decide)) 0 (by decide))
      have hE1d_40 : (d_40.1 h0 1).toInt = (d_33.1 h0 1).toInt := congrArg Int32.toInt ((yK.ag (F := []) yK.rf (show yAg S [42] d_33 d_40 from by rw [ed_40]; exact yAg.cs yAg.rf (by rw [hky_34]; decide)) (by rw [hk_h0]; decide)) 1 (by decide))
      have hE2d_40 : (d_40.1 h0 2).toInt = (d_33.1 h0 2).toInt := congrArg Int32.toInt ((yK.ag (F := []) yK.rf (show yAg S [42] d_33 d_40 from by rw [ed_40]; exact yAg.cs yAg.rf (by rw [hky_34]; decide)) (by rw [hk_h0]; decide)) 2 (by decide))
      have hE3d_40 : (d_40.1 h0 3).toInt = (d_33.1 h0 3).toInt := congrArg Int32.toInt ((yK.ag (F := []) yK.rf (show yAg S [42] d_33 d_40 from by rw [ed_40]; exact yAg.cs yAg.rf (by rw [hky_34]; decide)) (by rw [hk_h0]; decide)) 3 (by decide))
      have hE63d_40 : (d_40.1 h0 63).toInt = (d_33.1 h0 63).toInt := congrArg Int32.toInt ((yK.ag (F := []) yK.rf (show yAg S [42] d_33 d_40 from by rw [ed_40]; exact yAg.cs yAg.rf (by rw [hky_34]; decide)) (by rw [hk_h0]; decide)) 63 (by decide))
      refine lv_iconst (v := 1) hx hb dX9_day_81 (by decide) ?_
      have hrf_41 : d_1.2.2.2.2 (S.2.2.1 h0 11) = d.2.2.2.2 (S.2.2.1 h0 11) := (hsd_1 _ (by rw [(ySh.f9_11 hSh h0 hm_h0 hk_h0).2]; decide)).2.2.2.2
      have hrf_41a : yOI S d_1 h0 (p0 : Int32).toInt.toNat = yOI S d h0 (p0 : Int32).toInt.toNat := by unfold yOI; rw [hrf_41]
      have hrf_41b : yOf S d_1 h0 (p0 : Int32).toInt.toNat 2 = yOf S d h0 (p0 : Int32).toInt.toNat 2 := by unfold yOf; rw [hrf_41]
      have hCC_42 := yMI.c hId_40
      exact W.zret (v := 1) (ty := .boolean) hx hb hr rfl (fun t ht hW => ⟨⟨1, d_40, rfl, ⟨hgd_40, (fun _ => hPod_40), hfd_40, ⟨hId_40, Or.inr ⟨by have h0_ : (1 : Int32).toInt = 1 := (by decide +kernel); omega, by omega⟩⟩⟩, by rw [ht]; exact hP, hD⟩, hS.F ht⟩) hS.2.2 dX9_day_82
  · refine lv_aload_n hx hb dX9_day_18 rfl (lv_at hl 1 rfl) ?_
    refine lv_iload hx hb dX9_day_19 (lv_at hl 0 rfl) ?_
    have F_43 := fne (rfl : (r_2 : Int32).toInt = (r_2 : Int32).toInt) (by decide +kernel : (0 : Int32).toInt = 0) c_3
    refine yVwi (As := [.int r_2]) (rest := []) C0 (g_X9_no l G S d_1 h0 r_2 hSh hPod_1 hm_h0 hk_h0 (by refine ⟨?_, ?_⟩ <;> omega)) ok_X9_no (mW177 : Cond.methodLink RX9 168 yX9_no ∈ wsT) ⟨Nat.le_of_ble_eq_true rfl, Nat.le_of_ble_eq_true rfl⟩ hP hD hS hA hK hN hm_h0 hk_h0 (by decide) rfl rfl rfl hl.1 rfl (Nat.le_of_ble_eq_true rfl) ⟨Nat.le_of_ble_eq_true rfl, Nat.le_of_ble_eq_true rfl⟩ dX9_day_21 (fun r_44 d_45 H locs hr_44 hP hD hS => ?_)
    obtain ⟨hgad_45, hpad_45, hfad_45, hxd_45⟩ := hr_44
    have hfd_45 : yK [1, 38] d d_45 h0 := yK.tr hfd_1 hfad_45 (by decide)
    have hE0d_45 : (d_45.1 h0 0).toInt = (d_1.1 h0 0).toInt := congrArg Int32.toInt (hfad_45 0 (by decide))
    have hE1d_45 : (d_45.1 h0 1).toInt = (d_1.1 h0 1).toInt := congrArg Int32.toInt (hfad_45 1 (by decide))
    have hE2d_45 : (d_45.1 h0 2).toInt = (d_1.1 h0 2).toInt := congrArg Int32.toInt (hfad_45 2 (by decide))
    have hE3d_45 : (d_45.1 h0 3).toInt = (d_1.1 h0 3).toInt := congrArg Int32.toInt (hfad_45 3 (by decide))
    have hE63d_45 : (d_45.1 h0 63).toInt = (d_1.1 h0 63).toInt := congrArg Int32.toInt (hfad_45 63 (by decide))
    have hId_45 : yMI S d_45 h0 := yMI.ag hId_1 hSh hm_h0 hk_h0 hgad_45 hfad_45 (by decide) (by decide)
    have hgd_45 : yAg S [9, 42, 43, 45, 46, 47, 69] d d_45 := yAg.tr hgd_1 hgad_45 (by first | decide | exact fun _ h => h)
    have hPod_45 : yPo S d_45 := hpad_45 hPod_1
    refine lv_pop hx hb dX9_day_24 rfl ?_
    refine lv_iconst (v := 0) hx hb dX9_day_25 (by decide) ?_
    have hrf_46 : d_1.2.2.2.2 (S.2.2.1 h0 11) = d.2.2.2.2 (S.2.2.1 h0 11) := (hsd_1 _ (by rw [(ySh.f9_11 hSh h0 hm_h0 hk_h0).2]; decide)).2.2.2.2
    have hrf_46a : yOI S d_1 h0 (p0 : Int32).toInt.toNat = yOI S d h0 (p0 : Int32).toInt.toNat := by unfold yOI; rw [hrf_46]
    have hrf_46b : yOf S d_1 h0 (p0 : Int32).toInt.toNat 2 = yOf S d h0 (p0 : Int32).toInt.toNat 2 := by unfold yOf; rw [hrf_46]
    have hCC_47 := yMI.c hId_45
    exact W.zret (v := 0) (ty := .boolean) hx hb hr rfl (fun t ht hW => ⟨⟨0, d_45, rfl, ⟨hgd_45, (fun _ => hPod_45), hfd_45, ⟨hId_45, Or.inl ⟨by have h0_ : (0 : Int32).toInt = 0 := (by decide +kernel); omega, by omega⟩⟩⟩, by rw [ht]; exact hP, hD⟩, hS.F ht⟩) hS.2.2 dX9_day_26
theorem dX9_event_0 : decode cX9_event 0 = .ok (.aload_n 0, 1) := by decide +kernel
theorem dX9_event_1 : decode cX9_event 1 = .ok (.iconst 0, 1) := by decide +kernel
theorem dX9_event_2 : decode cX9_event 2 = .ok (.putfield 147, 3) := by decide +kernel
theorem dX9_event_5 : decode cX9_event 5 = .ok (.iload_n 3, 1) := by decide +kernel
theorem dX9_event_6 : decode cX9_event 6 = .ok (.ifCond .lt 9, 3) := by decide +kernel
theorem dX9_event_9 : decode cX9_event 9 = .ok (.iload_n 3, 1) := by decide +kernel
theorem dX9_event_10 : decode cX9_event 10 = .ok (.bipush 7, 2) := by decide +kernel
theorem dX9_event_12 : decode cX9_event 12 = .ok (.if_icmp .le 7, 3) := by decide +kernel
theorem dX9_event_15 : decode cX9_event 15 = .ok (.iconst 1, 1) := by decide +kernel
theorem dX9_event_16 : decode cX9_event 16 = .ok (.goto 9, 3) := by decide +kernel
theorem dX9_event_19 : decode cX9_event 19 = .ok (.aload_n 0, 1) := by decide +kernel
theorem dX9_event_20 : decode cX9_event 20 = .ok (.iload_n 1, 1) := by decide +kernel
theorem dX9_event_21 : decode cX9_event 21 = .ok (.iload_n 2, 1) := by decide +kernel
theorem dX9_event_22 : decode cX9_event 22 = .ok (.invokevirtual 195, 3) := by decide +kernel
theorem dX9_event_25 : decode cX9_event 25 = .ok (.istore 4, 2) := by decide +kernel
theorem dX9_event_27 : decode cX9_event 27 = .ok (.iload 4, 2) := by decide +kernel
theorem dX9_event_29 : decode cX9_event 29 = .ok (.ifCond .ne 15, 3) := by decide +kernel
theorem dX9_event_32 : decode cX9_event 32 = .ok (.aload_n 0, 1) := by decide +kernel
theorem dX9_event_33 : decode cX9_event 33 = .ok (.iload_n 1, 1) := by decide +kernel
theorem dX9_event_34 : decode cX9_event 34 = .ok (.iload_n 2, 1) := by decide +kernel
theorem dX9_event_35 : decode cX9_event 35 = .ok (.invokevirtual 198, 3) := by decide +kernel
theorem dX9_event_38 : decode cX9_event 38 = .ok (.ifCond .ne 6, 3) := by decide +kernel
theorem dX9_event_41 : decode cX9_event 41 = .ok (.iconst 2, 1) := by decide +kernel
theorem dX9_event_42 : decode cX9_event 42 = .ok (.istore 4, 2) := by decide +kernel
theorem dX9_event_44 : decode cX9_event 44 = .ok (.iload 4, 2) := by decide +kernel
theorem dX9_event_46 : decode cX9_event 46 = .ok (.ifCond .ne 16, 3) := by decide +kernel
theorem dX9_event_49 : decode cX9_event 49 = .ok (.aload_n 0, 1) := by decide +kernel
theorem dX9_event_50 : decode cX9_event 50 = .ok (.getfield 180, 3) := by decide +kernel
theorem dX9_event_53 : decode cX9_event 53 = .ok (.sipush 5000, 3) := by decide +kernel
theorem dX9_event_56 : decode cX9_event 56 = .ok (.if_icmp .ne 6, 3) := by decide +kernel
theorem dX9_event_59 : decode cX9_event 59 = .ok (.iconst 5, 1) := by decide +kernel
theorem dX9_event_60 : decode cX9_event 60 = .ok (.istore 4, 2) := by decide +kernel
theorem dX9_event_62 : decode cX9_event 62 = .ok (.iload 4, 2) := by decide +kernel
theorem dX9_event_64 : decode cX9_event 64 = .ok (.ifCond .eq 12, 3) := by decide +kernel
theorem dX9_event_67 : decode cX9_event 67 = .ok (.aload_n 0, 1) := by decide +kernel
theorem dX9_event_68 : decode cX9_event 68 = .ok (.iload 4, 2) := by decide +kernel
theorem dX9_event_70 : decode cX9_event 70 = .ok (.invokevirtual 168, 3) := by decide +kernel
theorem dX9_event_73 : decode cX9_event 73 = .ok (.pop, 1) := by decide +kernel
theorem dX9_event_74 : decode cX9_event 74 = .ok (.iconst 0, 1) := by decide +kernel
theorem dX9_event_75 : decode cX9_event 75 = .ok (.ireturn, 1) := by decide +kernel
theorem dX9_event_76 : decode cX9_event 76 = .ok (.aload_n 0, 1) := by decide +kernel
theorem dX9_event_77 : decode cX9_event 77 = .ok (.iload_n 1, 1) := by decide +kernel
theorem dX9_event_78 : decode cX9_event 78 = .ok (.iload_n 2, 1) := by decide +kernel
theorem dX9_event_79 : decode cX9_event 79 = .ok (.iload_n 3, 1) := by decide +kernel
theorem dX9_event_80 : decode cX9_event 80 = .ok (.invokevirtual 202, 3) := by decide +kernel
theorem dX9_event_83 : decode cX9_event 83 = .ok (.iconst 1, 1) := by decide +kernel
theorem dX9_event_84 : decode cX9_event 84 = .ok (.ireturn, 1) := by decide +kernel
set_option maxHeartbeats 4000000 in
set_option maxRecDepth 100000 in
theorem g_X9_event (l : Launch) (G : xG) (S : yS) (d : yD) (h0 : Nat) (p0 : Int32) (p1 : Int32) (p2 : Int32) (hSh : ySh S) (hPo : yPo S d) (hm_h0 : h0 ∈ S.1) (hk_h0 : S.2.1 h0 = 9) (hI : yMI S d h0) : xWi l G yX9_event cX9_event 5 (some .boolean) 3 65 0 0 [.ref h0, .int p0, .int p1, .int p2] (yW G S d) (fun r (u : yD) => yAg S [9, 45, 46, 47, 69] d u ∧ (yPo S d → yPo S u) ∧ yK [1, 38] d u h0 ∧ (yMI S u h0)) (fun u => yW G S u) := by
  intro sz
  refine xstart (by decide) (Nat.le_of_ble_eq_true rfl) (fun p e s m args below meth c ls C0 hr hlocks hin hsz hP hK hD hN hl => ?_)
  obtain ⟨hx, hb, hml, hown, htl⟩ := id C0
  subst hsz
  have hD := hD.self (sz := s.heap.size)
  generalize hAe : va_A (yW G S d) s.heap.size = A at hD ⊢
  have hA : ∀ q : Nat, s.heap.size ≤ q → A q := fun q h => by rw [← hAe]; exact Or.inr h
  have hS : va_S A s.heap s.heap [] := va_S.rf
  have hg0 : yAg S [9, 45, 46, 47, 69] d d := yAg.rf
  have hl : lv_has ls 5 [(0, .ref h0), (1, .int p0), (2, .int p1), (3, .int p2)] := hl
  refine lv_aload_n hx hb dX9_event_0 rfl (lv_at hl 0 rfl) ?_
  refine lv_iconst (v := 0) hx hb dX9_event_1 (by decide) ?_
  refine yputI (ci := 9) (k := 38) (ty := .int) (C := RX9) (T := TX9) (N := 67) C0 hK hP hD hS hm_h0 hk_h0 (by decide) rfl inlX9 tyX9 tyX9_ok nmX9 (by decide) mW175 (fun _ h9 => h9) rfl (by decide +kernel) rfl rfl (Nat.le_of_ble_eq_true rfl) ysi_9_38 dX9_event_2 (fun H locs hP hD hS => ?_)
  obtain ⟨d_1, ed_1⟩ : ∃ z : yD, z = yi d h0 38 0 := ⟨_, rfl⟩
  rw [← ed_1] at hP hD
  have hgd_1 : yAg S [9, 45, 46, 47, 69] d d_1 := by rw [ed_1]; exact yAg.i hg0 (by rw [hk_h0]; decide)
  have hPod_1 : yPo S d_1 := by rw [ed_1]; exact yPo.i hPo hk_h0 (Or.inl rfl)
  have hfd_1 : yK [1, 38] d d_1 h0 := by rw [ed_1]; exact yK.i yK.rf (by decide)
  have hId_1 : yMI S d_1 h0 := yMI.ag hI hSh hm_h0 hk_h0 (show yAg S [9] d d_1 from by rw [ed_1]; exact yAg.i yAg.rf (by rw [hk_h0]; decide)) (show yK [38] d d_1 h0 from by rw [ed_1]; exact yK.i yK.rf (by decide)) (by decide) (by decide)
  have hE0d_1 : (d_1.1 h0 0).toInt = (d.1 h0 0).toInt := congrArg Int32.toInt ((show yK [38] d d_1 h0 from by rw [ed_1]; exact yK.i yK.rf (by decide)) 0 (by decide))
  have hE1d_1 : (d_1.1 h0 1).toInt = (d.1 h0 1).toInt := congrArg Int32.toInt ((show yK [38] d d_1 h0 from by rw [ed_1]; exact yK.i yK.rf (by decide)) 1 (by decide))
  have hE2d_1 : (d_1.1 h0 2).toInt = (d.1 h0 2).toInt := congrArg Int32.toInt ((show yK [38] d d_1 h0 from by rw [ed_1]; exact yK.i yK.rf (by decide)) 2 (by decide))
  have hE3d_1 : (d_1.1 h0 3).toInt = (d.1 h0 3).toInt := congrArg Int32.toInt ((show yK [38] d d_1 h0 from by rw [ed_1]; exact yK.i yK.rf (by decide)) 3 (by decide))
  have hE63d_1 : (d_1.1 h0 63).toInt = (d.1 h0 63).toInt := congrArg Int32.toInt ((show yK [38] d d_1 h0 from by rw [ed_1]; exact yK.i yK.rf (by decide)) 63 (by decide))
  refine lv_iload_n hx hb dX9_event_5 rfl (lv_at hl 3 rfl) ?_
  refine lv_if_lt (tgt := 15) hx hb dX9_event_6 (by decide) (fun c_2 => ?_) (fun c_2 => ?_)
  · refine lv_iconst (v := 1) hx hb dX9_event_15 (by decide) ?_
    refine lv_goto (tgt := 25) hx hb dX9_event_16 (by decide) ?_
    refine lv_istore (lv' := [(4, .int 1), (0, .ref h0), (1, .int p0), (2, .int p1), (3, .int p2)]) hx hb dX9_event_25 hl (by decide) rfl (fun ls hl => ?_)
    refine lv_iload hx hb dX9_event_27 (lv_at hl 0 rfl) ?_
    refine lv_if_ne (tgt := 44) hx hb dX9_event_29 (by decide) (fun c_3 => ?_) (fun c_3 => absurd c_3 (by decide +kernel))
    refine lv_iload hx hb dX9_event_44 (lv_at hl 0 rfl) ?_
    refine lv_if_ne (tgt := 62) hx hb dX9_event_46 (by decide) (fun c_4 => ?_) (fun c_4 => absurd c_4 (by decide +kernel))
    refine lv_iload hx hb dX9_event_62 (lv_at hl 0 rfl) ?_
    refine lv_if_eq (tgt := 76) hx hb dX9_event_64 (by decide) (fun c_5 => absurd c_5 (by decide +kernel)) (fun c_5 => ?_)
    refine lv_aload_n hx hb dX9_event_67 rfl (lv_at hl 1 rfl) ?_
    refine lv_iload hx hb dX9_event_68 (lv_at hl 0 rfl) ?_
    refine yVwi (As := [.int 1]) (rest := []) C0 (g_X9_no l G S d_1 h0 1 hSh hPod_1 hm_h0 hk_h0 (by decide +kernel)) ok_X9_no (mW177 : Cond.methodLink RX9 168 yX9_no ∈ wsT) ⟨Nat.le_of_ble_eq_true rfl, Nat.le_of_ble_eq_true rfl⟩ hP hD hS hA hK hN hm_h0 hk_h0 (by decide) rfl rfl rfl hl.1 rfl (Nat.le_of_ble_eq_true rfl) ⟨Nat.le_of_ble_eq_true rfl, Nat.le_of_ble_eq_true rfl⟩ dX9_event_70 (fun r_6 d_7 H locs hr_6 hP hD hS => ?_)
    obtain ⟨hgad_7, hpad_7, hfad_7, hxd_7⟩ := hr_6
    have hfd_7 : yK [1, 38] d d_7 h0 := yK.tr hfd_1 hfad_7 (by decide)
    have hE0d_7 : (d_7.1 h0 0).toInt = (d_1.1 h0 0).toInt := congrArg Int32.toInt (hfad_7 0 (by decide))
    have hE1d_7 : (d_7.1 h0 1).toInt = (d_1.1 h0 1).toInt := congrArg Int32.toInt (hfad_7 1 (by decide))
    have hE2d_7 : (d_7.1 h0 2).toInt = (d_1.1 h0 2).toInt := congrArg Int32.toInt (hfad_7 2 (by decide))
    have hE3d_7 : (d_7.1 h0 3).toInt = (d_1.1 h0 3).toInt := congrArg Int32.toInt (hfad_7 3 (by decide))
    have hE63d_7 : (d_7.1 h0 63).toInt = (d_1.1 h0 63).toInt := congrArg Int32.toInt (hfad_7 63 (by decide))
    have hId_7 : yMI S d_7 h0 := yMI.ag hId_1 hSh hm_h0 hk_h0 hgad_7 hfad_7 (by decide) (by decide)
    have hgd_7 : yAg S [9, 45, 46, 47, 69] d d_7 := yAg.tr hgd_1 hgad_7 (by first | decide | exact fun _ h => h)
    have hPod_7 : yPo S d_7 := hpad_7 hPod_1
    refine lv_pop hx hb dX9_event_73 rfl ?_
    refine lv_iconst (v := 0) hx hb dX9_event_74 (by decide) ?_
    exact W.zret (v := 0) (ty := .boolean) hx hb hr rfl (fun t ht hW => ⟨⟨0, d_7, rfl, ⟨hgd_7, (fun _ => hPod_7), hfd_7, hId_7⟩, by rw [ht]; exact hP, hD⟩, hS.F ht⟩) hS.2.2 dX9_event_75
  · refine lv_iload_n hx hb dX9_event_9 rfl (lv_at hl 3 rfl) ?_
    refine lv_bipush (v := 7) hx hb dX9_event_10 (by decide) ?_
    refine lv_icmp_le (tgt := 19) hx hb dX9_event_12 (by decide) (fun c_8 => ?_) (fun c_8 => ?_)
    · refine lv_aload_n hx hb dX9_event_19 rfl (lv_at hl 0 rfl) ?_
      refine lv_iload_n hx hb dX9_event_20 rfl (lv_at hl 1 rfl) ?_
      refine lv_iload_n hx hb dX9_event_21 rfl (lv_at hl 2 rfl) ?_
      refine yVri (As := [.int p0, .int p1]) (rest := []) C0 (g_X9_minuteWhy l G S d_1 h0 p0 p1 hSh hm_h0 hk_h0 hId_1) ok_X9_minuteWhy (mW421 : Cond.methodLink RX9 195 yX9_minuteWhy ∈ wsT) ⟨Nat.le_of_ble_eq_true rfl, Nat.le_of_ble_eq_true rfl⟩ hP hD hK hN hm_h0 hk_h0 (by decide) rfl rfl rfl hl.1 rfl (Nat.le_of_ble_eq_true rfl) ⟨Nat.le_of_ble_eq_true rfl, Nat.le_of_ble_eq_true rfl⟩ dX9_event_22 (fun r_9 hr_9 => ?_)
      refine lv_istore (lv' := [(4, .int r_9), (0, .ref h0), (1, .int p0), (2, .int p1), (3, .int p2)]) hx hb dX9_event_25 hl (by decide) rfl (fun ls hl => ?_)
      refine lv_iload hx hb dX9_event_27 (lv_at hl 0 rfl) ?_
      refine lv_if_ne (tgt := 44) hx hb dX9_event_29 (by decide) (fun c_10 => ?_) (fun c_10 => ?_)
      · refine lv_iload hx hb dX9_event_44 (lv_at hl 0 rfl) ?_
        refine lv_if_ne (tgt := 62) hx hb dX9_event_46 (by decide) (fun c_11 => ?_) (fun c_11 => absurd c_11 c_10)
        refine lv_iload hx hb dX9_event_62 (lv_at hl 0 rfl) ?_
        refine lv_if_eq (tgt := 76) hx hb dX9_event_64 (by decide) (fun c_12 => absurd c_12 c_10) (fun c_12 => ?_)
        refine lv_aload_n hx hb dX9_event_67 rfl (lv_at hl 1 rfl) ?_
        refine lv_iload hx hb dX9_event_68 (lv_at hl 0 rfl) ?_
        have F_13 := fnlt (rfl : (p2 : Int32).toInt = (p2 : Int32).toInt) (by decide +kernel : (0 : Int32).toInt = 0) c_2
        have F_14 := fle (rfl : (p2 : Int32).toInt = (p2 : Int32).toInt) (by decide +kernel : (7 : Int32).toInt = 7) c_8
        have F_15 := fne (rfl : (r_9 : Int32).toInt = (r_9 : Int32).toInt) (by decide +kernel : (0 : Int32).toInt = 0) c_10
        have F_16 := fne (rfl : (r_9 : Int32).toInt = (r_9 : Int32).toInt) (by decide +kernel : (0 : Int32).toInt = 0) c_11
        have F_17 := fne (rfl : (r_9 : Int32).toInt = (r_9 : Int32).toInt) (by decide +kernel : (0 : Int32).toInt = 0) c_12
        refine yVwi (As := [.int r_9]) (rest := []) C0 (g_X9_no l G S d_1 h0 r_9 hSh hPod_1 hm_h0 hk_h0 (by refine ⟨?_, ?_⟩ <;> omega)) ok_X9_no (mW177 : Cond.methodLink RX9 168 yX9_no ∈ wsT) ⟨Nat.le_of_ble_eq_true rfl, Nat.le_of_ble_eq_true rfl⟩ hP hD hS hA hK hN hm_h0 hk_h0 (by decide) rfl rfl rfl hl.1 rfl (Nat.le_of_ble_eq_true rfl) ⟨Nat.le_of_ble_eq_true rfl, Nat.le_of_ble_eq_true rfl⟩ dX9_event_70 (fun r_18 d_19 H locs hr_18 hP hD hS => ?_)
        obtain ⟨hgad_19, hpad_19, hfad_19, hxd_19⟩ := hr_18
        have hfd_19 : yK [1, 38] d d_19 h0 := yK.tr hfd_1 hfad_19 (by decide)
        have hE0d_19 : (d_19.1 h0 0).toInt = (d_1.1 h0 0).toInt := congrArg Int32.toInt (hfad_19 0 (by decide))
        have hE1d_19 : (d_19.1 h0 1).toInt = (d_1.1 h0 1).toInt := congrArg Int32.toInt (hfad_19 1 (by decide))
        have hE2d_19 : (d_19.1 h0 2).toInt = (d_1.1 h0 2).toInt := congrArg Int32.toInt (hfad_19 2 (by decide))
        have hE3d_19 : (d_19.1 h0 3).toInt = (d_1.1 h0 3).toInt := congrArg Int32.toInt (hfad_19 3 (by decide))
        have hE63d_19 : (d_19.1 h0 63).toInt = (d_1.1 h0 63).toInt := congrArg Int32.toInt (hfad_19 63 (by decide))
        have hId_19 : yMI S d_19 h0 := yMI.ag hId_1 hSh hm_h0 hk_h0 hgad_19 hfad_19 (by decide) (by decide)
        have hgd_19 : yAg S [9, 45, 46, 47, 69] d d_19 := yAg.tr hgd_1 hgad_19 (by first | decide | exact fun _ h => h)
        have hPod_19 : yPo S d_19 := hpad_19 hPod_1
        refine lv_pop hx hb dX9_event_73 rfl ?_
        refine lv_iconst (v := 0) hx hb dX9_event_74 (by decide) ?_
        exact W.zret (v := 0) (ty := .boolean) hx hb hr rfl (fun t ht hW => ⟨⟨0, d_19, rfl, ⟨hgd_19, (fun _ => hPod_19), hfd_19, hId_19⟩, by rw [ht]; exact hP, hD⟩, hS.F ht⟩) hS.2.2 dX9_event_75
      · refine lv_aload_n hx hb dX9_event_32 rfl (lv_at hl 1 rfl) ?_
        refine lv_iload_n hx hb dX9_event_33 rfl (lv_at hl 2 rfl) ?_
        refine lv_iload_n hx hb dX9_event_34 rfl (lv_at hl 3 rfl) ?_
        have F_20 := fnlt (rfl : (p2 : Int32).toInt = (p2 : Int32).toInt) (by decide +kernel : (0 : Int32).toInt = 0) c_2
        have F_21 := fle (rfl : (p2 : Int32).toInt = (p2 : Int32).toInt) (by decide +kernel : (7 : Int32).toInt = 7) c_8
        have F_22 := feq (rfl : (r_9 : Int32).toInt = (r_9 : Int32).toInt) (by decide +kernel : (0 : Int32).toInt = 0) c_10
        refine yVri (As := [.int p0, .int p1]) (rest := []) C0 (g_X9_isKnown l G S d_1 h0 p0 p1 hSh hm_h0 hk_h0 (by refine ⟨?_, ?_⟩ <;> omega) (by refine ⟨?_, ?_⟩ <;> omega)) ok_X9_isKnown (mW429 : Cond.methodLink RX9 198 yX9_isKnown ∈ wsT) ⟨Nat.le_of_ble_eq_true rfl, Nat.le_of_ble_eq_true rfl⟩ hP hD hK hN hm_h0 hk_h0 (by decide) rfl rfl rfl hl.1 rfl (Nat.le_of_ble_eq_true rfl) ⟨Nat.le_of_ble_eq_true rfl, Nat.le_of_ble_eq_true rfl⟩ dX9_event_35 (fun r_23 hr_23 => ?_)
        refine lv_if_ne (tgt := 44) hx hb dX9_event_38 (by decide) (fun c_24 => ?_) (fun c_24 => ?_)
        · refine lv_iload hx hb dX9_event_44 (lv_at hl 0 rfl) ?_
          refine lv_if_ne (tgt := 62) hx hb dX9_event_46 (by decide) (fun c_25 => absurd c_10 c_25) (fun c_25 => ?_)
          refine lv_aload_n hx hb dX9_event_49 rfl (lv_at hl 1 rfl) ?_
          refine yget (ci := 9) (k := 1) (v := .int (d_1.1 h0 1)) (C := RX9) (T := TX9) (N := 67) C0 hK hP hm_h0 hk_h0 (by decide) rfl inlX9 (by decide) mW364 (fun _ h9 => h9) rfl dX9_event_50 ?_
          refine lv_topi (fun z_26 ez_26 => ?_)
          refine lv_sipush (v := 5000) hx hb dX9_event_53 (by decide) ?_
          refine lv_icmp_ne (tgt := 62) hx hb dX9_event_56 (by decide) (fun c_27 => ?_) (fun c_27 => ?_)
          · refine lv_iload hx hb dX9_event_62 (lv_at hl 0 rfl) ?_
            refine lv_if_eq (tgt := 76) hx hb dX9_event_64 (by decide) (fun c_28 => ?_) (fun c_28 => absurd c_10 c_28)
            refine lv_aload_n hx hb dX9_event_76 rfl (lv_at hl 1 rfl) ?_
            refine lv_iload_n hx hb dX9_event_77 rfl (lv_at hl 2 rfl) ?_
            refine lv_iload_n hx hb dX9_event_78 rfl (lv_at hl 3 rfl) ?_
            refine lv_iload_n hx hb dX9_event_79 rfl (lv_at hl 4 rfl) ?_
            have hCC_29 := yMI.c hId_1
            have F_30 := fne (rfl : (r_23 : Int32).toInt = (r_23 : Int32).toInt) (by decide +kernel : (0 : Int32).toInt = 0) c_24
            have F_31 := feq (rfl : (r_9 : Int32).toInt = (r_9 : Int32).toInt) (by decide +kernel : (0 : Int32).toInt = 0) c_25
            have T_32 : (z_26 : Int32).toInt = (d_1.1 h0 1).toInt := by rw [ez_26]
            have F_33 := fne (rfl : (z_26 : Int32).toInt = (z_26 : Int32).toInt) (by decide +kernel : (5000 : Int32).toInt = 5000) c_27
            have F_34 := feq (rfl : (r_9 : Int32).toInt = (r_9 : Int32).toInt) (by decide +kernel : (0 : Int32).toInt = 0) c_28
            refine yVwv (As := [.int p0, .int p1, .int p2]) (rest := []) C0 (g_X9_insert l G S d_1 h0 p0 p1 p2 hSh hPod_1 hm_h0 hk_h0 hId_1 (by omega) (by refine ⟨?_, ?_⟩ <;> omega)) ok_X9_insert (mW433 : Cond.methodLink RX9 202 yX9_insert ∈ wsT) ⟨Nat.le_of_ble_eq_true rfl, Nat.le_of_ble_eq_true rfl⟩ hP hD hS hA hK hN hm_h0 hk_h0 (by decide) rfl rfl rfl hl.1 rfl (Nat.le_of_ble_eq_true rfl) ⟨Nat.le_of_ble_eq_true rfl, Nat.le_of_ble_eq_true rfl⟩ dX9_event_80 (fun d_36 H locs hr_35 hP hD hS => ?_)
            obtain ⟨hgad_36, hpad_36, hfad_36, hxd_36⟩ := hr_35
            have hfd_36 : yK [1, 38] d d_36 h0 := yK.tr hfd_1 hfad_36 (by decide)
            have hE0d_36 : (d_36.1 h0 0).toInt = (d_1.1 h0 0).toInt := congrArg Int32.toInt (hfad_36 0 (by decide))
            have hE2d_36 : (d_36.1 h0 2).toInt = (d_1.1 h0 2).toInt := congrArg Int32.toInt (hfad_36 2 (by decide))
            have hE3d_36 : (d_36.1 h0 3).toInt = (d_1.1 h0 3).toInt := congrArg Int32.toInt (hfad_36 3 (by decide))
            have hE63d_36 : (d_36.1 h0 63).toInt = (d_1.1 h0 63).toInt := congrArg Int32.toInt (hfad_36 63 (by decide))
            have hId_36 : yMI S d_36 h0 := hxd_36.1
            have hgd_36 : yAg S [9, 45, 46, 47, 69] d d_36 := yAg.tr hgd_1 hgad_36 (by first | decide | exact fun _ h => h)
            have hPod_36 : yPo S d_36 := hpad_36 hPod_1
            refine lv_iconst (v := 1) hx hb dX9_event_83 (by decide) ?_
            exact W.zret (v := 1) (ty := .boolean) hx hb hr rfl (fun t ht hW => ⟨⟨1, d_36, rfl, ⟨hgd_36, (fun _ => hPod_36), hfd_36, hId_36⟩, by rw [ht]; exact hP, hD⟩, hS.F ht⟩) hS.2.2 dX9_event_84
          · refine lv_iconst (v := 5) hx hb dX9_event_59 (by decide) ?_
            refine lv_istore (lv' := [(4, .int 5), (0, .ref h0), (1, .int p0), (2, .int p1), (3, .int p2)]) hx hb dX9_event_60 hl (by decide) rfl (fun ls hl => ?_)
            refine lv_iload hx hb dX9_event_62 (lv_at hl 0 rfl) ?_
            refine lv_if_eq (tgt := 76) hx hb dX9_event_64 (by decide) (fun c_37 => absurd c_37 (by decide +kernel)) (fun c_37 => ?_)
            refine lv_aload_n hx hb dX9_event_67 rfl (lv_at hl 1 rfl) ?_
            refine lv_iload hx hb dX9_event_68 (lv_at hl 0 rfl) ?_
            refine yVwi (As := [.int 5]) (rest := []) C0 (g_X9_no l G S d_1 h0 5 hSh hPod_1 hm_h0 hk_h0 (by decide +kernel)) ok_X9_no (mW177 : Cond.methodLink RX9 168 yX9_no ∈ wsT) ⟨Nat.le_of_ble_eq_true rfl, Nat.le_of_ble_eq_true rfl⟩ hP hD hS hA hK hN hm_h0 hk_h0 (by decide) rfl rfl rfl hl.1 rfl (Nat.le_of_ble_eq_true rfl) ⟨Nat.le_of_ble_eq_true rfl, Nat.le_of_ble_eq_true rfl⟩ dX9_event_70 (fun r_38 d_39 H locs hr_38 hP hD hS => ?_)
            obtain ⟨hgad_39, hpad_39, hfad_39, hxd_39⟩ := hr_38
            have hfd_39 : yK [1, 38] d d_39 h0 := yK.tr hfd_1 hfad_39 (by decide)
            have hE0d_39 : (d_39.1 h0 0).toInt = (d_1.1 h0 0).toInt := congrArg Int32.toInt (hfad_39 0 (by decide))
            have hE1d_39 : (d_39.1 h0 1).toInt = (d_1.1 h0 1).toInt := congrArg Int32.toInt (hfad_39 1 (by decide))
            have hE2d_39 : (d_39.1 h0 2).toInt = (d_1.1 h0 2).toInt := congrArg Int32.toInt (hfad_39 2 (by decide))
            have hE3d_39 : (d_39.1 h0 3).toInt = (d_1.1 h0 3).toInt := congrArg Int32.toInt (hfad_39 3 (by decide))
            have hE63d_39 : (d_39.1 h0 63).toInt = (d_1.1 h0 63).toInt := congrArg Int32.toInt (hfad_39 63 (by decide))
            have hId_39 : yMI S d_39 h0 := yMI.ag hId_1 hSh hm_h0 hk_h0 hgad_39 hfad_39 (by decide) (by decide)
            have hgd_39 : yAg S [9, 45, 46, 47, 69] d d_39 := yAg.tr hgd_1 hgad_39 (by first | decide | exact fun _ h => h)
            have hPod_39 : yPo S d_39 := hpad_39 hPod_1
            refine lv_pop hx hb dX9_event_73 rfl ?_
            refine lv_iconst (v := 0) hx hb dX9_event_74 (by decide) ?_
            exact W.zret (v := 0) (ty := .boolean) hx hb hr rfl (fun t ht hW => ⟨⟨0, d_39, rfl, ⟨hgd_39, (fun _ => hPod_39), hfd_39, hId_39⟩, by rw [ht]; exact hP, hD⟩, hS.F ht⟩) hS.2.2 dX9_event_75
        · refine lv_iconst (v := 2) hx hb dX9_event_41 (by decide) ?_
          refine lv_istore (lv' := [(4, .int 2), (0, .ref h0), (1, .int p0), (2, .int p1), (3, .int p2)]) hx hb dX9_event_42 hl (by decide) rfl (fun ls hl => ?_)
          refine lv_iload hx hb dX9_event_44 (lv_at hl 0 rfl) ?_
          refine lv_if_ne (tgt := 62) hx hb dX9_event_46 (by decide) (fun c_40 => ?_) (fun c_40 => absurd c_40 (by decide +kernel))
          refine lv_iload hx hb dX9_event_62 (lv_at hl 0 rfl) ?_
          refine lv_if_eq (tgt := 76) hx hb dX9_event_64 (by decide) (fun c_41 => absurd c_41 (by decide +kernel)) (fun c_41 => ?_)
          refine lv_aload_n hx hb dX9_event_67 rfl (lv_at hl 1 rfl) ?_
          refine lv_iload hx hb dX9_event_68 (lv_at hl 0 rfl) ?_
          refine yVwi (As := [.int 2]) (rest := []) C0 (g_X9_no l G S d_1 h0 2 hSh hPod_1 hm_h0 hk_h0 (by decide +kernel)) ok_X9_no (mW177 : Cond.methodLink RX9 168 yX9_no ∈ wsT) ⟨Nat.le_of_ble_eq_true rfl, Nat.le_of_ble_eq_true rfl⟩ hP hD hS hA hK hN hm_h0 hk_h0 (by decide) rfl rfl rfl hl.1 rfl (Nat.le_of_ble_eq_true rfl) ⟨Nat.le_of_ble_eq_true rfl, Nat.le_of_ble_eq_true rfl⟩ dX9_event_70 (fun r_42 d_43 H locs hr_42 hP hD hS => ?_)
          obtain ⟨hgad_43, hpad_43, hfad_43, hxd_43⟩ := hr_42
          have hfd_43 : yK [1, 38] d d_43 h0 := yK.tr hfd_1 hfad_43 (by decide)
          have hE0d_43 : (d_43.1 h0 0).toInt = (d_1.1 h0 0).toInt := congrArg Int32.toInt (hfad_43 0 (by decide))
          have hE1d_43 : (d_43.1 h0 1).toInt = (d_1.1 h0 1).toInt := congrArg Int32.toInt (hfad_43 1 (by decide))
          have hE2d_43 : (d_43.1 h0 2).toInt = (d_1.1 h0 2).toInt := congrArg Int32.toInt (hfad_43 2 (by decide))
          have hE3d_43 : (d_43.1 h0 3).toInt = (d_1.1 h0 3).toInt := congrArg Int32.toInt (hfad_43 3 (by decide))
          have hE63d_43 : (d_43.1 h0 63).toInt = (d_1.1 h0 63).toInt := congrArg Int32.toInt (hfad_43 63 (by decide))
          have hId_43 : yMI S d_43 h0 := yMI.ag hId_1 hSh hm_h0 hk_h0 hgad_43 hfad_43 (by decide) (by decide)
          have hgd_43 : yAg S [9, 45, 46, 47, 69] d d_43 := yAg.tr hgd_1 hgad_43 (by first | decide | exact fun _ h => h)
          have hPod_43 : yPo S d_43 := hpad_43 hPod_1
          refine lv_pop hx hb dX9_event_73 rfl ?_
          refine lv_iconst (v := 0) hx hb dX9_event_74 (by decide) ?_
          exact W.zret (v := 0) (ty := .boolean) hx hb hr rfl (fun t ht hW => ⟨⟨0, d_43, rfl, ⟨hgd_43, (fun _ => hPod_43), hfd_43, hId_43⟩, by rw [ht]; exact hP, hD⟩, hS.F ht⟩) hS.2.2 dX9_event_75
    · refine lv_iconst (v := 1) hx hb dX9_event_15 (by decide) ?_
      refine lv_goto (tgt := 25) hx hb dX9_event_16 (by decide) ?_
      refine lv_istore (lv' := [(4, .int 1), (0, .ref h0), (1, .int p0), (2, .int p1), (3, .int p2)]) hx hb dX9_event_25 hl (by decide) rfl (fun ls hl => ?_)
      refine lv_iload hx hb dX9_event_27 (lv_at hl 0 rfl) ?_
      refine lv_if_ne (tgt := 44) hx hb dX9_event_29 (by decide) (fun c_44 => ?_) (fun c_44 => absurd c_44 (by decide +kernel))
      refine lv_iload hx hb dX9_event_44 (lv_at hl 0 rfl) ?_
      refine lv_if_ne (tgt := 62) hx hb dX9_event_46 (by decide) (fun c_45 => ?_) (fun c_45 => absurd c_45 (by decide +kernel))
      refine lv_iload hx hb dX9_event_62 (lv_at hl 0 rfl) ?_
      refine lv_if_eq (tgt := 76) hx hb dX9_event_64 (by decide) (fun c_46 => absurd c_46 (by decide +kernel)) (fun c_46 => ?_)
      refine lv_aload_n hx hb dX9_event_67 rfl (lv_at hl 1 rfl) ?_
      refine lv_iload hx hb dX9_event_68 (lv_at hl 0 rfl) ?_
      refine yVwi (As := [.int 1]) (rest := []) C0 (g_X9_no l G S d_1 h0 1 hSh hPod_1 hm_h0 hk_h0 (by decide +kernel)) ok_X9_no (mW177 : Cond.methodLink RX9 168 yX9_no ∈ wsT) ⟨Nat.le_of_ble_eq_true rfl, Nat.le_of_ble_eq_true rfl⟩ hP hD hS hA hK hN hm_h0 hk_h0 (by decide) rfl rfl rfl hl.1 rfl (Nat.le_of_ble_eq_true rfl) ⟨Nat.le_of_ble_eq_true rfl, Nat.le_of_ble_eq_true rfl⟩ dX9_event_70 (fun r_47 d_48 H locs hr_47 hP hD hS => ?_)
      obtain ⟨hgad_48, hpad_48, hfad_48, hxd_48⟩ := hr_47
      have hfd_48 : yK [1, 38] d d_48 h0 := yK.tr hfd_1 hfad_48 (by decide)
      have hE0d_48 : (d_48.1 h0 0).toInt = (d_1.1 h0 0).toInt := congrArg Int32.toInt (hfad_48 0 (by decide))
      have hE1d_48 : (d_48.1 h0 1).toInt = (d_1.1 h0 1).toInt := congrArg Int32.toInt (hfad_48 1 (by decide))
      have hE2d_48 : (d_48.1 h0 2).toInt = (d_1.1 h0 2).toInt := congrArg Int32.toInt (hfad_48 2 (by decide))
      have hE3d_48 : (d_48.1 h0 3).toInt = (d_1.1 h0 3).toInt := congrArg Int32.toInt (hfad_48 3 (by decide))
      have hE63d_48 : (d_48.1 h0 63).toInt = (d_1.1 h0 63).toInt := congrArg Int32.toInt (hfad_48 63 (by decide))
      have hId_48 : yMI S d_48 h0 := yMI.ag hId_1 hSh hm_h0 hk_h0 hgad_48 hfad_48 (by decide) (by decide)
      have hgd_48 : yAg S [9, 45, 46, 47, 69] d d_48 := yAg.tr hgd_1 hgad_48 (by first | decide | exact fun _ h => h)
      have hPod_48 : yPo S d_48 := hpad_48 hPod_1
      refine lv_pop hx hb dX9_event_73 rfl ?_
      refine lv_iconst (v := 0) hx hb dX9_event_74 (by decide) ?_
      exact W.zret (v := 0) (ty := .boolean) hx hb hr rfl (fun t ht hW => ⟨⟨0, d_48, rfl, ⟨hgd_48, (fun _ => hPod_48), hfd_48, hId_48⟩, by rw [ht]; exact hP, hD⟩, hS.F ht⟩) hS.2.2 dX9_event_75
theorem dX9_tear_0 : decode cX9_tear 0 = .ok (.aload_n 0, 1) := by decide +kernel
theorem dX9_tear_1 : decode cX9_tear 1 = .ok (.iconst 0, 1) := by decide +kernel
theorem dX9_tear_2 : decode cX9_tear 2 = .ok (.putfield 147, 3) := by decide +kernel
theorem dX9_tear_5 : decode cX9_tear 5 = .ok (.iload_n 3, 1) := by decide +kernel
theorem dX9_tear_6 : decode cX9_tear 6 = .ok (.ifCond .lt 10, 3) := by decide +kernel
theorem dX9_tear_9 : decode cX9_tear 9 = .ok (.iload_n 3, 1) := by decide +kernel
theorem dX9_tear_10 : decode cX9_tear 10 = .ok (.sipush 1440, 3) := by decide +kernel
theorem dX9_tear_13 : decode cX9_tear 13 = .ok (.if_icmp .lt 7, 3) := by decide +kernel
theorem dX9_tear_16 : decode cX9_tear 16 = .ok (.iconst 1, 1) := by decide +kernel
theorem dX9_tear_17 : decode cX9_tear 17 = .ok (.goto 9, 3) := by decide +kernel
theorem dX9_tear_20 : decode cX9_tear 20 = .ok (.aload_n 0, 1) := by decide +kernel
theorem dX9_tear_21 : decode cX9_tear 21 = .ok (.iload_n 1, 1) := by decide +kernel
theorem dX9_tear_22 : decode cX9_tear 22 = .ok (.iload_n 2, 1) := by decide +kernel
theorem dX9_tear_23 : decode cX9_tear 23 = .ok (.invokevirtual 206, 3) := by decide +kernel
theorem dX9_tear_26 : decode cX9_tear 26 = .ok (.istore 4, 2) := by decide +kernel
theorem dX9_tear_28 : decode cX9_tear 28 = .ok (.iload 4, 2) := by decide +kernel
theorem dX9_tear_30 : decode cX9_tear 30 = .ok (.ifCond .ne 20, 3) := by decide +kernel
theorem dX9_tear_33 : decode cX9_tear 33 = .ok (.aload_n 0, 1) := by decide +kernel
theorem dX9_tear_34 : decode cX9_tear 34 = .ok (.getfield 44, 3) := by decide +kernel
theorem dX9_tear_37 : decode cX9_tear 37 = .ok (.bipush 90, 2) := by decide +kernel
theorem dX9_tear_39 : decode cX9_tear 39 = .ok (.iload_n 1, 1) := by decide +kernel
theorem dX9_tear_40 : decode cX9_tear 40 = .ok (.imul, 1) := by decide +kernel
theorem dX9_tear_41 : decode cX9_tear 41 = .ok (.iload_n 2, 1) := by decide +kernel
theorem dX9_tear_42 : decode cX9_tear 42 = .ok (.iadd, 1) := by decide +kernel
theorem dX9_tear_43 : decode cX9_tear 43 = .ok (.baload, 1) := by decide +kernel
theorem dX9_tear_44 : decode cX9_tear 44 = .ok (.ifCond .eq 6, 3) := by decide +kernel
theorem dX9_tear_47 : decode cX9_tear 47 = .ok (.iconst 2, 1) := by decide +kernel
theorem dX9_tear_48 : decode cX9_tear 48 = .ok (.istore 4, 2) := by decide +kernel
theorem dX9_tear_50 : decode cX9_tear 50 = .ok (.iload 4, 2) := by decide +kernel
theorem dX9_tear_52 : decode cX9_tear 52 = .ok (.ifCond .eq 10, 3) := by decide +kernel
theorem dX9_tear_55 : decode cX9_tear 55 = .ok (.aload_n 0, 1) := by decide +kernel
theorem dX9_tear_56 : decode cX9_tear 56 = .ok (.iload 4, 2) := by decide +kernel
theorem dX9_tear_58 : decode cX9_tear 58 = .ok (.invokevirtual 168, 3) := by decide +kernel
theorem dX9_tear_61 : decode cX9_tear 61 = .ok (.ireturn, 1) := by decide +kernel
theorem dX9_tear_62 : decode cX9_tear 62 = .ok (.iload_n 3, 1) := by decide +kernel
theorem dX9_tear_63 : decode cX9_tear 63 = .ok (.aload_n 0, 1) := by decide +kernel
theorem dX9_tear_64 : decode cX9_tear 64 = .ok (.getfield 40, 3) := by decide +kernel
theorem dX9_tear_67 : decode cX9_tear 67 = .ok (.bipush 90, 2) := by decide +kernel
theorem dX9_tear_69 : decode cX9_tear 69 = .ok (.iload_n 1, 1) := by decide +kernel
theorem dX9_tear_70 : decode cX9_tear 70 = .ok (.imul, 1) := by decide +kernel
theorem dX9_tear_71 : decode cX9_tear 71 = .ok (.iload_n 2, 1) := by decide +kernel
theorem dX9_tear_72 : decode cX9_tear 72 = .ok (.iadd, 1) := by decide +kernel
theorem dX9_tear_73 : decode cX9_tear 73 = .ok (.saload, 1) := by decide +kernel
theorem dX9_tear_74 : decode cX9_tear 74 = .ok (.if_icmp .ge 16, 3) := by decide +kernel
theorem dX9_tear_77 : decode cX9_tear 77 = .ok (.aload_n 0, 1) := by decide +kernel
theorem dX9_tear_78 : decode cX9_tear 78 = .ok (.getfield 40, 3) := by decide +kernel
theorem dX9_tear_81 : decode cX9_tear 81 = .ok (.bipush 90, 2) := by decide +kernel
theorem dX9_tear_83 : decode cX9_tear 83 = .ok (.iload_n 1, 1) := by decide +kernel
theorem dX9_tear_84 : decode cX9_tear 84 = .ok (.imul, 1) := by decide +kernel
theorem dX9_tear_85 : decode cX9_tear 85 = .ok (.iload_n 2, 1) := by decide +kernel
theorem dX9_tear_86 : decode cX9_tear 86 = .ok (.iadd, 1) := by decide +kernel
theorem dX9_tear_87 : decode cX9_tear 87 = .ok (.iload_n 3, 1) := by decide +kernel
theorem dX9_tear_88 : decode cX9_tear 88 = .ok (.i2s, 1) := by decide +kernel
theorem dX9_tear_89 : decode cX9_tear 89 = .ok (.sastore, 1) := by decide +kernel
theorem dX9_tear_90 : decode cX9_tear 90 = .ok (.aload_n 0, 1) := by decide +kernel
theorem dX9_tear_91 : decode cX9_tear 91 = .ok (.iload_n 1, 1) := by decide +kernel
theorem dX9_tear_92 : decode cX9_tear 92 = .ok (.sipush 1440, 3) := by decide +kernel
theorem dX9_tear_95 : decode cX9_tear 95 = .ok (.iload_n 2, 1) := by decide +kernel
theorem dX9_tear_96 : decode cX9_tear 96 = .ok (.imul, 1) := by decide +kernel
theorem dX9_tear_97 : decode cX9_tear 97 = .ok (.aload_n 0, 1) := by decide +kernel
theorem dX9_tear_98 : decode cX9_tear 98 = .ok (.getfield 40, 3) := by decide +kernel
theorem dX9_tear_101 : decode cX9_tear 101 = .ok (.bipush 90, 2) := by decide +kernel
theorem dX9_tear_103 : decode cX9_tear 103 = .ok (.iload_n 1, 1) := by decide +kernel
theorem dX9_tear_104 : decode cX9_tear 104 = .ok (.imul, 1) := by decide +kernel
theorem dX9_tear_105 : decode cX9_tear 105 = .ok (.iload_n 2, 1) := by decide +kernel
theorem dX9_tear_106 : decode cX9_tear 106 = .ok (.iadd, 1) := by decide +kernel
theorem dX9_tear_107 : decode cX9_tear 107 = .ok (.saload, 1) := by decide +kernel
theorem dX9_tear_108 : decode cX9_tear 108 = .ok (.iadd, 1) := by decide +kernel
theorem dX9_tear_109 : decode cX9_tear 109 = .ok (.sipush 1440, 3) := by decide +kernel
theorem dX9_tear_112 : decode cX9_tear 112 = .ok (.iload_n 2, 1) := by decide +kernel
theorem dX9_tear_113 : decode cX9_tear 113 = .ok (.imul, 1) := by decide +kernel
theorem dX9_tear_114 : decode cX9_tear 114 = .ok (.sipush 1440, 3) := by decide +kernel
theorem dX9_tear_117 : decode cX9_tear 117 = .ok (.iadd, 1) := by decide +kernel
theorem dX9_tear_118 : decode cX9_tear 118 = .ok (.invokevirtual 183, 3) := by decide +kernel
theorem dX9_tear_121 : decode cX9_tear 121 = .ok (.ireturn, 1) := by decide +kernel
set_option maxHeartbeats 4000000 in
set_option maxRecDepth 100000 in
theorem g_X9_tear (l : Launch) (G : xG) (S : yS) (d : yD) (h0 : Nat) (p0 : Int32) (p1 : Int32) (p2 : Int32) (hSh : ySh S) (hPo : yPo S d) (hm_h0 : h0 ∈ S.1) (hk_h0 : S.2.1 h0 = 9) (hI : yMI S d h0) : xWi l G yX9_tear cX9_tear 5 (some .int) 3 65 0 0 [.ref h0, .int p0, .int p1, .int p2] (yW G S d) (fun r (u : yD) => yAg S [9, 42, 45, 46, 47, 69] d u ∧ (yPo S d → yPo S u) ∧ yK [1, 38] d u h0 ∧ (yMI S u h0)) (fun u => yW G S u) := by
  intro sz
  refine xstart (by decide) (Nat.le_of_ble_eq_true rfl) (fun p e s m args below meth c ls C0 hr hlocks hin hsz hP hK hD hN hl => ?_)
  obtain ⟨hx, hb, hml, hown, htl⟩ := id C0
  subst hsz
  have hD := hD.self (sz := s.heap.size)
  generalize hAe : va_A (yW G S d) s.heap.size = A at hD ⊢
  have hA : ∀ q : Nat, s.heap.size ≤ q → A q := fun q h => by rw [← hAe]; exact Or.inr h
  have hS : va_S A s.heap s.heap [] := va_S.rf
  have hg0 : yAg S [9, 42, 45, 46, 47, 69] d d := yAg.rf
  have hl : lv_has ls 5 [(0, .ref h0), (1, .int p0), (2, .int p1), (3, .int p2)] := hl
  refine lv_aload_n hx hb dX9_tear_0 rfl (lv_at hl 0 rfl) ?_
  refine lv_iconst (v := 0) hx hb dX9_tear_1 (by decide) ?_
  refine yputI (ci := 9) (k := 38) (ty := .int) (C := RX9) (T := TX9) (N := 67) C0 hK hP hD hS hm_h0 hk_h0 (by decide) rfl inlX9 tyX9 tyX9_ok nmX9 (by decide) mW175 (fun _ h9 => h9) rfl (by decide +kernel) rfl rfl (Nat.le_of_ble_eq_true rfl) ysi_9_38 dX9_tear_2 (fun H locs hP hD hS => ?_)
  obtain ⟨d_1, ed_1⟩ : ∃ z : yD, z = yi d h0 38 0 := ⟨_, rfl⟩
  rw [← ed_1] at hP hD
  have hgd_1 : yAg S [9, 42, 45, 46, 47, 69] d d_1 := by rw [ed_1]; exact yAg.i hg0 (by rw [hk_h0]; decide)
  have hPod_1 : yPo S d_1 := by rw [ed_1]; exact yPo.i hPo hk_h0 (Or.inl rfl)
  have hfd_1 : yK [1, 38] d d_1 h0 := by rw [ed_1]; exact yK.i yK.rf (by decide)
  have hId_1 : yMI S d_1 h0 := yMI.ag hI hSh hm_h0 hk_h0 (show yAg S [9] d d_1 from by rw [ed_1]; exact yAg.i yAg.rf (by rw [hk_h0]; decide)) (show yK [38] d d_1 h0 from by rw [ed_1]; exact yK.i yK.rf (by decide)) (by decide) (by decide)
  have hE0d_1 : (d_1.1 h0 0).toInt = (d.1 h0 0).toInt := congrArg Int32.toInt ((show yK [38] d d_1 h0 from by rw [ed_1]; exact yK.i yK.rf (by decide)) 0 (by decide))
  have hE1d_1 : (d_1.1 h0 1).toInt = (d.1 h0 1).toInt := congrArg Int32.toInt ((show yK [38] d d_1 h0 from by rw [ed_1]; exact yK.i yK.rf (by decide)) 1 (by decide))
  have hE2d_1 : (d_1.1 h0 2).toInt = (d.1 h0 2).toInt := congrArg Int32.toInt ((show yK [38] d d_1 h0 from by rw [ed_1]; exact yK.i yK.rf (by decide)) 2 (by decide))
  have hE3d_1 : (d_1.1 h0 3).toInt = (d.1 h0 3).toInt := congrArg Int32.toInt ((show yK [38] d d_1 h0 from by rw [ed_1]; exact yK.i yK.rf (by decide)) 3 (by decide))
  have hE63d_1 : (d_1.1 h0 63).toInt = (d.1 h0 63).toInt := congrArg Int32.toInt ((show yK [38] d d_1 h0 from by rw [ed_1]; exact yK.i yK.rf (by decide)) 63 (by decide))
  refine lv_iload_n hx hb dX9_tear_5 rfl (lv_at hl 3 rfl) ?_
  refine lv_if_lt (tgt := 16) hx hb dX9_tear_6 (by decide) (fun c_2 => ?_) (fun c_2 => ?_)
  · refine lv_iconst (v := 1) hx hb dX9_tear_16 (by decide) ?_
    refine lv_goto (tgt := 26) hx hb dX9_tear_17 (by decide) ?_
    refine lv_istore (lv' := [(4, .int 1), (0, .ref h0), (1, .int p0), (2, .int p1), (3, .int p2)]) hx hb dX9_tear_26 hl (by decide) rfl (fun ls hl => ?_)
    refine lv_iload hx hb dX9_tear_28 (lv_at hl 0 rfl) ?_
    refine lv_if_ne (tgt := 50) hx hb dX9_tear_30 (by decide) (fun c_3 => ?_) (fun c_3 => absurd c_3 (by decide +kernel))
    refine lv_iload hx hb dX9_tear_50 (lv_at hl 0 rfl) ?_
    refine lv_if_eq (tgt := 62) hx hb dX9_tear_52 (by decide) (fun c_4 => absurd c_4 (by decide +kernel)) (fun c_4 => ?_)
    refine lv_aload_n hx hb dX9_tear_55 rfl (lv_at hl 1 rfl) ?_
    refine lv_iload hx hb dX9_tear_56 (lv_at hl 0 rfl) ?_
    refine yVwi (As := [.int 1]) (rest := []) C0 (g_X9_no l G S d_1 h0 1 hSh hPod_1 hm_h0 hk_h0 (by decide +kernel)) ok_X9_no (mW177 : Cond.methodLink RX9 168 yX9_no ∈ wsT) ⟨Nat.le_of_ble_eq_true rfl, Nat.le_of_ble_eq_true rfl⟩ hP hD hS hA hK hN hm_h0 hk_h0 (by decide) rfl rfl rfl hl.1 rfl (Nat.le_of_ble_eq_true rfl) ⟨Nat.le_of_ble_eq_true rfl, Nat.le_of_ble_eq_true rfl⟩ dX9_tear_58 (fun r_5 d_6 H locs hr_5 hP hD hS => ?_)
    obtain ⟨hgad_6, hpad_6, hfad_6, hxd_6⟩ := hr_5
    have hfd_6 : yK [1, 38] d d_6 h0 := yK.tr hfd_1 hfad_6 (by decide)
    have hE0d_6 : (d_6.1 h0 0).toInt = (d_1.1 h0 0).toInt := congrArg Int32.toInt (hfad_6 0 (by decide))
    have hE1d_6 : (d_6.1 h0 1).toInt = (d_1.1 h0 1).toInt := congrArg Int32.toInt (hfad_6 1 (by decide))
    have hE2d_6 : (d_6.1 h0 2).toInt = (d_1.1 h0 2).toInt := congrArg Int32.toInt (hfad_6 2 (by decide))
    have hE3d_6 : (d_6.1 h0 3).toInt = (d_1.1 h0 3).toInt := congrArg Int32.toInt (hfad_6 3 (by decide))
    have hE63d_6 : (d_6.1 h0 63).toInt = (d_1.1 h0 63).toInt := congrArg Int32.toInt (hfad_6 63 (by decide))
    have hId_6 : yMI S d_6 h0 := yMI.ag hId_1 hSh hm_h0 hk_h0 hgad_6 hfad_6 (by decide) (by decide)
    have hgd_6 : yAg S [9, 42, 45, 46, 47, 69] d d_6 := yAg.tr hgd_1 hgad_6 (by first | decide | exact fun _ h => h)
    have hPod_6 : yPo S d_6 := hpad_6 hPod_1
    exact W.iret (v := r_5) hx hb hr (fun t ht hW => ⟨⟨r_5, d_6, rfl, ⟨hgd_6, (fun _ => hPod_6), hfd_6, hId_6⟩, by rw [ht]; exact hP, hD⟩, hS.F ht⟩) hS.2.2 dX9_tear_61
  · refine lv_iload_n hx hb dX9_tear_9 rfl (lv_at hl 3 rfl) ?_
    refine lv_sipush (v := 1440) hx hb dX9_tear_10 (by decide) ?_
    refine lv_icmp_lt (tgt := 20) hx hb dX9_tear_13 (by decide) (fun c_7 => ?_) (fun c_7 => ?_)
    · refine lv_aload_n hx hb dX9_tear_20 rfl (lv_at hl 0 rfl) ?_
      refine lv_iload_n hx hb dX9_tear_21 rfl (lv_at hl 1 rfl) ?_
      refine lv_iload_n hx hb dX9_tear_22 rfl (lv_at hl 2 rfl) ?_
      refine yVri (As := [.int p0, .int p1]) (rest := []) C0 (g_X9_dayWhy l G S d_1 h0 p0 p1 hSh hm_h0 hk_h0 hId_1) ok_X9_dayWhy (mW450 : Cond.methodLink RX9 206 yX9_dayWhy ∈ wsT) ⟨Nat.le_of_ble_eq_true rfl, Nat.le_of_ble_eq_true rfl⟩ hP hD hK hN hm_h0 hk_h0 (by decide) rfl rfl rfl hl.1 rfl (Nat.le_of_ble_eq_true rfl) ⟨Nat.le_of_ble_eq_true rfl, Nat.le_of_ble_eq_true rfl⟩ dX9_tear_23 (fun r_8 hr_8 => ?_)
      refine lv_istore (lv' := [(4, .int r_8), (0, .ref h0), (1, .int p0), (2, .int p1), (3, .int p2)]) hx hb dX9_tear_26 hl (by decide) rfl (fun ls hl => ?_)
      refine lv_iload hx hb dX9_tear_28 (lv_at hl 0 rfl) ?_
      refine lv_if_ne (tgt := 50) hx hb dX9_tear_30 (by decide) (fun c_9 => ?_) (fun c_9 => ?_)
      · refine lv_iload hx hb dX9_tear_50 (lv_at hl 0 rfl) ?_
        refine lv_if_eq (tgt := 62) hx hb dX9_tear_52 (by decide) (fun c_10 => absurd c_10 c_9) (fun c_10 => ?_)
        refine lv_aload_n hx hb dX9_tear_55 rfl (lv_at hl 1 rfl) ?_
        refine lv_iload hx hb dX9_tear_56 (lv_at hl 0 rfl) ?_
        have F_11 := fnlt (rfl : (p2 : Int32).toInt = (p2 : Int32).toInt) (by decide +kernel : (0 : Int32).toInt = 0) c_2
        have F_12 := flt (rfl : (p2 : Int32).toInt = (p2 : Int32).toInt) (by decide +kernel : (1440 : Int32).toInt = 1440) c_7
        have F_13 := fne (rfl : (r_8 : Int32).toInt = (r_8 : Int32).toInt) (by decide +kernel : (0 : Int32).toInt = 0) c_9
        have F_14 := fne (rfl : (r_8 : Int32).toInt = (r_8 : Int32).toInt) (by decide +kernel : (0 : Int32).toInt = 0) c_10
        refine yVwi (As := [.int r_8]) (rest := []) C0 (g_X9_no l G S d_1 h0 r_8 hSh hPod_1 hm_h0 hk_h0 (by refine ⟨?_, ?_⟩ <;> omega)) ok_X9_no (mW177 : Cond.methodLink RX9 168 yX9_no ∈ wsT) ⟨Nat.le_of_ble_eq_true rfl, Nat.le_of_ble_eq_true rfl⟩ hP hD hS hA hK hN hm_h0 hk_h0 (by decide) rfl rfl rfl hl.1 rfl (Nat.le_of_ble_eq_true rfl) ⟨Nat.le_of_ble_eq_true rfl, Nat.le_of_ble_eq_true rfl⟩ dX9_tear_58 (fun r_15 d_16 H locs hr_15 hP hD hS => ?_)
        obtain ⟨hgad_16, hpad_16, hfad_16, hxd_16⟩ := hr_15
        have hfd_16 : yK [1, 38] d d_16 h0 := yK.tr hfd_1 hfad_16 (by decide)
        have hE0d_16 : (d_16.1 h0 0).toInt = (d_1.1 h0 0).toInt := congrArg Int32.toInt (hfad_16 0 (by decide))
        have hE1d_16 : (d_16.1 h0 1).toInt = (d_1.1 h0 1).toInt := congrArg Int32.toInt (hfad_16 1 (by decide))
        have hE2d_16 : (d_16.1 h0 2).toInt = (d_1.1 h0 2).toInt := congrArg Int32.toInt (hfad_16 2 (by decide))
        have hE3d_16 : (d_16.1 h0 3).toInt = (d_1.1 h0 3).toInt := congrArg Int32.toInt (hfad_16 3 (by decide))
        have hE63d_16 : (d_16.1 h0 63).toInt = (d_1.1 h0 63).toInt := congrArg Int32.toInt (hfad_16 63 (by decide))
        have hId_16 : yMI S d_16 h0 := yMI.ag hId_1 hSh hm_h0 hk_h0 hgad_16 hfad_16 (by decide) (by decide)
        have hgd_16 : yAg S [9, 42, 45, 46, 47, 69] d d_16 := yAg.tr hgd_1 hgad_16 (by first | decide | exact fun _ h => h)
        have hPod_16 : yPo S d_16 := hpad_16 hPod_1
        exact W.iret (v := r_15) hx hb hr (fun t ht hW => ⟨⟨r_15, d_16, rfl, ⟨hgd_16, (fun _ => hPod_16), hfd_16, hId_16⟩, by rw [ht]; exact hP, hD⟩, hS.F ht⟩) hS.2.2 dX9_tear_61
      · refine lv_aload_n hx hb dX9_tear_33 rfl (lv_at hl 1 rfl) ?_
        refine yget (ci := 9) (k := 13) (v := .ref (S.2.2.1 h0 13)) (C := RX9) (T := TX9) (N := 67) C0 hK hP hm_h0 hk_h0 (by decide) rfl inlX9 (by decide) mW120 (fun _ h9 => h9) rfl dX9_tear_34 ?_
        obtain ⟨hmy_17, hky_17⟩ := ySh.f9_13 hSh _ hm_h0 hk_h0
        refine lv_bipush (v := 90) hx hb dX9_tear_37 (by decide) ?_
        refine lv_iload_n hx hb dX9_tear_39 rfl (lv_at hl 2 rfl) ?_
        refine lv_imul hx hb dX9_tear_40 ?_
        refine lv_topi (fun z_18 ez_18 => ?_)
        refine lv_iload_n hx hb dX9_tear_41 rfl (lv_at hl 3 rfl) ?_
        refine lv_iadd hx hb dX9_tear_42 ?_
        refine lv_topi (fun z_19 ez_19 => ?_)
        have hCC_20 := yMI.c hId_1
        have F_21 := fnlt (rfl : (p2 : Int32).toInt = (p2 : Int32).toInt) (by decide +kernel : (0 : Int32).toInt = 0) c_2
        have F_22 := flt (rfl : (p2 : Int32).toInt = (p2 : Int32).toInt) (by decide +kernel : (1440 : Int32).toInt = 1440) c_7
        have F_23 := feq (rfl : (r_8 : Int32).toInt = (r_8 : Int32).toInt) (by decide +kernel : (0 : Int32).toInt = 0) c_9
        have T_25 : (z_18 : Int32).toInt = 90 * (p0 : Int32).toInt := tmul ez_18 (by decide +kernel : (90 : Int32).toInt = 90) (rfl : (p0 : Int32).toInt = (p0 : Int32).toInt) (by omega) (by omega)
        have T_24 : (z_19 : Int32).toInt = (z_18 : Int32).toInt + (p1 : Int32).toInt := tadd ez_19 (rfl : (z_18 : Int32).toInt = (z_18 : Int32).toInt) (rfl : (p1 : Int32).toInt = (p1 : Int32).toInt) (by omega) (by omega)
        refine yaldZ C0 hK hP hmy_17 hky_17 (by decide) rfl 3 rfl (xinT 720 rfl (by omega) (by omega)) dX9_tear_43 ?_
        refine lv_topi (fun z_26 ez_26 => ?_)
        refine lv_if_eq (tgt := 50) hx hb dX9_tear_44 (by decide) (fun c_27 => ?_) (fun c_27 => ?_)
        · refine lv_iload hx hb dX9_tear_50 (lv_at hl 0 rfl) ?_
          refine lv_if_eq (tgt := 62) hx hb dX9_tear_52 (by decide) (fun c_28 => ?_) (fun c_28 => absurd c_9 c_28)
          refine lv_iload_n hx hb dX9_tear_62 rfl (lv_at hl 4 rfl) ?_
          refine lv_aload_n hx hb dX9_tear_63 rfl (lv_at hl 1 rfl) ?_
          refine yget (ci := 9) (k := 12) (v := .ref (S.2.2.1 h0 12)) (C := RX9) (T := TX9) (N := 67) C0 hK hP hm_h0 hk_h0 (by decide) rfl inlX9 (by decide) mW118 (fun _ h9 => h9) rfl dX9_tear_64 ?_
          obtain ⟨hmy_29, hky_29⟩ := ySh.f9_12 hSh _ hm_h0 hk_h0
          refine lv_bipush (v := 90) hx hb dX9_tear_67 (by decide) ?_
          refine lv_iload_n hx hb dX9_tear_69 rfl (lv_at hl 2 rfl) ?_
          refine lv_imul hx hb dX9_tear_70 ?_
          refine lv_topi (fun z_30 ez_30 => ?_)
          refine lv_iload_n hx hb dX9_tear_71 rfl (lv_at hl 3 rfl) ?_
          refine lv_iadd hx hb dX9_tear_72 ?_
          refine lv_topi (fun z_31 ez_31 => ?_)
          have F_33 := feq (rfl : (z_26 : Int32).toInt = (z_26 : Int32).toInt) (by decide +kernel : (0 : Int32).toInt = 0) c_27
          have F_34 := feq (rfl : (r_8 : Int32).toInt = (r_8 : Int32).toInt) (by decide +kernel : (0 : Int32).toInt = 0) c_28
          have T_36 : (z_30 : Int32).toInt = 90 * (p0 : Int32).toInt := tmul ez_30 (by decide +kernel : (90 : Int32).toInt = 90) (rfl : (p0 : Int32).toInt = (p0 : Int32).toInt) (by omega) (by omega)
          have T_35 : (z_31 : Int32).toInt = (z_30 : Int32).toInt + (p1 : Int32).toInt := tadd ez_31 (rfl : (z_30 : Int32).toInt = (z_30 : Int32).toInt) (rfl : (p1 : Int32).toInt = (p1 : Int32).toInt) (by omega) (by omega)
          refine yaldS C0 hK hP hmy_29 hky_29 (by decide) rfl 2 rfl (xinT 720 rfl (by omega) (by omega)) dX9_tear_73 ?_
          refine lv_topi (fun z_37 ez_37 => ?_)
          refine lv_icmp_ge (tgt := 90) hx hb dX9_tear_74 (by decide) (fun c_38 => ?_) (fun c_38 => ?_)
          · refine lv_aload_n hx hb dX9_tear_90 rfl (lv_at hl 1 rfl) ?_
            refine lv_iload_n hx hb dX9_tear_91 rfl (lv_at hl 2 rfl) ?_
            refine lv_sipush (v := 1440) hx hb dX9_tear_92 (by decide) ?_
            refine lv_iload_n hx hb dX9_tear_95 rfl (lv_at hl 3 rfl) ?_
            refine lv_imul hx hb dX9_tear_96 ?_
            refine lv_topi (fun z_39 ez_39 => ?_)
            refine lv_aload_n hx hb dX9_tear_97 rfl (lv_at hl 1 rfl) ?_
            refine yget (ci := 9) (k := 12) (v := .ref (S.2.2.1 h0 12)) (C := RX9) (T := TX9) (N := 67) C0 hK hP hm_h0 hk_h0 (by decide) rfl inlX9 (by decide) mW118 (fun _ h9 => h9) rfl dX9_tear_98 ?_
            refine lv_bipush (v := 90) hx hb dX9_tear_101 (by decide) ?_
            refine lv_iload_n hx hb dX9_tear_103 rfl (lv_at hl 2 rfl) ?_
            refine lv_imul hx hb dX9_tear_104 ?_
            refine lv_topi (fun z_40 ez_40 => ?_)
            refine lv_iload_n hx hb dX9_tear_105 rfl (lv_at hl 3 rfl) ?_
            refine lv_iadd hx hb dX9_tear_106 ?_
            refine lv_topi (fun z_41 ez_41 => ?_)
            have F_43 := fle (rfl : (z_37 : Int32).toInt = (z_37 : Int32).toInt) (rfl : (p2 : Int32).toInt = (p2 : Int32).toInt) c_38
            have T_45 : (z_40 : Int32).toInt = 90 * (p0 : Int32).toInt := tmul ez_40 (by decide +kernel : (90 : Int32).toInt = 90) (rfl : (p0 : Int32).toInt = (p0 : Int32).toInt) (by omega) (by omega)
            have T_44 : (z_41 : Int32).toInt = (z_40 : Int32).toInt + (p1 : Int32).toInt := tadd ez_41 (rfl : (z_40 : Int32).toInt = (z_40 : Int32).toInt) (rfl : (p1 : Int32).toInt = (p1 : Int32).toInt) (by omega) (by omega)
            refine yaldS C0 hK hP hmy_29 hky_29 (by decide) rfl 2 rfl (xinT 720 rfl (by omega) (by omega)) dX9_tear_107 ?_
            refine lv_topi (fun z_46 ez_46 => ?_)
            refine lv_iadd hx hb dX9_tear_108 ?_
            refine lv_topi (fun z_47 ez_47 => ?_)
            refine lv_sipush (v := 1440) hx hb dX9_tear_109 (by decide) ?_
            refine lv_iload_n hx hb dX9_tear_112 rfl (lv_at hl 3 rfl) ?_
            refine lv_imul hx hb dX9_tear_113 ?_
            refine lv_topi (fun z_48 ez_48 => ?_)
            refine lv_sipush (v := 1440) hx hb dX9_tear_114 (by decide) ?_
            refine lv_iadd hx hb dX9_tear_117 ?_
            refine lv_topi (fun z_49 ez_49 => ?_)
            refine yVwi (As := [.int p0, .int z_47, .int z_49]) (rest := []) C0 (g_X9_clear l G S d_1 h0 p0 z_47 z_49 hSh hPod_1 hm_h0 hk_h0 hId_1) ok_X9_clear (mW360 : Cond.methodLink RX9 183 yX9_clear ∈ wsT) ⟨Nat.le_of_ble_eq_true rfl, Nat.le_of_ble_eq_true rfl⟩ hP hD hS hA hK hN hm_h0 hk_h0 (by decide) rfl rfl rfl hl.1 rfl (Nat.le_of_ble_eq_true rfl) ⟨Nat.le_of_ble_eq_true rfl, Nat.le_of_ble_eq_true rfl⟩ dX9_tear_118 (fun r_50 d_51 H locs hr_50 hP hD hS => ?_)
            obtain ⟨hgad_51, hpad_51, hfad_51, hxd_51⟩ := hr_50
            have hfd_51 : yK [1, 38] d d_51 h0 := yK.tr hfd_1 hfad_51 (by decide)
            have hE0d_51 : (d_51.1 h0 0).toInt = (d_1.1 h0 0).toInt := congrArg Int32.toInt (hfad_51 0 (by decide))
            have hE2d_51 : (d_51.1 h0 2).toInt = (d_1.1 h0 2).toInt := congrArg Int32.toInt (hfad_51 2 (by decide))
            have hE3d_51 : (d_51.1 h0 3).toInt = (d_1.1 h0 3).toInt := congrArg Int32.toInt (hfad_51 3 (by decide))
            have hE63d_51 : (d_51.1 h0 63).toInt = (d_1.1 h0 63).toInt := congrArg Int32.toInt (hfad_51 63 (by decide))
            have hId_51 : yMI S d_51 h0 := hxd_51.1
            have hgd_51 : yAg S [9, 42, 45, 46, 47, 69] d d_51 := yAg.tr hgd_1 hgad_51 (by first | decide | exact fun _ h => h)
            have hPod_51 : yPo S d_51 := hpad_51 hPod_1
            exact W.iret (v := r_50) hx hb hr (fun t ht hW => ⟨⟨r_50, d_51, rfl, ⟨hgd_51, (fun _ => hPod_51), hfd_51, hId_51⟩, by rw [ht]; exact hP, hD⟩, hS.F ht⟩) hS.2.2 dX9_tear_121
          · refine lv_aload_n hx hb dX9_tear_77 rfl (lv_at hl 1 rfl) ?_
            refine yget (ci := 9) (k := 12) (v := .ref (S.2.2.1 h0 12)) (C := RX9) (T := TX9) (N := 67) C0 hK hP hm_h0 hk_h0 (by decide) rfl inlX9 (by decide) mW118 (fun _ h9 => h9) rfl dX9_tear_78 ?_
            refine lv_bipush (v := 90) hx hb dX9_tear_81 (by decide) ?_
            refine lv_iload_n hx hb dX9_tear_83 rfl (lv_at hl 2 rfl) ?_
            refine lv_imul hx hb dX9_tear_84 ?_
            refine lv_topi (fun z_52 ez_52 => ?_)
            refine lv_iload_n hx hb dX9_tear_85 rfl (lv_at hl 3 rfl) ?_
            refine lv_iadd hx hb dX9_tear_86 ?_
            refine lv_topi (fun z_53 ez_53 => ?_)
            refine lv_iload_n hx hb dX9_tear_87 rfl (lv_at hl 4 rfl) ?_
            refine lv_i2s hx hb dX9_tear_88 rfl ?_
            refine lv_topi (fun z_54 ez_54 => ?_)
            have F_56 := fnle (rfl : (z_37 : Int32).toInt = (z_37 : Int32).toInt) (rfl : (p2 : Int32).toInt = (p2 : Int32).toInt) c_38
            have T_58 : (z_52 : Int32).toInt = 90 * (p0 : Int32).toInt := tmul ez_52 (by decide +kernel : (90 : Int32).toInt = 90) (rfl : (p0 : Int32).toInt = (p0 : Int32).toInt) (by omega) (by omega)
            have T_57 : (z_53 : Int32).toInt = (z_52 : Int32).toInt + (p1 : Int32).toInt := tadd ez_53 (rfl : (z_52 : Int32).toInt = (z_52 : Int32).toInt) (rfl : (p1 : Int32).toInt = (p1 : Int32).toInt) (by omega) (by omega)
            refine yastS C0 hK hP hD hS hmy_29 hky_29 (by decide) rfl 2 rfl (xinT 720 rfl (by omega) (by omega)) dX9_tear_89 (fun H locs hP hD hS => ?_)
            obtain ⟨d_59, ed_59⟩ : ∃ z : yD, z = ycs d_1 (S.2.2.1 h0 12) (upd (d_1.2.2.2.1 (S.2.2.1 h0 12)) (z_53 : Int32).toNatClampNeg (vp_nar .short z_54)) := ⟨_, rfl⟩
            rw [← ed_59] at hP hD
            have hgd_59 : yAg S [9, 42, 45, 46, 47, 69] d d_59 := by rw [ed_59]; exact yAg.cs hgd_1 (by rw [hky_29]; decide)
            have hPod_59 : yPo S d_59 := by rw [ed_59]; exact hPod_1
            have hfd_59 : yK [1, 38] d d_59 h0 := yK.ag hfd_1 (show yAg S [42] d_1 d_59 from by rw [ed_59]; exact yAg.cs yAg.rf (by rw [hky_29]; decide)) (by rw [hk_h0]; decide)
            have hId_59 : yMI S d_59 h0 := yMI.ag hId_1 hSh hm_h0 hk_h0 (show yAg S [42] d_1 d_59 from by rw [ed_59]; exact yAg.cs yAg.rf (by rw [hky_29]; decide)) (yK.ag (F := []) yK.rf (show yAg S [42] d_1 d_59 from by rw [ed_59]; exact yAg.cs yAg.rf (by rw [hky_29]; decide)) (by rw [hk_h0]; decide)) (by decide) (by decide)
            have hE0d_59 : (d_59.1 h0 0).toInt = (d_1.1 h0 0).toInt := congrArg Int32.toInt ((yK.ag (F := []) yK.rf (show yAg S [42] d_1 d_59 from by rw [ed_59]; exact yAg.cs yAg.rf (by rw [hky_29]; decide)) (by rw [hk_h0]; decide)) 0 (by decide))
            have hE1d_59 : (d_59.1 h0 1).toInt = (d_1.1 h0 1).toInt := congrArg Int32.toInt ((yK.ag (F := []) yK.rf (show yAg S [42] d_1 d_59 from by rw [ed_59]; exact yAg.cs yAg.rf (by rw [hky_29]; decide)) (by rw [hk_h0]; decide)) 1 (by decide))
            have hE2d_59 : (d_59.1 h0 2).toInt = (d_1.1 h0 2).toInt := congrArg Int32.toInt ((yK.ag (F := []) yK.rf (show yAg S [42] d_1 d_59 from by rw [ed_59]; exact yAg.cs yAg.rf (by rw [hky_29]; decide)) (by rw [hk_h0]; decide)) 2 (by decide))
            have hE3d_59 : (d_59.1 h0 3).toInt = (d_1.1 h0 3).toInt := congrArg Int32.toInt ((yK.ag (F := []) yK.rf (show yAg S [42] d_1 d_59 from by rw [ed_59]; exact yAg.cs yAg.rf (by rw [hky_29]; decide)) (by rw [hk_h0]; decide)) 3 (by decide))
            have hE63d_59 : (d_59.1 h0 63).toInt = (d_1.1 h0 63).toInt := congrArg Int32.toInt ((yK.ag (F := []) yK.rf (show yAg S [42] d_1 d_59 from by rw [ed_59]; exact yAg.cs yAg.rf (by rw [hky_29]; decide)) (by rw [hk_h0]; decide)) 63 (by decide))
            refine lv_aload_n hx hb dX9_tear_90 rfl (lv_at hl 1 rfl) ?_
            refine lv_iload_n hx hb dX9_tear_91 rfl (lv_at hl 2 rfl) ?_
            refine lv_sipush (v := 1440) hx hb dX9_tear_92 (by decide) ?_
            refine lv_iload_n hx hb dX9_tear_95 rfl (lv_at hl 3 rfl) ?_
            refine lv_imul hx hb dX9_tear_96 ?_
            refine lv_topi (fun z_60 ez_60 => ?_)
            refine lv_aload_n hx hb dX9_tear_97 rfl (lv_at hl 1 rfl) ?_
            refine yget (ci := 9) (k := 12) (v := .ref (S.2.2.1 h0 12)) (C := RX9) (T := TX9) (N := 67) C0 hK hP hm_h0 hk_h0 (by decide) rfl inlX9 (by decide) mW118 (fun _ h9 => h9) rfl dX9_tear_98 ?_
            refine lv_bipush (v := 90) hx hb dX9_tear_101 (by decide) ?_
            refine lv_iload_n hx hb dX9_tear_103 rfl (lv_at hl 2 rfl) ?_
            refine lv_imul hx hb dX9_tear_104 ?_
            refine lv_topi (fun z_61 ez_61 => ?_)
            refine lv_iload_n hx hb dX9_tear_105 rfl (lv_at hl 3 rfl) ?_
            refine lv_iadd hx hb dX9_tear_106 ?_
            refine lv_topi (fun z_62 ez_62 => ?_)
            have hCC_63 := yMI.c hId_59
            have T_65 : (z_61 : Int32).toInt = 90 * (p0 : Int32).toInt := tmul ez_61 (by decide +kernel : (90 : Int32).toInt = 90) (rfl : (p0 : Int32).toInt = (p0 : Int32).toInt) (by omega) (by omega)
            have T_64 : (z_62 : Int32).toInt = (z_61 : Int32).toInt + (p1 : Int32).toInt := tadd ez_62 (rfl : (z_61 : Int32).toInt = (z_61 : Int32).toInt) (rfl : (p1 : Int32).toInt = (p1 : Int32).toInt) (by omega) (by omega)
            refine yaldS C0 hK hP hmy_29 hky_29 (by decide) rfl 2 rfl (xinT 720 rfl (by omega) (by omega)) dX9_tear_107 ?_
            refine lv_topi (fun z_66 ez_66 => ?_)
            refine lv_iadd hx hb dX9_tear_108 ?_
            refine lv_topi (fun z_67 ez_67 => ?_)
            refine lv_sipush (v := 1440) hx hb dX9_tear_109 (by decide) ?_
            refine lv_iload_n hx hb dX9_tear_112 rfl (lv_at hl 3 rfl) ?_
            refine lv_imul hx hb dX9_tear_113 ?_
            refine lv_topi (fun z_68 ez_68 => ?_)
            refine lv_sipush (v := 1440) hx hb dX9_tear_114 (by decide) ?_
            refine lv_iadd hx hb dX9_tear_117 ?_
            refine lv_topi (fun z_69 ez_69 => ?_)
            refine yVwi (As := [.int p0, .int z_67, .int z_69]) (rest := []) C0 (g_X9_clear l G S d_59 h0 p0 z_67 z_69 hSh hPod_59 hm_h0 hk_h0 hId_59) ok_X9_clear (mW360 : Cond.methodLink RX9 183 yX9_clear ∈ wsT) ⟨Nat.le_of_ble_eq_true rfl, Nat.le_of_ble_eq_true rfl⟩ hP hD hS hA hK hN hm_h0 hk_h0 (by decide) rfl rfl rfl hl.1 rfl (Nat.le_of_ble_eq_true rfl) ⟨Nat.le_of_ble_eq_true rfl, Nat.le_of_ble_eq_true rfl⟩ dX9_tear_118 (fun r_70 d_71 H locs hr_70 hP hD hS => ?_)
            obtain ⟨hgad_71, hpad_71, hfad_71, hxd_71⟩ := hr_70
            have hfd_71 : yK [1, 38] d d_71 h0 := yK.tr hfd_59 hfad_71 (by decide)
            have hE0d_71 : (d_71.1 h0 0).toInt = (d_59.1 h0 0).toInt := congrArg Int32.toInt (hfad_71 0 (by decide))
            have hE2d_71 : (d_71.1 h0 2).toInt = (d_59.1 h0 2).toInt := congrArg Int32.toInt (hfad_71 2 (by decide))
            have hE3d_71 : (d_71.1 h0 3).toInt = (d_59.1 h0 3).toInt := congrArg Int32.toInt (hfad_71 3 (by decide))
            have hE63d_71 : (d_71.1 h0 63).toInt = (d_59.1 h0 63).toInt := congrArg Int32.toInt (hfad_71 63 (by decide))
            have hId_71 : yMI S d_71 h0 := hxd_71.1
            have hgd_71 : yAg S [9, 42, 45, 46, 47, 69] d d_71 := yAg.tr hgd_59 hgad_71 (by first | decide | exact fun _ h => h)
            have hPod_71 : yPo S d_71 := hpad_71 hPod_59
            exact W.iret (v := r_70) hx hb hr (fun t ht hW => ⟨⟨r_70, d_71, rfl, ⟨hgd_71, (fun _ => hPod_71), hfd_71, hId_71⟩, by rw [ht]; exact hP, hD⟩, hS.F ht⟩) hS.2.2 dX9_tear_121
        · refine lv_iconst (v := 2) hx hb dX9_tear_47 (by decide) ?_
          refine lv_istore (lv' := [(4, .int 2), (0, .ref h0), (1, .int p0), (2, .int p1), (3, .int p2)]) hx hb dX9_tear_48 hl (by decide) rfl (fun ls hl => ?_)
          refine lv_iload hx hb dX9_tear_50 (lv_at hl 0 rfl) ?_
          refine lv_if_eq (tgt := 62) hx hb dX9_tear_52 (by decide) (fun c_72 => absurd c_72 (by decide +kernel)) (fun c_72 => ?_)
          refine lv_aload_n hx hb dX9_tear_55 rfl (lv_at hl 1 rfl) ?_
          refine lv_iload hx hb dX9_tear_56 (lv_at hl 0 rfl) ?_
          refine yVwi (As := [.int 2]) (rest := []) C0 (g_X9_no l G S d_1 h0 2 hSh hPod_1 hm_h0 hk_h0 (by decide +kernel)) ok_X9_no (mW177 : Cond.methodLink RX9 168 yX9_no ∈ wsT) ⟨Nat.le_of_ble_eq_true rfl, Nat.le_of_ble_eq_true rfl⟩ hP hD hS hA hK hN hm_h0 hk_h0 (by decide) rfl rfl rfl hl.1 rfl (Nat.le_of_ble_eq_true rfl) ⟨Nat.le_of_ble_eq_true rfl, Nat.le_of_ble_eq_true rfl⟩ dX9_tear_58 (fun r_73 d_74 H locs hr_73 hP hD hS => ?_)
          obtain ⟨hgad_74, hpad_74, hfad_74, hxd_74⟩ := hr_73
          have hfd_74 : yK [1, 38] d d_74 h0 := yK.tr hfd_1 hfad_74 (by decide)
          have hE0d_74 : (d_74.1 h0 0).toInt = (d_1.1 h0 0).toInt := congrArg Int32.toInt (hfad_74 0 (by decide))
          have hE1d_74 : (d_74.1 h0 1).toInt = (d_1.1 h0 1).toInt := congrArg Int32.toInt (hfad_74 1 (by decide))
          have hE2d_74 : (d_74.1 h0 2).toInt = (d_1.1 h0 2).toInt := congrArg Int32.toInt (hfad_74 2 (by decide))
          have hE3d_74 : (d_74.1 h0 3).toInt = (d_1.1 h0 3).toInt := congrArg Int32.toInt (hfad_74 3 (by decide))
          have hE63d_74 : (d_74.1 h0 63).toInt = (d_1.1 h0 63).toInt := congrArg Int32.toInt (hfad_74 63 (by decide))
          have hId_74 : yMI S d_74 h0 := yMI.ag hId_1 hSh hm_h0 hk_h0 hgad_74 hfad_74 (by decide) (by decide)
          have hgd_74 : yAg S [9, 42, 45, 46, 47, 69] d d_74 := yAg.tr hgd_1 hgad_74 (by first | decide | exact fun _ h => h)
          have hPod_74 : yPo S d_74 := hpad_74 hPod_1
          exact W.iret (v := r_73) hx hb hr (fun t ht hW => ⟨⟨r_73, d_74, rfl, ⟨hgd_74, (fun _ => hPod_74), hfd_74, hId_74⟩, by rw [ht]; exact hP, hD⟩, hS.F ht⟩) hS.2.2 dX9_tear_61
    · refine lv_iconst (v := 1) hx hb dX9_tear_16 (by decide) ?_
      refine lv_goto (tgt := 26) hx hb dX9_tear_17 (by decide) ?_
      refine lv_istore (lv' := [(4, .int 1), (0, .ref h0), (1, .int p0), (2, .int p1), (3, .int p2)]) hx hb dX9_tear_26 hl (by decide) rfl (fun ls hl => ?_)
      refine lv_iload hx hb dX9_tear_28 (lv_at hl 0 rfl) ?_
      refine lv_if_ne (tgt := 50) hx hb dX9_tear_30 (by decide) (fun c_75 => ?_) (fun c_75 => absurd c_75 (by decide +kernel))
      refine lv_iload hx hb dX9_tear_50 (lv_at hl 0 rfl) ?_
      refine lv_if_eq (tgt := 62) hx hb dX9_tear_52 (by decide) (fun c_76 => absurd c_76 (by decide +kernel)) (fun c_76 => ?_)
      refine lv_aload_n hx hb dX9_tear_55 rfl (lv_at hl 1 rfl) ?_
      refine lv_iload hx hb dX9_tear_56 (lv_at hl 0 rfl) ?_
      refine yVwi (As := [.int 1]) (rest := []) C0 (g_X9_no l G S d_1 h0 1 hSh hPod_1 hm_h0 hk_h0 (by decide +kernel)) ok_X9_no (mW177 : Cond.methodLink RX9 168 yX9_no ∈ wsT) ⟨Nat.le_of_ble_eq_true rfl, Nat.le_of_ble_eq_true rfl⟩ hP hD hS hA hK hN hm_h0 hk_h0 (by decide) rfl rfl rfl hl.1 rfl (Nat.le_of_ble_eq_true rfl) ⟨Nat.le_of_ble_eq_true rfl, Nat.le_of_ble_eq_true rfl⟩ dX9_tear_58 (fun r_77 d_78 H locs hr_77 hP hD hS => ?_)
      obtain ⟨hgad_78, hpad_78, hfad_78, hxd_78⟩ := hr_77
      have hfd_78 : yK [1, 38] d d_78 h0 := yK.tr hfd_1 hfad_78 (by decide)
      have hE0d_78 : (d_78.1 h0 0).toInt = (d_1.1 h0 0).toInt := congrArg Int32.toInt (hfad_78 0 (by decide))
      have hE1d_78 : (d_78.1 h0 1).toInt = (d_1.1 h0 1).toInt := congrArg Int32.toInt (hfad_78 1 (by decide))
      have hE2d_78 : (d_78.1 h0 2).toInt = (d_1.1 h0 2).toInt := congrArg Int32.toInt (hfad_78 2 (by decide))
      have hE3d_78 : (d_78.1 h0 3).toInt = (d_1.1 h0 3).toInt := congrArg Int32.toInt (hfad_78 3 (by decide))
      have hE63d_78 : (d_78.1 h0 63).toInt = (d_1.1 h0 63).toInt := congrArg Int32.toInt (hfad_78 63 (by decide))
      have hId_78 : yMI S d_78 h0 := yMI.ag hId_1 hSh hm_h0 hk_h0 hgad_78 hfad_78 (by decide) (by decide)
      have hgd_78 : yAg S [9, 42, 45, 46, 47, 69] d d_78 := yAg.tr hgd_1 hgad_78 (by first | decide | exact fun _ h => h)
      have hPod_78 : yPo S d_78 := hpad_78 hPod_1
      exact W.iret (v := r_77) hx hb hr (fun t ht hW => ⟨⟨r_77, d_78, rfl, ⟨hgd_78, (fun _ => hPod_78), hfd_78, hId_78⟩, by rw [ht]; exact hP, hD⟩, hS.F ht⟩) hS.2.2 dX9_tear_61
