theorem dX9_contract_0 : decode cX9_contract 0 = .ok (.aload_n 0, 1) := by decide +kernel
theorem dX9_contract_1 : decode cX9_contract 1 = .ok (.iconst 0, 1) := by decide +kernel
theorem dX9_contract_2 : decode cX9_contract 2 = .ok (.putfield 147, 3) := by decide +kernel
theorem dX9_contract_5 : decode cX9_contract 5 = .ok (.aload_n 0, 1) := by decide +kernel
theorem dX9_contract_6 : decode cX9_contract 6 = .ok (.getfield 150, 3) := by decide +kernel
theorem dX9_contract_9 : decode cX9_contract 9 = .ok (.bipush 40, 2) := by decide +kernel
theorem dX9_contract_11 : decode cX9_contract 11 = .ok (.if_icmp .ne 9, 3) := by decide +kernel
theorem dX9_contract_14 : decode cX9_contract 14 = .ok (.aload_n 0, 1) := by decide +kernel
theorem dX9_contract_15 : decode cX9_contract 15 = .ok (.iconst 5, 1) := by decide +kernel
theorem dX9_contract_16 : decode cX9_contract 16 = .ok (.invokevirtual 168, 3) := by decide +kernel
theorem dX9_contract_19 : decode cX9_contract 19 = .ok (.ireturn, 1) := by decide +kernel
theorem dX9_contract_20 : decode cX9_contract 20 = .ok (.iconst 0, 1) := by decide +kernel
theorem dX9_contract_21 : decode cX9_contract 21 = .ok (.istore_n 1, 1) := by decide +kernel
theorem dX9_contract_22 : decode cX9_contract 22 = .ok (.iload_n 1, 1) := by decide +kernel
theorem dX9_contract_23 : decode cX9_contract 23 = .ok (.bipush 60, 2) := by decide +kernel
theorem dX9_contract_25 : decode cX9_contract 25 = .ok (.if_icmp .ge 24, 3) := by decide +kernel
theorem dX9_contract_28 : decode cX9_contract 28 = .ok (.aload_n 0, 1) := by decide +kernel
theorem dX9_contract_29 : decode cX9_contract 29 = .ok (.getfield 13, 3) := by decide +kernel
theorem dX9_contract_32 : decode cX9_contract 32 = .ok (.bipush 60, 2) := by decide +kernel
theorem dX9_contract_34 : decode cX9_contract 34 = .ok (.aload_n 0, 1) := by decide +kernel
theorem dX9_contract_35 : decode cX9_contract 35 = .ok (.getfield 150, 3) := by decide +kernel
theorem dX9_contract_38 : decode cX9_contract 38 = .ok (.imul, 1) := by decide +kernel
theorem dX9_contract_39 : decode cX9_contract 39 = .ok (.iload_n 1, 1) := by decide +kernel
theorem dX9_contract_40 : decode cX9_contract 40 = .ok (.iadd, 1) := by decide +kernel
theorem dX9_contract_41 : decode cX9_contract 41 = .ok (.iconst 0, 1) := by decide +kernel
theorem dX9_contract_42 : decode cX9_contract 42 = .ok (.bastore, 1) := by decide +kernel
theorem dX9_contract_43 : decode cX9_contract 43 = .ok (.iinc 1 1, 3) := by decide +kernel
theorem dX9_contract_46 : decode cX9_contract 46 = .ok (.goto (-24), 3) := by decide +kernel
theorem dX9_contract_49 : decode cX9_contract 49 = .ok (.aload_n 0, 1) := by decide +kernel
theorem dX9_contract_50 : decode cX9_contract 50 = .ok (.dup, 1) := by decide +kernel
theorem dX9_contract_51 : decode cX9_contract 51 = .ok (.getfield 150, 3) := by decide +kernel
theorem dX9_contract_54 : decode cX9_contract 54 = .ok (.iconst 1, 1) := by decide +kernel
theorem dX9_contract_55 : decode cX9_contract 55 = .ok (.iadd, 1) := by decide +kernel
theorem dX9_contract_56 : decode cX9_contract 56 = .ok (.putfield 150, 3) := by decide +kernel
theorem dX9_contract_59 : decode cX9_contract 59 = .ok (.aload_n 0, 1) := by decide +kernel
theorem dX9_contract_60 : decode cX9_contract 60 = .ok (.getfield 150, 3) := by decide +kernel
theorem dX9_contract_63 : decode cX9_contract 63 = .ok (.iconst 1, 1) := by decide +kernel
theorem dX9_contract_64 : decode cX9_contract 64 = .ok (.isub, 1) := by decide +kernel
theorem dX9_contract_65 : decode cX9_contract 65 = .ok (.ireturn, 1) := by decide +kernel
set_option maxHeartbeats 4000000 in
set_option maxRecDepth 100000 in
theorem g_X9_contract (l : Launch) (G : xG) (S : yS) (d : yD) (h0 : Nat) (hSh : ySh S) (hPo : yPo S d) (hm_h0 : h0 ∈ S.1) (hk_h0 : S.2.1 h0 = 9) (hI : yMI S d h0) : xWi l G yX9_contract cX9_contract 2 (some .int) 1 21 0 0 [.ref h0] (yW G S d) (fun r (u : yD) => yAg S [9, 34, 69] d u ∧ (yPo S d → yPo S u) ∧ yK [0, 38] d u h0 ∧ (yMI S u h0 ∧ (((d.1 h0 0).toInt = 40 ∧ r.toInt = -1 ∧ (u.1 h0 0).toInt = (d.1 h0 0).toInt ∧ zTr S u h0 (fun s => d.2.2.2.1 (S.2.2.1 h0 s))) ∨ ((d.1 h0 0).toInt ≤ 39 ∧ r.toInt = (d.1 h0 0).toInt ∧ (u.1 h0 0).toInt = (d.1 h0 0).toInt + 1 ∧ (∀ j : Nat, j < 60 → u.2.2.2.1 (S.2.2.1 h0 4) (60 * (d.1 h0 0).toInt.toNat + j) = 0) ∧ (∀ k : Nat, (k < 60 * (d.1 h0 0).toInt.toNat ∨ 60 * (d.1 h0 0).toInt.toNat + 60 ≤ k) → u.2.2.2.1 (S.2.2.1 h0 4) k = d.2.2.2.1 (S.2.2.1 h0 4) k) ∧ ∀ s, 5 ≤ s → s ≤ 10 → u.2.2.2.1 (S.2.2.1 h0 s) = d.2.2.2.1 (S.2.2.1 h0 s))))) (fun u => yW G S u) := by
  intro sz
  refine xstart (by decide) (Nat.le_of_ble_eq_true rfl) (fun p e s m args below meth c ls C0 hr hlocks hin hsz hP hK hD hN hl => ?_)
  obtain ⟨hx, hb, hml, hown, htl⟩ := id C0
  subst hsz
  have hD := hD.self (sz := s.heap.size)
  generalize hAe : va_A (yW G S d) s.heap.size = A at hD ⊢
  have hA : ∀ q : Nat, s.heap.size ≤ q → A q := fun q h => by rw [← hAe]; exact Or.inr h
  have hS : va_S A s.heap s.heap [] := va_S.rf
  have hg0 : yAg S [9, 34, 69] d d := yAg.rf
  have hl : lv_has ls 2 [(0, .ref h0)] := hl
  refine lv_aload_n hx hb dX9_contract_0 rfl (lv_at hl 0 rfl) ?_
  refine lv_iconst (v := 0) hx hb dX9_contract_1 (by decide) ?_
  refine yputI (ci := 9) (k := 38) (ty := .int) (C := RX9) (T := TX9) (N := 67) C0 hK hP hD hS hm_h0 hk_h0 (by decide) rfl inlX9 tyX9 tyX9_ok nmX9 (by decide) mW175 (fun _ h9 => h9) rfl (by decide +kernel) rfl rfl (Nat.le_of_ble_eq_true rfl) ysi_9_38 dX9_contract_2 (fun H locs hP hD hS => ?_)
  obtain ⟨d_1, ed_1⟩ : ∃ z : yD, z = yi d h0 38 0 := ⟨_, rfl⟩
  rw [← ed_1] at hP hD
  have hgd_1 : yAg S [9, 34, 69] d d_1 := by rw [ed_1]; exact yAg.i hg0 (by rw [hk_h0]; decide)
  have hsd_1 : yAg S [9] d d_1 := by rw [ed_1]; exact yAg.i yAg.rf (by rw [hk_h0]; decide)
  have hPod_1 : yPo S d_1 := by rw [ed_1]; exact yPo.i hPo hk_h0 (Or.inl rfl)
  have hfd_1 : yK [0, 38] d d_1 h0 := by rw [ed_1]; exact yK.i yK.rf (by decide)
  have hId_1 : yMI S d_1 h0 := yMI.ag hI hSh hm_h0 hk_h0 (show yAg S [9] d d_1 from by rw [ed_1]; exact yAg.i yAg.rf (by rw [hk_h0]; decide)) (show yK [38] d d_1 h0 from by rw [ed_1]; exact yK.i yK.rf (by decide)) (by decide) (by decide)
  have hE0d_1 : (d_1.1 h0 0).toInt = (d.1 h0 0).toInt := congrArg Int32.toInt ((show yK [38] d d_1 h0 from by rw [ed_1]; exact yK.i yK.rf (by decide)) 0 (by decide))
  have hE1d_1 : (d_1.1 h0 1).toInt = (d.1 h0 1).toInt := congrArg Int32.toInt ((show yK [38] d d_1 h0 from by rw [ed_1]; exact yK.i yK.rf (by decide)) 1 (by decide))
  have hE2d_1 : (d_1.1 h0 2).toInt = (d.1 h0 2).toInt := congrArg Int32.toInt ((show yK [38] d d_1 h0 from by rw [ed_1]; exact yK.i yK.rf (by decide)) 2 (by decide))
  have hE3d_1 : (d_1.1 h0 3).toInt = (d.1 h0 3).toInt := congrArg Int32.toInt ((show yK [38] d d_1 h0 from by rw [ed_1]; exact yK.i yK.rf (by decide)) 3 (by decide))
  have hE63d_1 : (d_1.1 h0 63).toInt = (d.1 h0 63).toInt := congrArg Int32.toInt ((show yK [38] d d_1 h0 from by rw [ed_1]; exact yK.i yK.rf (by decide)) 63 (by decide))
  refine lv_aload_n hx hb dX9_contract_5 rfl (lv_at hl 0 rfl) ?_
  refine yget (ci := 9) (k := 0) (v := .int (d_1.1 h0 0)) (C := RX9) (T := TX9) (N := 67) C0 hK hP hm_h0 hk_h0 (by decide) rfl inlX9 (by decide) mW176 (fun _ h9 => h9) rfl dX9_contract_6 ?_
  refine lv_topi (fun z_2 ez_2 => ?_)
  refine lv_bipush (v := 40) hx hb dX9_contract_9 (by decide) ?_
  refine lv_icmp_ne (tgt := 20) hx hb dX9_contract_11 (by decide) (fun c_3 => ?_) (fun c_3 => ?_)
  · refine lv_iconst (v := 0) hx hb dX9_contract_20 (by decide) ?_
    refine lv_istore_n (lv' := [(1, .int 0), (0, .ref h0)]) hx hb dX9_contract_21 rfl hl (by decide) rfl (fun ls hl => ?_)
    refine yloop (σ := Int32 × yD) (fun x => (2147483647 - (x.1 : Int32).toInt).toNat) 22 (fun x H locs ls => va_P G.1 xcl (yW G S x.2) H ∧ va_D A (yW G S x.2) ∧ va_S A s.heap H locs ∧ yAg S [9, 34, 69] d x.2 ∧ yPo S x.2 ∧ yK [0, 38] d x.2 h0 ∧ yMI S x.2 h0 ∧ yAg S [34] d_1 x.2 ∧ yK [] d_1 x.2 h0 ∧ (zHz (d_1.2.2.2.1 (S.2.2.1 h0 4)) (x.2.2.2.2.1 (S.2.2.1 h0 4)) (d.1 h0 0).toInt.toNat x.1) ∧ lv_has ls 2 [(1, .int x.1), (0, .ref h0)]) (fun x H locs ls hI hnext_6 => ?_) (0, d_1) ⟨hP, hD, hS, hgd_1, hPod_1, hfd_1, hId_1, yAg.rf, yK.rf, zHz.ini, lv_sub hl [0, 1] rfl⟩
    obtain ⟨v_4, d_5⟩ := x
    obtain ⟨hP, hD, hS, hgd_5, hPod_5, hfd_5, hId_5, hLJd_5, hKJd_5, hex_7, hl⟩ := hI
    have hId_5 : yMI S d_5 h0 := hId_5
    have hex_7 : (zHz (d_1.2.2.2.1 (S.2.2.1 h0 4)) (d_5.2.2.2.1 (S.2.2.1 h0 4)) (d.1 h0 0).toInt.toNat v_4) := hex_7
    have hl : lv_has ls 2 [(1, .int v_4), (0, .ref h0)] := hl
    have hLJd_5 : yAg S [34] d_1 d_5 := hLJd_5
    have hKJd_5 : yK [] d_1 d_5 h0 := hKJd_5
    have hE0d_5 : (d_5.1 h0 0).toInt = (d_1.1 h0 0).toInt := congrArg Int32.toInt (hKJd_5 0 (by decide))
    have hE1d_5 : (d_5.1 h0 1).toInt = (d_1.1 h0 1).toInt := congrArg Int32.toInt (hKJd_5 1 (by decide))
    have hE2d_5 : (d_5.1 h0 2).toInt = (d_1.1 h0 2).toInt := congrArg Int32.toInt (hKJd_5 2 (by decide))
    have hE3d_5 : (d_5.1 h0 3).toInt = (d_1.1 h0 3).toInt := congrArg Int32.toInt (hKJd_5 3 (by decide))
    have hE63d_5 : (d_5.1 h0 63).toInt = (d_1.1 h0 63).toInt := congrArg Int32.toInt (hKJd_5 63 (by decide))
    have hxr_ := hex_7.1
    refine lv_iload_n hx hb dX9_contract_22 rfl (lv_at hl 0 rfl) ?_
    refine lv_bipush (v := 60) hx hb dX9_contract_23 (by decide) ?_
    refine lv_icmp_ge (tgt := 49) hx hb dX9_contract_25 (by decide) (fun c_8 => ?_) (fun c_8 => ?_)
    · refine lv_aload_n hx hb dX9_contract_49 rfl (lv_at hl 1 rfl) ?_
      refine lv_dup hx hb dX9_contract_50 rfl ?_
      refine yget (ci := 9) (k := 0) (v := .int (d_5.1 h0 0)) (C := RX9) (T := TX9) (N := 67) C0 hK hP hm_h0 hk_h0 (by decide) rfl inlX9 (by decide) mW176 (fun _ h9 => h9) rfl dX9_contract_51 ?_
      refine lv_topi (fun z_9 ez_9 => ?_)
      refine lv_iconst (v := 1) hx hb dX9_contract_54 (by decide) ?_
      refine lv_iadd hx hb dX9_contract_55 ?_
      refine lv_topi (fun z_10 ez_10 => ?_)
      refine yputI (ci := 9) (k := 0) (ty := .int) (C := RX9) (T := TX9) (N := 67) C0 hK hP hD hS hm_h0 hk_h0 (by decide) rfl inlX9 tyX9 tyX9_ok nmX9 (by decide) mW176 (fun _ h9 => h9) rfl (by decide +kernel) rfl rfl (Nat.le_of_ble_eq_true rfl) ysi_9_0 dX9_contract_56 (fun H locs hP hD hS => ?_)
      obtain ⟨d_11, ed_11⟩ : ∃ z : yD, z = yi d_5 h0 0 z_10 := ⟨_, rfl⟩
      rw [← ed_11] at hP hD
      have hgd_11 : yAg S [9, 34, 69] d d_11 := by rw [ed_11]; exact yAg.i hgd_5 (by rw [hk_h0]; decide)
      have hsd_11 : yAg S [9] d_5 d_11 := by rw [ed_11]; exact yAg.i yAg.rf (by rw [hk_h0]; decide)
      have hPod_11 : yPo S d_11 := by rw [ed_11]; exact yPo.i hPod_5 hk_h0 (Or.inl rfl)
      have hfd_11 : yK [0, 38] d d_11 h0 := by rw [ed_11]; exact yK.i hfd_5 (by decide)
      have hCC_12 := yMI.c hId_5
      have T_13 : (z_2 : Int32).toInt = (d_1.1 h0 0).toInt := by rw [ez_2]
      have F_14 := fne (rfl : (z_2 : Int32).toInt = (z_2 : Int32).toInt) (by decide +kernel : (40 : Int32).toInt = 40) c_3
      have F_15 := fle (by decide +kernel : (60 : Int32).toInt = 60) (rfl : (v_4 : Int32).toInt = (v_4 : Int32).toInt) c_8
      have T_17 : (z_9 : Int32).toInt = (d_5.1 h0 0).toInt := by rw [ez_9]
      have T_16 : (z_10 : Int32).toInt = (z_9 : Int32).toInt + 1 := tadd ez_10 (rfl : (z_9 : Int32).toInt = (z_9 : Int32).toInt) (by decide +kernel : (1 : Int32).toInt = 1) (by omega) (by omega)
      have hId_11 : yMI S d_11 h0 := by rw [ed_11]; exact yMI.i0 hId_5 ⟨by omega, by omega⟩
      have hE0d_11 : (d_11.1 h0 0).toInt = (z_10 : Int32).toInt := by rw [ed_11, yi_self]
      have hE1d_11 : (d_11.1 h0 1).toInt = (d_5.1 h0 1).toInt := congrArg Int32.toInt ((show yK [0] d_5 d_11 h0 from by rw [ed_11]; exact yK.i yK.rf (by decide)) 1 (by decide))
      have hE2d_11 : (d_11.1 h0 2).toInt = (d_5.1 h0 2).toInt := congrArg Int32.toInt ((show yK [0] d_5 d_11 h0 from by rw [ed_11]; exact yK.i yK.rf (by decide)) 2 (by decide))
      have hE3d_11 : (d_11.1 h0 3).toInt = (d_5.1 h0 3).toInt := congrArg Int32.toInt ((show yK [0] d_5 d_11 h0 from by rw [ed_11]; exact yK.i yK.rf (by decide)) 3 (by decide))
      have hE63d_11 : (d_11.1 h0 63).toInt = (d_5.1 h0 63).toInt := congrArg Int32.toInt ((show yK [0] d_5 d_11 h0 from by rw [ed_11]; exact yK.i yK.rf (by decide)) 63 (by decide))
      refine lv_aload_n hx hb dX9_contract_59 rfl (lv_at hl 1 rfl) ?_
      refine yget (ci := 9) (k := 0) (v := .int (d_11.1 h0 0)) (C := RX9) (T := TX9) (N := 67) C0 hK hP hm_h0 hk_h0 (by decide) rfl inlX9 (by decide) mW176 (fun _ h9 => h9) rfl dX9_contract_60 ?_
      refine lv_topi (fun z_18 ez_18 => ?_)
      refine lv_iconst (v := 1) hx hb dX9_contract_63 (by decide) ?_
      refine lv_isub hx hb dX9_contract_64 ?_
      refine lv_topi (fun z_19 ez_19 => ?_)
      have hCC_20 := yMI.c hId_11
      have T_22 : (z_18 : Int32).toInt = (d_11.1 h0 0).toInt := by rw [ez_18]
      have T_21 : (z_19 : Int32).toInt = (z_18 : Int32).toInt - 1 := tsub ez_19 (rfl : (z_18 : Int32).toInt = (z_18 : Int32).toInt) (by decide +kernel : (1 : Int32).toInt = 1) (by omega) (by omega)
      have ha4_ : d_11.2.2.2.1 (S.2.2.1 h0 4) = d_5.2.2.2.1 (S.2.2.1 h0 4) := (hsd_11 _ (by rw [(ySh.f9_4 hSh h0 hm_h0 hk_h0).2]; decide)).2.2.2.1
      have hb4_ : d_1.2.2.2.1 (S.2.2.1 h0 4) = d.2.2.2.1 (S.2.2.1 h0 4) := (hsd_1 _ (by rw [(ySh.f9_4 hSh h0 hm_h0 hk_h0).2]; decide)).2.2.2.1
      have hs_ : ∀ s, 5 ≤ s → s ≤ 10 → d_11.2.2.2.1 (S.2.2.1 h0 s) = d.2.2.2.1 (S.2.2.1 h0 s) := by
        intro s a_ b_
        obtain rfl | rfl | rfl | rfl | rfl | rfl : s = 5 ∨ s = 6 ∨ s = 7 ∨ s = 8 ∨ s = 9 ∨ s = 10 := by omega
        · exact (((hsd_11 _ (by rw [(ySh.f9_5 hSh h0 hm_h0 hk_h0).2]; decide)).2.2.2.1).trans (((hLJd_5 _ (by rw [(ySh.f9_5 hSh h0 hm_h0 hk_h0).2]; decide)).2.2.2.1).trans (hsd_1 _ (by rw [(ySh.f9_5 hSh h0 hm_h0 hk_h0).2]; decide)).2.2.2.1))
        · exact (((hsd_11 _ (by rw [(ySh.f9_6 hSh h0 hm_h0 hk_h0).2]; decide)).2.2.2.1).trans (((hLJd_5 _ (by rw [(ySh.f9_6 hSh h0 hm_h0 hk_h0).2]; decide)).2.2.2.1).trans (hsd_1 _ (by rw [(ySh.f9_6 hSh h0 hm_h0 hk_h0).2]; decide)).2.2.2.1))
        · exact (((hsd_11 _ (by rw [(ySh.f9_7 hSh h0 hm_h0 hk_h0).2]; decide)).2.2.2.1).trans (((hLJd_5 _ (by rw [(ySh.f9_7 hSh h0 hm_h0 hk_h0).2]; decide)).2.2.2.1).trans (hsd_1 _ (by rw [(ySh.f9_7 hSh h0 hm_h0 hk_h0).2]; decide)).2.2.2.1))
        · exact (((hsd_11 _ (by rw [(ySh.f9_8 hSh h0 hm_h0 hk_h0).2]; decide)).2.2.2.1).trans (((hLJd_5 _ (by rw [(ySh.f9_8 hSh h0 hm_h0 hk_h0).2]; decide)).2.2.2.1).trans (hsd_1 _ (by rw [(ySh.f9_8 hSh h0 hm_h0 hk_h0).2]; decide)).2.2.2.1))
        · exact (((hsd_11 _ (by rw [(ySh.f9_9 hSh h0 hm_h0 hk_h0).2]; decide)).2.2.2.1).trans (((hLJd_5 _ (by rw [(ySh.f9_9 hSh h0 hm_h0 hk_h0).2]; decide)).2.2.2.1).trans (hsd_1 _ (by rw [(ySh.f9_9 hSh h0 hm_h0 hk_h0).2]; decide)).2.2.2.1))
        · exact (((hsd_11 _ (by rw [(ySh.f9_10 hSh h0 hm_h0 hk_h0).2]; decide)).2.2.2.1).trans (((hLJd_5 _ (by rw [(ySh.f9_10 hSh h0 hm_h0 hk_h0).2]; decide)).2.2.2.1).trans (hsd_1 _ (by rw [(ySh.f9_10 hSh h0 hm_h0 hk_h0).2]; decide)).2.2.2.1))
      exact W.iret (v := z_19) hx hb hr (fun t ht hW => ⟨⟨z_19, d_11, rfl, ⟨hgd_11, (fun _ => hPod_11), hfd_11, ⟨hId_11, Or.inr ⟨by omega, by omega, by omega, (fun j hj => by rw [ha4_]; exact hex_7.2.2.1 j (by omega)), (fun k hk => by rw [ha4_, hex_7.2.2.2 k hk, hb4_]), hs_⟩⟩⟩, by rw [ht]; exact hP, hD⟩, hS.F ht⟩) hS.2.2 dX9_contract_65
    · refine lv_aload_n hx hb dX9_contract_28 rfl (lv_at hl 1 rfl) ?_
      refine yget (ci := 9) (k := 4) (v := .ref (S.2.2.1 h0 4)) (C := RX9) (T := TX9) (N := 67) C0 hK hP hm_h0 hk_h0 (by decide) rfl inlX9 (by decide) mW108 (fun _ h9 => h9) rfl dX9_contract_29 ?_
      obtain ⟨hmy_23, hky_23⟩ := ySh.f9_4 hSh _ hm_h0 hk_h0
      refine lv_bipush (v := 60) hx hb dX9_contract_32 (by decide) ?_
      refine lv_aload_n hx hb dX9_contract_34 rfl (lv_at hl 1 rfl) ?_
      refine yget (ci := 9) (k := 0) (v := .int (d_5.1 h0 0)) (C := RX9) (T := TX9) (N := 67) C0 hK hP hm_h0 hk_h0 (by decide) rfl inlX9 (by decide) mW176 (fun _ h9 => h9) rfl dX9_contract_35 ?_
      refine lv_topi (fun z_24 ez_24 => ?_)
      refine lv_imul hx hb dX9_contract_38 ?_
      refine lv_topi (fun z_25 ez_25 => ?_)
      refine lv_iload_n hx hb dX9_contract_39 rfl (lv_at hl 0 rfl) ?_
      refine lv_iadd hx hb dX9_contract_40 ?_
      refine lv_topi (fun z_26 ez_26 => ?_)
      refine lv_iconst (v := 0) hx hb dX9_contract_41 (by decide) ?_
      have hCC_27 := yMI.c hId_5
      have T_28 : (z_2 : Int32).toInt = (d_1.1 h0 0).toInt := by rw [ez_2]
      have F_29 := fne (rfl : (z_2 : Int32).toInt = (z_2 : Int32).toInt) (by decide +kernel : (40 : Int32).toInt = 40) c_3
      have F_30 := fnle (by decide +kernel : (60 : Int32).toInt = 60) (rfl : (v_4 : Int32).toInt = (v_4 : Int32).toInt) c_8
      have T_33 : (z_24 : Int32).toInt = (d_5.1 h0 0).toInt := by rw [ez_24]
      have T_32 : (z_25 : Int32).toInt = 60 * (z_24 : Int32).toInt := tmul ez_25 (by decide +kernel : (60 : Int32).toInt = 60) (rfl : (z_24 : Int32).toInt = (z_24 : Int32).toInt) (by omega) (by omega)
      have T_31 : (z_26 : Int32).toInt = (z_25 : Int32).toInt + (v_4 : Int32).toInt := tadd ez_26 (rfl : (z_25 : Int32).toInt = (z_25 : Int32).toInt) (rfl : (v_4 : Int32).toInt = (v_4 : Int32).toInt) (by omega) (by omega)
      refine yastB C0 hK hP hD hS hmy_23 hky_23 (by decide) rfl 1 rfl (xinT 2400 rfl (by omega) (by omega)) dX9_contract_42 (fun H locs hP hD hS => ?_)
      obtain ⟨d_34, ed_34⟩ : ∃ z : yD, z = ycs d_5 (S.2.2.1 h0 4) (upd (d_5.2.2.2.1 (S.2.2.1 h0 4)) (z_26 : Int32).toNatClampNeg (vp_nar .byte 0)) := ⟨_, rfl⟩
      rw [← ed_34] at hP hD
      have hgd_34 : yAg S [9, 34, 69] d d_34 := by rw [ed_34]; exact yAg.cs hgd_5 (by rw [hky_23]; decide)
      have hsd_34 : yAg S [34] d_5 d_34 := by rw [ed_34]; exact yAg.cs yAg.rf (by rw [hky_23]; decide)
      have hPod_34 : yPo S d_34 := by rw [ed_34]; exact hPod_5
      have hfd_34 : yK [0, 38] d d_34 h0 := yK.ag hfd_5 (show yAg S [34] d_5 d_34 from by rw [ed_34]; exact yAg.cs yAg.rf (by rw [hky_23]; decide)) (by rw [hk_h0]; decide)
      have hL0d_34 : yAg S [34] d_1 d_34 := by rw [ed_34]; exact yAg.cs hLJd_5 (by rw [hky_23]; decide)
      have hK0d_34 : yK [] d_1 d_34 h0 := yK.ag hKJd_5 (show yAg S [34] d_5 d_34 from by rw [ed_34]; exact yAg.cs yAg.rf (by rw [hky_23]; decide)) (by rw [hk_h0]; decide)
      have hId_34 : yMI S d_34 h0 := yMI.ag hId_5 hSh hm_h0 hk_h0 (show yAg S [34] d_5 d_34 from by rw [ed_34]; exact yAg.cs yAg.rf (by rw [hky_23]; decide)) (yK.ag (F := []) yK.rf (show yAg S [34] d_5 d_34 from by rw [ed_34]; exact yAg.cs yAg.rf (by rw [hky_23]; decide)) (by rw [hk_h0]; decide)) (by decide) (by decide)
      have hE0d_34 : (d_34.1 h0 0).toInt = (d_5.1 h0 0).toInt := congrArg Int32.toInt ((yK.ag (F := []) yK.rf (show yAg S [34] d_5 d_34 from by rw [ed_34]; exact yAg.cs yAg.rf (by rw [hky_23]; decide)) (by rw [hk_h0]; decide)) 0 (by decide))
      have hE1d_34 : (d_34.1 h0 1).toInt = (d_5.1 h0 1).toInt := congrArg Int32.toInt ((yK.ag (F := []) yK.rf (show yAg S [34] d_5 d_34 from by rw [ed_34]; exact yAg.cs yAg.rf (by rw [hky_23]; decide)) (by rw [hk_h0]; decide)) 1 (by decide))
      have hE2d_34 : (d_34.1 h0 2).toInt = (d_5.1 h0 2).toInt := congrArg Int32.toInt ((yK.ag (F := []) yK.rf (show yAg S [34] d_5 d_34 from by rw [ed_34]; exact yAg.cs yAg.rf (by rw [hky_23]; decide)) (by rw [hk_h0]; decide)) 2 (by decide))
      have hE3d_34 : (d_34.1 h0 3).toInt = (d_5.1 h0 3).toInt := congrArg Int32.toInt ((yK.ag (F := []) yK.rf (show yAg S [34] d_5 d_34 from by rw [ed_34]; exact yAg.cs yAg.rf (by rw [hky_23]; decide)) (by rw [hk_h0]; decide)) 3 (by decide))
      have hE63d_34 : (d_34.1 h0 63).toInt = (d_5.1 h0 63).toInt := congrArg Int32.toInt ((yK.ag (F := []) yK.rf (show yAg S [34] d_5 d_34 from by rw [ed_34]; exact yAg.cs yAg.rf (by rw [hky_23]; decide)) (by rw [hk_h0]; decide)) 63 (by decide))
      refine lv_iinc (v := v_4 + 1) (lv' := [(1, .int (v_4 + 1)), (0, .ref h0)]) hx hb dX9_contract_43 hl (k := 0) rfl rfl (by decide) rfl (fun ls hl => ?_)
      refine lv_goto (tgt := 22) hx hb dX9_contract_46 (by decide) ?_
      have hCC_36 := yMI.c hId_34
      exact hnext_6 (v_4 + 1, d_34) _ _ ls (xup c_8) ⟨hP, hD, hS, hgd_34, hPod_34, hfd_34, hId_34, hL0d_34, hK0d_34, (zHz.step (i := z_26) hex_7 c_8 (by omega) (by rw [ed_34]; exact va_up_self _ _ _)), lv_sub hl [0, 1] rfl⟩
  · refine lv_aload_n hx hb dX9_contract_14 rfl (lv_at hl 0 rfl) ?_
    refine lv_iconst (v := 5) hx hb dX9_contract_15 (by decide) ?_
    refine yVwi (As := [.int 5]) (rest := []) C0 (g_X9_no l G S d_1 h0 5 hSh hPod_1 hm_h0 hk_h0 (by decide +kernel)) ok_X9_no (mW177 : Cond.methodLink RX9 168 yX9_no ∈ wsT) ⟨Nat.le_of_ble_eq_true rfl, Nat.le_of_ble_eq_true rfl⟩ hP hD hS hA hK hN hm_h0 hk_h0 (by decide) rfl rfl rfl hl.1 rfl (Nat.le_of_ble_eq_true rfl) ⟨Nat.le_of_ble_eq_true rfl, Nat.le_of_ble_eq_true rfl⟩ dX9_contract_16 (fun r_37 d_38 H locs hr_37 hP hD hS => ?_)
    obtain ⟨hgad_38, hpad_38, hfad_38, hxd_38⟩ := hr_37
    have hfd_38 : yK [0, 38] d d_38 h0 := yK.tr hfd_1 hfad_38 (by decide)
    have hE0d_38 : (d_38.1 h0 0).toInt = (d_1.1 h0 0).toInt := congrArg Int32.toInt (hfad_38 0 (by decide))
    have hE1d_38 : (d_38.1 h0 1).toInt = (d_1.1 h0 1).toInt := congrArg Int32.toInt (hfad_38 1 (by decide))
    have hE2d_38 : (d_38.1 h0 2).toInt = (d_1.1 h0 2).toInt := congrArg Int32.toInt (hfad_38 2 (by decide))
    have hE3d_38 : (d_38.1 h0 3).toInt = (d_1.1 h0 3).toInt := congrArg Int32.toInt (hfad_38 3 (by decide))
    have hE63d_38 : (d_38.1 h0 63).toInt = (d_1.1 h0 63).toInt := congrArg Int32.toInt (hfad_38 63 (by decide))
    have hId_38 : yMI S d_38 h0 := yMI.ag hId_1 hSh hm_h0 hk_h0 hgad_38 hfad_38 (by decide) (by decide)
    have hgd_38 : yAg S [9, 34, 69] d d_38 := yAg.tr hgd_1 hgad_38 (by first | decide | exact fun _ h => h)
    have hPod_38 : yPo S d_38 := hpad_38 hPod_1
    have hm1r_37 : (r_37 : Int32).toInt = -1 := by rw [hxd_38]; decide +kernel
    have hCC_39 := yMI.c hId_38
    have T_40 : (z_2 : Int32).toInt = (d_1.1 h0 0).toInt := by rw [ez_2]
    have F_41 := feq (rfl : (z_2 : Int32).toInt = (z_2 : Int32).toInt) (by decide +kernel : (40 : Int32).toInt = 40) c_3
    exact W.iret (v := r_37) hx hb hr (fun t ht hW => ⟨⟨r_37, d_38, rfl, ⟨hgd_38, (fun _ => hPod_38), hfd_38, ⟨hId_38, Or.inl ⟨by omega, by omega, by omega, (zTr.ag (zTr.ag zTr.rf hSh hm_h0 hk_h0 hsd_1 (by decide)) hSh hm_h0 hk_h0 hgad_38 (by decide))⟩⟩⟩, by rw [ht]; exact hP, hD⟩, hS.F ht⟩) hS.2.2 dX9_contract_19
