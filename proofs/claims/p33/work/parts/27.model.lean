theorem dX9_part_0 : decode cX9_part 0 = .ok (.iconst 0, 1) := by decide +kernel
theorem dX9_part_1 : decode cX9_part 1 = .ok (.istore_n 2, 1) := by decide +kernel
theorem dX9_part_2 : decode cX9_part 2 = .ok (.iload_n 2, 1) := by decide +kernel
theorem dX9_part_3 : decode cX9_part 3 = .ok (.bipush 8, 2) := by decide +kernel
theorem dX9_part_5 : decode cX9_part 5 = .ok (.if_icmp .ge 36, 3) := by decide +kernel
theorem dX9_part_8 : decode cX9_part 8 = .ok (.iload_n 2, 1) := by decide +kernel
theorem dX9_part_9 : decode cX9_part 9 = .ok (.iload_n 1, 1) := by decide +kernel
theorem dX9_part_10 : decode cX9_part 10 = .ok (.if_icmp .eq 25, 3) := by decide +kernel
theorem dX9_part_13 : decode cX9_part 13 = .ok (.aload_n 0, 1) := by decide +kernel
theorem dX9_part_14 : decode cX9_part 14 = .ok (.getfield 36, 3) := by decide +kernel
theorem dX9_part_17 : decode cX9_part 17 = .ok (.bipush 12, 2) := by decide +kernel
theorem dX9_part_19 : decode cX9_part 19 = .ok (.iload_n 2, 1) := by decide +kernel
theorem dX9_part_20 : decode cX9_part 20 = .ok (.imul, 1) := by decide +kernel
theorem dX9_part_21 : decode cX9_part 21 = .ok (.bipush 10, 2) := by decide +kernel
theorem dX9_part_23 : decode cX9_part 23 = .ok (.iadd, 1) := by decide +kernel
theorem dX9_part_24 : decode cX9_part 24 = .ok (.dup2, 1) := by decide +kernel
theorem dX9_part_25 : decode cX9_part 25 = .ok (.laload, 1) := by decide +kernel
theorem dX9_part_26 : decode cX9_part 26 = .ok (.lconst 1, 1) := by decide +kernel
theorem dX9_part_27 : decode cX9_part 27 = .ok (.iload_n 1, 1) := by decide +kernel
theorem dX9_part_28 : decode cX9_part 28 = .ok (.lshl, 1) := by decide +kernel
theorem dX9_part_29 : decode cX9_part 29 = .ok (.ldc2_w 193, 3) := by decide +kernel
theorem dX9_part_32 : decode cX9_part 32 = .ok (.lxor, 1) := by decide +kernel
theorem dX9_part_33 : decode cX9_part 33 = .ok (.land, 1) := by decide +kernel
theorem dX9_part_34 : decode cX9_part 34 = .ok (.lastore, 1) := by decide +kernel
theorem dX9_part_35 : decode cX9_part 35 = .ok (.iinc 2 1, 3) := by decide +kernel
theorem dX9_part_38 : decode cX9_part 38 = .ok (.goto (-36), 3) := by decide +kernel
theorem dX9_part_41 : decode cX9_part 41 = .ok (.return_, 1) := by decide +kernel
set_option maxHeartbeats 4000000 in
set_option maxRecDepth 100000 in
theorem g_X9_part (l : Launch) (G : xG) (S : yS) (d : yD) (h0 : Nat) (p0 : Int32) (hSh : ySh S) (hPo : yPo S d) (hm_h0 : h0 ∈ S.1) (hk_h0 : S.2.1 h0 = 9) (hI : yMI S d h0) (hr_p0 : 0 ≤ (p0 : Int32).toInt ∧ (p0 : Int32).toInt ≤ 7) : xWv l G yX9_part cX9_part 3 none 0 0 0 0 [.ref h0, .int p0] (yW G S d) (fun u : yD => yAg S [41] d u ∧ (yPo S d → yPo S u) ∧ yK [] d u h0 ∧ (yMI S u h0 ∧ zPf S d u h0 (fun _ => False))) (fun u => yW G S u) := by
  intro sz
  refine xstart (by decide) (Nat.le_of_ble_eq_true rfl) (fun p e s m args below meth c ls C0 hr hlocks hin hsz hP hK hD hN hl => ?_)
  obtain ⟨hx, hb, hml, hown, htl⟩ := id C0
  subst hsz
  have hD := hD.self (sz := s.heap.size)
  generalize hAe : va_A (yW G S d) s.heap.size = A at hD ⊢
  have hA : ∀ q : Nat, s.heap.size ≤ q → A q := fun q h => by rw [← hAe]; exact Or.inr h
  have hS : va_S A s.heap s.heap [] := va_S.rf
  have hg0 : yAg S [41] d d := yAg.rf
  have hl : lv_has ls 3 [(0, .ref h0), (1, .int p0)] := hl
  refine lv_iconst (v := 0) hx hb dX9_part_0 (by decide) ?_
  refine lv_istore_n (lv' := [(2, .int 0), (0, .ref h0), (1, .int p0)]) hx hb dX9_part_1 rfl hl (by decide) rfl (fun ls hl => ?_)
  refine yloop (σ := Int32 × yD) (fun x => (2147483647 - (x.1 : Int32).toInt).toNat) 2 (fun x H locs ls => va_P G.1 xcl (yW G S x.2) H ∧ va_D A (yW G S x.2) ∧ va_S A s.heap H locs ∧ yAg S [41] d x.2 ∧ yPo S x.2 ∧ yK [] d x.2 h0 ∧ yMI S x.2 h0 ∧ yAg S [41] d x.2 ∧ yK [] d x.2 h0 ∧ (zPf S d x.2 h0 (fun _ => False) ∧ 0 ≤ (x.1 : Int32).toInt) ∧ lv_has ls 3 [(2, .int x.1), (0, .ref h0), (1, .int p0)]) (fun x H locs ls hI hnext_3 => ?_) (0, d) ⟨hP, hD, hS, hg0, hPo, yK.rf, hI, yAg.rf, yK.rf, ⟨zPf.eq rfl, (show 0 ≤ (0 : Int32).toInt by decide)⟩, lv_sub hl [0, 1, 2] rfl⟩
  obtain ⟨v_1, d_2⟩ := x
  obtain ⟨hP, hD, hS, hgd_2, hPod_2, hfd_2, hId_2, hLJd_2, hKJd_2, hex_4, hl⟩ := hI
  have hId_2 : yMI S d_2 h0 := hId_2
  have hex_4 : (zPf S d d_2 h0 (fun _ => False) ∧ 0 ≤ (v_1 : Int32).toInt) := hex_4
  have hl : lv_has ls 3 [(2, .int v_1), (0, .ref h0), (1, .int p0)] := hl
  have hLJd_2 : yAg S [41] d d_2 := hLJd_2
  have hKJd_2 : yK [] d d_2 h0 := hKJd_2
  have hE0d_2 : (d_2.1 h0 0).toInt = (d.1 h0 0).toInt := congrArg Int32.toInt (hKJd_2 0 (by decide))
  have hE1d_2 : (d_2.1 h0 1).toInt = (d.1 h0 1).toInt := congrArg Int32.toInt (hKJd_2 1 (by decide))
  have hE2d_2 : (d_2.1 h0 2).toInt = (d.1 h0 2).toInt := congrArg Int32.toInt (hKJd_2 2 (by decide))
  have hE3d_2 : (d_2.1 h0 3).toInt = (d.1 h0 3).toInt := congrArg Int32.toInt (hKJd_2 3 (by decide))
  have hE63d_2 : (d_2.1 h0 63).toInt = (d.1 h0 63).toInt := congrArg Int32.toInt (hKJd_2 63 (by decide))
  have hxr_ := hex_4.2
  refine lv_iload_n hx hb dX9_part_2 rfl (lv_at hl 0 rfl) ?_
  refine lv_bipush (v := 8) hx hb dX9_part_3 (by decide) ?_
  refine lv_icmp_ge (tgt := 41) hx hb dX9_part_5 (by decide) (fun c_5 => ?_) (fun c_5 => ?_)
  · exact W.vret hx hb hr (fun t ht hW => ⟨⟨d_2, rfl, ⟨hgd_2, (fun _ => hPod_2), hfd_2, ⟨hId_2, hex_4.1⟩⟩, by rw [ht]; exact hP, hD⟩, hS.F ht⟩) hS.2.2 dX9_part_41
  · refine lv_iload_n hx hb dX9_part_8 rfl (lv_at hl 0 rfl) ?_
    refine lv_iload_n hx hb dX9_part_9 rfl (lv_at hl 2 rfl) ?_
    refine lv_icmp_eq (tgt := 35) hx hb dX9_part_10 (by decide) (fun c_6 => ?_) (fun c_6 => ?_)
    · refine lv_iinc (v := v_1 + 1) (lv' := [(2, .int (v_1 + 1)), (0, .ref h0), (1, .int p0)]) hx hb dX9_part_35 hl (k := 0) rfl rfl (by decide) rfl (fun ls hl => ?_)
      refine lv_goto (tgt := 2) hx hb dX9_part_38 (by decide) ?_
      have hCC_8 := yMI.c hId_2
      have F_9 := fnle (by decide +kernel : (8 : Int32).toInt = 8) (rfl : (v_1 : Int32).toInt = (v_1 : Int32).toInt) c_5
      have F_10 := feq (rfl : (v_1 : Int32).toInt = (v_1 : Int32).toInt) (rfl : (p0 : Int32).toInt = (p0 : Int32).toInt) c_6
      have T_11 : ((v_1 + 1) : Int32).toInt = (v_1 : Int32).toInt + 1 := tadd rfl (rfl : (v_1 : Int32).toInt = (v_1 : Int32).toInt) (by decide +kernel : (1 : Int32).toInt = 1) (by omega) (by omega)
      exact hnext_3 (v_1 + 1, d_2) _ _ ls (xup c_5) ⟨hP, hD, hS, hgd_2, hPod_2, hfd_2, hId_2, hLJd_2, hKJd_2, ⟨zPf.tr hex_4.1 (zPf.eq rfl), (show 0 ≤ (v_1 + 1 : Int32).toInt from by omega)⟩, lv_sub hl [0, 1, 2] rfl⟩
    · refine lv_aload_n hx hb dX9_part_13 rfl (lv_at hl 1 rfl) ?_
      refine yget (ci := 9) (k := 11) (v := .ref (S.2.2.1 h0 11)) (C := RX9) (T := TX9) (N := 67) C0 hK hP hm_h0 hk_h0 (by decide) rfl inlX9 (by decide) mW116 (fun _ h9 => h9) rfl dX9_part_14 ?_
      obtain ⟨hmy_12, hky_12⟩ := ySh.f9_11 hSh _ hm_h0 hk_h0
      refine lv_bipush (v := 12) hx hb dX9_part_17 (by decide) ?_
      refine lv_iload_n hx hb dX9_part_19 rfl (lv_at hl 0 rfl) ?_
      refine lv_imul hx hb dX9_part_20 ?_
      refine lv_topi (fun z_13 ez_13 => ?_)
      refine lv_bipush (v := 10) hx hb dX9_part_21 (by decide) ?_
      refine lv_iadd hx hb dX9_part_23 ?_
      refine lv_topi (fun z_14 ez_14 => ?_)
      refine lv_dup2_11 hx hb dX9_part_24 rfl rfl ?_
      have hCC_15 := yMI.c hId_2
      have F_16 := fnle (by decide +kernel : (8 : Int32).toInt = 8) (rfl : (v_1 : Int32).toInt = (v_1 : Int32).toInt) c_5
      have F_17 := fne (rfl : (v_1 : Int32).toInt = (v_1 : Int32).toInt) (rfl : (p0 : Int32).toInt = (p0 : Int32).toInt) c_6
      have T_19 : (z_13 : Int32).toInt = 12 * (v_1 : Int32).toInt := tmul ez_13 (by decide +kernel : (12 : Int32).toInt = 12) (rfl : (v_1 : Int32).toInt = (v_1 : Int32).toInt) (by omega) (by omega)
      have T_18 : (z_14 : Int32).toInt = (z_13 : Int32).toInt + 10 := tadd ez_14 (rfl : (z_13 : Int32).toInt = (z_13 : Int32).toInt) (by decide +kernel : (10 : Int32).toInt = 10) (by omega) (by omega)
      refine yaldJ C0 hK hP hmy_12 hky_12 (by decide) rfl 4 rfl (xinT 96 rfl (by omega) (by omega)) dX9_part_25 ?_
      refine lv_topl (fun z_20 ez_20 => ?_)
      refine lv_lconst (v := 1) hx hb dX9_part_26 (by decide) ?_
      refine lv_iload_n hx hb dX9_part_27 rfl (lv_at hl 2 rfl) ?_
      refine lv_lshl hx hb dX9_part_28 rfl ?_
      refine lv_topl (fun z_21 ez_21 => ?_)
      refine lv_ldc2 (v := (-1)) hx hb hown (htl (.constantLong RX9 193 (-1)) mW369) dX9_part_29 ?_
      refine lv_lxor hx hb dX9_part_32 ?_
      refine lv_topl (fun z_22 ez_22 => ?_)
      refine lv_land hx hb dX9_part_33 ?_
      refine lv_topl (fun z_23 ez_23 => ?_)
      refine yastJ C0 hK hP hD hS hmy_12 hky_12 (by decide) rfl 4 rfl (xinT 96 rfl (by omega) (by omega)) dX9_part_34 (fun H locs hP hD hS => ?_)
      obtain ⟨d_24, ed_24⟩ : ∃ z : yD, z = ye d_2 (S.2.2.1 h0 11) (z_14 : Int32).toNatClampNeg z_23 := ⟨_, rfl⟩
      rw [← ed_24] at hP hD
      have hgd_24 : yAg S [41] d d_24 := by rw [ed_24]; exact yAg.e hgd_2 (by rw [hky_12]; decide)
      have hsd_24 : yAg S [41] d_2 d_24 := by rw [ed_24]; exact yAg.e yAg.rf (by rw [hky_12]; decide)
      have hPod_24 : yPo S d_24 := by rw [ed_24]; exact hPod_2
      have hfd_24 : yK [] d d_24 h0 := yK.ag hfd_2 (show yAg S [41] d_2 d_24 from by rw [ed_24]; exact yAg.e yAg.rf (by rw [hky_12]; decide)) (by rw [hk_h0]; decide)
      have hL0d_24 : yAg S [41] d d_24 := by rw [ed_24]; exact yAg.e hLJd_2 (by rw [hky_12]; decide)
      have hK0d_24 : yK [] d d_24 h0 := yK.ag hKJd_2 (show yAg S [41] d_2 d_24 from by rw [ed_24]; exact yAg.e yAg.rf (by rw [hky_12]; decide)) (by rw [hk_h0]; decide)
      have hId_24 : yMI S d_24 h0 := by rw [ed_24]; exact yMI.w11 hId_2 hSh hm_h0 hk_h0 (yBp.up (yMI.bp_ hId_2) (fun p hp e => by have e_ : (z_14 : Int32).toInt.toNat = 12 * p + 1 := e; refine ⟨?_, ?_⟩ <;> omega) (fun p hp e => by have e_ : (z_14 : Int32).toInt.toNat = 12 * p + 2 := e; refine ⟨?_, ?_⟩ <;> omega) (fun p hp e => by have e_ : (z_14 : Int32).toInt.toNat = 12 * p + 6 := e; refine ⟨?_, ?_⟩ <;> omega))
      have hE0d_24 : (d_24.1 h0 0).toInt = (d_2.1 h0 0).toInt := congrArg Int32.toInt ((yK.ag (F := []) yK.rf (show yAg S [41] d_2 d_24 from by rw [ed_24]; exact yAg.e yAg.rf (by rw [hky_12]; decide)) (by rw [hk_h0]; decide)) 0 (by decide))
      have hE1d_24 : (d_24.1 h0 1).toInt = (d_2.1 h0 1).toInt := congrArg Int32.toInt ((yK.ag (F := []) yK.rf (show yAg S [41] d_2 d_24 from by rw [ed_24]; exact yAg.e yAg.rf (by rw [hky_12]; decide)) (by rw [hk_h0]; decide)) 1 (by decide))
      have hE2d_24 : (d_24.1 h0 2).toInt = (d_2.1 h0 2).toInt := congrArg Int32.toInt ((yK.ag (F := []) yK.rf (show yAg S [41] d_2 d_24 from by rw [ed_24]; exact yAg.e yAg.rf (by rw [hky_12]; decide)) (by rw [hk_h0]; decide)) 2 (by decide))
      have hE3d_24 : (d_24.1 h0 3).toInt = (d_2.1 h0 3).toInt := congrArg Int32.toInt ((yK.ag (F := []) yK.rf (show yAg S [41] d_2 d_24 from by rw [ed_24]; exact yAg.e yAg.rf (by rw [hky_12]; decide)) (by rw [hk_h0]; decide)) 3 (by decide))
      have hE63d_24 : (d_24.1 h0 63).toInt = (d_2.1 h0 63).toInt := congrArg Int32.toInt ((yK.ag (F := []) yK.rf (show yAg S [41] d_2 d_24 from by rw [ed_24]; exact yAg.e yAg.rf (by rw [hky_12]; decide)) (by rw [hk_h0]; decide)) 63 (by decide))
      refine lv_iinc (v := v_1 + 1) (lv' := [(2, .int (v_1 + 1)), (0, .ref h0), (1, .int p0)]) hx hb dX9_part_35 hl (k := 0) rfl rfl (by decide) rfl (fun ls hl => ?_)
      refine lv_goto (tgt := 2) hx hb dX9_part_38 (by decide) ?_
      have hCC_26 := yMI.c hId_24
      have T_27 : ((v_1 + 1) : Int32).toInt = (v_1 : Int32).toInt + 1 := tadd rfl (rfl : (v_1 : Int32).toInt = (v_1 : Int32).toInt) (by decide +kernel : (1 : Int32).toInt = 1) (by omega) (by omega)
      exact hnext_3 (v_1 + 1, d_24) _ _ ls (xup c_5) ⟨hP, hD, hS, hgd_24, hPod_24, hfd_24, hId_24, hL0d_24, hK0d_24, ⟨zPf.tr hex_4.1 (zPf.up ed_24 (fun q => by have e_ : (z_14 : Int32).toInt.toNat = (z_14 : Int32).toNatClampNeg := rfl; omega)), (show 0 ≤ (v_1 + 1 : Int32).toInt from by omega)⟩, lv_sub hl [0, 1, 2] rfl⟩
theorem dX9_put_0 : decode cX9_put 0 = .ok (.lload_n 3, 1) := by decide +kernel
theorem dX9_put_1 : decode cX9_put 1 = .ok (.lconst 0, 1) := by decide +kernel
theorem dX9_put_2 : decode cX9_put 2 = .ok (.lcmp, 1) := by decide +kernel
theorem dX9_put_3 : decode cX9_put 3 = .ok (.ifCond .lt 10, 3) := by decide +kernel
theorem dX9_put_6 : decode cX9_put 6 = .ok (.lload_n 3, 1) := by decide +kernel
theorem dX9_put_7 : decode cX9_put 7 = .ok (.lload 5, 2) := by decide +kernel
theorem dX9_put_9 : decode cX9_put 9 = .ok (.lcmp, 1) := by decide +kernel
theorem dX9_put_10 : decode cX9_put 10 = .ok (.ifCond .le 7, 3) := by decide +kernel
theorem dX9_put_13 : decode cX9_put 13 = .ok (.iconst 1, 1) := by decide +kernel
theorem dX9_put_14 : decode cX9_put 14 = .ok (.goto 8, 3) := by decide +kernel
theorem dX9_put_17 : decode cX9_put 17 = .ok (.aload_n 0, 1) := by decide +kernel
theorem dX9_put_18 : decode cX9_put 18 = .ok (.iload_n 1, 1) := by decide +kernel
theorem dX9_put_19 : decode cX9_put 19 = .ok (.invokevirtual 165, 3) := by decide +kernel
theorem dX9_put_22 : decode cX9_put 22 = .ok (.istore 7, 2) := by decide +kernel
theorem dX9_put_24 : decode cX9_put 24 = .ok (.iload 7, 2) := by decide +kernel
theorem dX9_put_26 : decode cX9_put 26 = .ok (.ifCond .eq 12, 3) := by decide +kernel
theorem dX9_put_29 : decode cX9_put 29 = .ok (.aload_n 0, 1) := by decide +kernel
theorem dX9_put_30 : decode cX9_put 30 = .ok (.iload 7, 2) := by decide +kernel
theorem dX9_put_32 : decode cX9_put 32 = .ok (.invokevirtual 168, 3) := by decide +kernel
theorem dX9_put_35 : decode cX9_put 35 = .ok (.pop, 1) := by decide +kernel
theorem dX9_put_36 : decode cX9_put 36 = .ok (.iconst 0, 1) := by decide +kernel
theorem dX9_put_37 : decode cX9_put 37 = .ok (.ireturn, 1) := by decide +kernel
theorem dX9_put_38 : decode cX9_put 38 = .ok (.aload_n 0, 1) := by decide +kernel
theorem dX9_put_39 : decode cX9_put 39 = .ok (.getfield 36, 3) := by decide +kernel
theorem dX9_put_42 : decode cX9_put 42 = .ok (.bipush 12, 2) := by decide +kernel
theorem dX9_put_44 : decode cX9_put 44 = .ok (.iload_n 1, 1) := by decide +kernel
theorem dX9_put_45 : decode cX9_put 45 = .ok (.imul, 1) := by decide +kernel
theorem dX9_put_46 : decode cX9_put 46 = .ok (.iload_n 2, 1) := by decide +kernel
theorem dX9_put_47 : decode cX9_put 47 = .ok (.iadd, 1) := by decide +kernel
theorem dX9_put_48 : decode cX9_put 48 = .ok (.lload_n 3, 1) := by decide +kernel
theorem dX9_put_49 : decode cX9_put 49 = .ok (.lastore, 1) := by decide +kernel
theorem dX9_put_50 : decode cX9_put 50 = .ok (.iconst 1, 1) := by decide +kernel
theorem dX9_put_51 : decode cX9_put 51 = .ok (.ireturn, 1) := by decide +kernel
set_option maxHeartbeats 4000000 in
set_option maxRecDepth 100000 in
theorem g_X9_put (l : Launch) (G : xG) (S : yS) (d : yD) (h0 : Nat) (p0 : Int32) (p1 : Int32) (p2 : Int64) (p3 : Int64) (hSh : ySh S) (hPo : yPo S d) (hm_h0 : h0 ∈ S.1) (hk_h0 : S.2.1 h0 = 9) (hI : yMI S d h0) (hp1 : (p1 : Int32).toInt = 3 ∨ (p1 : Int32).toInt = 7) : xWi l G yX9_put cX9_put 8 (some .boolean) 2 42 0 0 [.ref h0, .int p0, .int p1, .long p2, .long p3] (yW G S d) (fun r (u : yD) => yAg S [9, 41, 69] d u ∧ (yPo S d → yPo S u) ∧ yK [38] d u h0 ∧ (yMI S u h0 ∧ ((r.toInt = 0 ∧ ¬ (0 ≤ p0.toInt ∧ p0.toInt ≤ 7 ∧ yOI S d h0 p0.toInt.toNat = 1 ∧ 0 ≤ p2.toInt ∧ p2.toInt ≤ p3.toInt) ∧ zPf S d u h0 (fun _ => False)) ∨ (r.toInt = 1 ∧ (0 ≤ p0.toInt ∧ p0.toInt ≤ 7 ∧ yOI S d h0 p0.toInt.toNat = 1 ∧ 0 ≤ p2.toInt ∧ p2.toInt ≤ p3.toInt) ∧ u.2.2.2.2 (S.2.2.1 h0 11) (12 * p0.toInt.toNat + p1.toInt.toNat) = p2 ∧ zPf S d u h0 (fun i => i = 12 * p0.toInt.toNat + p1.toInt.toNat))))) (fun u => yW G S u) := by
  intro sz
  refine xstart (by decide) (Nat.le_of_ble_eq_true rfl) (fun p e s m args below meth c ls C0 hr hlocks hin hsz hP hK hD hN hl => ?_)
  obtain ⟨hx, hb, hml, hown, htl⟩ := id C0
  subst hsz
  have hD := hD.self (sz := s.heap.size)
  generalize hAe : va_A (yW G S d) s.heap.size = A at hD ⊢
  have hA : ∀ q : Nat, s.heap.size ≤ q → A q := fun q h => by rw [← hAe]; exact Or.inr h
  have hS : va_S A s.heap s.heap [] := va_S.rf
  have hg0 : yAg S [9, 41, 69] d d := yAg.rf
  have hl : lv_has ls 8 [(0, .ref h0), (1, .int p0), (2, .int p1), (3, .long p2), (5, .long p3)] := hl
  refine lv_lload_n hx hb dX9_put_0 rfl (lv_at hl 3 rfl) ?_
  refine lv_lconst (v := 0) hx hb dX9_put_1 (by decide) ?_
  refine W.lcmp hx hb dX9_put_2 ?_
  refine lv_topi (fun z_1 ez_1 => ?_)
  refine lv_if_lt (tgt := 13) hx hb dX9_put_3 (by decide) (fun c_2 => ?_) (fun c_2 => ?_)
  · refine lv_iconst (v := 1) hx hb dX9_put_13 (by decide) ?_
    refine lv_goto (tgt := 22) hx hb dX9_put_14 (by decide) ?_
    refine lv_istore (lv' := [(7, .int 1), (0, .ref h0), (1, .int p0), (2, .int p1), (3, .long p2), (5, .long p3)]) hx hb dX9_put_22 hl (by decide) rfl (fun ls hl => ?_)
    refine lv_iload hx hb dX9_put_24 (lv_at hl 0 rfl) ?_
    refine lv_if_eq (tgt := 38) hx hb dX9_put_26 (by decide) (fun c_3 => absurd c_3 (by decide +kernel)) (fun c_3 => ?_)
    refine lv_aload_n hx hb dX9_put_29 rfl (lv_at hl 1 rfl) ?_
    refine lv_iload hx hb dX9_put_30 (lv_at hl 0 rfl) ?_
    refine yVwi (As := [.int 1]) (rest := []) C0 (g_X9_no l G S d h0 1 hSh hPo hm_h0 hk_h0 (by decide +kernel)) ok_X9_no (mW177 : Cond.methodLink RX9 168 yX9_no ∈ wsT) ⟨Nat.le_of_ble_eq_true rfl, Nat.le_of_ble_eq_true rfl⟩ hP hD hS hA hK hN hm_h0 hk_h0 (by decide) rfl rfl rfl hl.1 rfl (Nat.le_of_ble_eq_true rfl) ⟨Nat.le_of_ble_eq_true rfl, Nat.le_of_ble_eq_true rfl⟩ dX9_put_32 (fun r_4 d_5 H locs hr_4 hP hD hS => ?_)
    obtain ⟨hgad_5, hpad_5, hfad_5, hxd_5⟩ := hr_4
    have hfd_5 : yK [38] d d_5 h0 := yK.tr yK.rf hfad_5 (by decide)
    have hE0d_5 : (d_5.1 h0 0).toInt = (d.1 h0 0).toInt := congrArg Int32.toInt (hfad_5 0 (by decide))
    have hE1d_5 : (d_5.1 h0 1).toInt = (d.1 h0 1).toInt := congrArg Int32.toInt (hfad_5 1 (by decide))
    have hE2d_5 : (d_5.1 h0 2).toInt = (d.1 h0 2).toInt := congrArg Int32.toInt (hfad_5 2 (by decide))
    have hE3d_5 : (d_5.1 h0 3).toInt = (d.1 h0 3).toInt := congrArg Int32.toInt (hfad_5 3 (by decide))
    have hE63d_5 : (d_5.1 h0 63).toInt = (d.1 h0 63).toInt := congrArg Int32.toInt (hfad_5 63 (by decide))
    have hId_5 : yMI S d_5 h0 := yMI.ag hI hSh hm_h0 hk_h0 hgad_5 hfad_5 (by decide) (by decide)
    have hgd_5 : yAg S [9, 41, 69] d d_5 := yAg.tr hg0 hgad_5 (by first | decide | exact fun _ h => h)
    have hPod_5 : yPo S d_5 := hpad_5 hPo
    refine lv_pop hx hb dX9_put_35 rfl ?_
    refine lv_iconst (v := 0) hx hb dX9_put_36 (by decide) ?_
    have hCC_6 := yMI.c hId_5
    have F_7 := fne (by decide +kernel : (1 : Int32).toInt = 1) (by decide +kernel : (0 : Int32).toInt = 0) c_3
    have T_8 : (0 : Int64).toInt = 0 := by decide +kernel
    have F_9 := jlt ez_1 c_2
    exact W.zret (v := 0) (ty := .boolean) hx hb hr rfl (fun t ht hW => ⟨⟨0, d_5, rfl, ⟨hgd_5, (fun _ => hPod_5), hfd_5, ⟨hId_5, Or.inl ⟨by have h0_ : (0 : Int32).toInt = 0 := (by decide +kernel); omega, by omega, (zPf.eq (hgad_5 _ (by rw [(ySh.f9_11 hSh h0 hm_h0 hk_h0).2]; decide)).2.2.2.2)⟩⟩⟩, by rw [ht]; exact hP, hD⟩, hS.F ht⟩) hS.2.2 dX9_put_37
  · refine lv_lload_n hx hb dX9_put_6 rfl (lv_at hl 3 rfl) ?_
    refine lv_lload hx hb dX9_put_7 (lv_at hl 4 rfl) ?_
    refine W.lcmp hx hb dX9_put_9 ?_
    refine lv_topi (fun z_10 ez_10 => ?_)
    refine lv_if_le (tgt := 17) hx hb dX9_put_10 (by decide) (fun c_11 => ?_) (fun c_11 => ?_)
    · refine lv_aload_n hx hb dX9_put_17 rfl (lv_at hl 0 rfl) ?_
      refine lv_iload_n hx hb dX9_put_18 rfl (lv_at hl 1 rfl) ?_
      refine yVri (As := [.int p0]) (rest := []) C0 (g_X9_portWhy l G S d h0 p0 hSh hm_h0 hk_h0) ok_X9_portWhy (mW387 : Cond.methodLink RX9 165 yX9_portWhy ∈ wsT) ⟨Nat.le_of_ble_eq_true rfl, Nat.le_of_ble_eq_true rfl⟩ hP hD hK hN hm_h0 hk_h0 (by decide) rfl rfl rfl hl.1 rfl (Nat.le_of_ble_eq_true rfl) ⟨Nat.le_of_ble_eq_true rfl, Nat.le_of_ble_eq_true rfl⟩ dX9_put_19 (fun r_12 hr_12 => ?_)
      refine lv_istore (lv' := [(7, .int r_12), (0, .ref h0), (1, .int p0), (2, .int p1), (3, .long p2), (5, .long p3)]) hx hb dX9_put_22 hl (by decide) rfl (fun ls hl => ?_)
      refine lv_iload hx hb dX9_put_24 (lv_at hl 0 rfl) ?_
      refine lv_if_eq (tgt := 38) hx hb dX9_put_26 (by decide) (fun c_13 => ?_) (fun c_13 => ?_)
      · refine lv_aload_n hx hb dX9_put_38 rfl (lv_at hl 1 rfl) ?_
        refine yget (ci := 9) (k := 11) (v := .ref (S.2.2.1 h0 11)) (C := RX9) (T := TX9) (N := 67) C0 hK hP hm_h0 hk_h0 (by decide) rfl inlX9 (by decide) mW116 (fun _ h9 => h9) rfl dX9_put_39 ?_
        obtain ⟨hmy_14, hky_14⟩ := ySh.f9_11 hSh _ hm_h0 hk_h0
        refine lv_bipush (v := 12) hx hb dX9_put_42 (by decide) ?_
        refine lv_iload_n hx hb dX9_put_44 rfl (lv_at hl 2 rfl) ?_
        refine lv_imul hx hb dX9_put_45 ?_
        refine lv_topi (fun z_15 ez_15 => ?_)
        refine lv_iload_n hx hb dX9_put_46 rfl (lv_at hl 3 rfl) ?_
        refine lv_iadd hx hb dX9_put_47 ?_
        refine lv_topi (fun z_16 ez_16 => ?_)
        refine lv_lload_n hx hb dX9_put_48 rfl (lv_at hl 4 rfl) ?_
        have hCC_17 := yMI.c hI
        have F_18 := feq (rfl : (r_12 : Int32).toInt = (r_12 : Int32).toInt) (by decide +kernel : (0 : Int32).toInt = 0) c_13
        have T_20 : (z_15 : Int32).toInt = 12 * (p0 : Int32).toInt := tmul ez_15 (by decide +kernel : (12 : Int32).toInt = 12) (rfl : (p0 : Int32).toInt = (p0 : Int32).toInt) (by omega) (by omega)
        have T_19 : (z_16 : Int32).toInt = (z_15 : Int32).toInt + (p1 : Int32).toInt := tadd ez_16 (rfl : (z_15 : Int32).toInt = (z_15 : Int32).toInt) (rfl : (p1 : Int32).toInt = (p1 : Int32).toInt) (by omega) (by omega)
        refine yastJ C0 hK hP hD hS hmy_14 hky_14 (by decide) rfl 4 rfl (xinT 96 rfl (by omega) (by omega)) dX9_put_49 (fun H locs hP hD hS => ?_)
        obtain ⟨d_21, ed_21⟩ : ∃ z : yD, z = ye d (S.2.2.1 h0 11) (z_16 : Int32).toNatClampNeg p2 := ⟨_, rfl⟩
        rw [← ed_21] at hP hD
        have hgd_21 : yAg S [9, 41, 69] d d_21 := by rw [ed_21]; exact yAg.e hg0 (by rw [hky_14]; decide)
        have hsd_21 : yAg S [41] d d_21 := by rw [ed_21]; exact yAg.e yAg.rf (by rw [hky_14]; decide)
        have hPod_21 : yPo S d_21 := by rw [ed_21]; exact hPo
        have hfd_21 : yK [38] d d_21 h0 := yK.ag yK.rf (show yAg S [41] d d_21 from by rw [ed_21]; exact yAg.e yAg.rf (by rw [hky_14]; decide)) (by rw [hk_h0]; decide)
        have hId_21 : yMI S d_21 h0 := by rw [ed_21]; exact yMI.w11 hI hSh hm_h0 hk_h0 (yBp.up (yMI.bp_ hI) (fun p hp e => by have e_ : (z_16 : Int32).toInt.toNat = 12 * p + 1 := e; refine ⟨?_, ?_⟩ <;> omega) (fun p hp e => by have e_ : (z_16 : Int32).toInt.toNat = 12 * p + 2 := e; refine ⟨?_, ?_⟩ <;> omega) (fun p hp e => by have e_ : (z_16 : Int32).toInt.toNat = 12 * p + 6 := e; refine ⟨?_, ?_⟩ <;> omega))
        have hE0d_21 : (d_21.1 h0 0).toInt = (d.1 h0 0).toInt := congrArg Int32.toInt ((yK.ag (F := []) yK.rf (show yAg S [41] d d_21 from by rw [ed_21]; exact yAg.e yAg.rf (by rw [hky_14]; decide)) (by rw [hk_h0]; decide)) 0 (by decide))
        have hE1d_21 : (d_21.1 h0 1).toInt = (d.1 h0 1).toInt := congrArg Int32.toInt ((yK.ag (F := []) yK.rf (show yAg S [41] d d_21 from by rw [ed_21]; exact yAg.e yAg.rf (by rw [hky_14]; decide)) (by rw [hk_h0]; decide)) 1 (by decide))
        have hE2d_21 : (d_21.1 h0 2).toInt = (d.1 h0 2).toInt := congrArg Int32.toInt ((yK.ag (F := []) yK.rf (show yAg S [41] d d_21 from by rw [ed_21]; exact yAg.e yAg.rf (by rw [hky_14]; decide)) (by rw [hk_h0]; decide)) 2 (by decide))
        have hE3d_21 : (d_21.1 h0 3).toInt = (d.1 h0 3).toInt := congrArg Int32.toInt ((yK.ag (F := []) yK.rf (show yAg S [41] d d_21 from by rw [ed_21]; exact yAg.e yAg.rf (by rw [hky_14]; decide)) (by rw [hk_h0]; decide)) 3 (by decide))
        have hE63d_21 : (d_21.1 h0 63).toInt = (d.1 h0 63).toInt := congrArg Int32.toInt ((yK.ag (F := []) yK.rf (show yAg S [41] d d_21 from by rw [ed_21]; exact yAg.e yAg.rf (by rw [hky_14]; decide)) (by rw [hk_h0]; decide)) 63 (by decide))
        refine lv_iconst (v := 1) hx hb dX9_put_50 (by decide) ?_
        have hCC_22 := yMI.c hId_21
        have T_23 : (0 : Int64).toInt = 0 := by decide +kernel
        have F_24 := jnlt ez_1 c_2
        have F_25 := jle ez_10 c_11
        exact W.zret (v := 1) (ty := .boolean) hx hb hr rfl (fun t ht hW => ⟨⟨1, d_21, rfl, ⟨hgd_21, (fun _ => hPod_21), hfd_21, ⟨hId_21, Or.inr ⟨by have h0_ : (1 : Int32).toInt = 1 := (by decide +kernel); omega, by omega, (by rw [show 12 * p0.toInt.toNat + p1.toInt.toNat = (z_16 : Int32).toNatClampNeg from (show _ = (z_16 : Int32).toInt.toNat by omega), ed_21]; exact ye_self), (zPf.up ed_21 (fun q => by have e_ : (z_16 : Int32).toInt.toNat = (z_16 : Int32).toNatClampNeg := rfl; (show _ = _; omega)))⟩⟩⟩, by rw [ht]; exact hP, hD⟩, hS.F ht⟩) hS.2.2 dX9_put_51
      · refine lv_aload_n hx hb dX9_put_29 rfl (lv_at hl 1 rfl) ?_
        refine lv_iload hx hb dX9_put_30 (lv_at hl 0 rfl) ?_
        have F_26 := fne (rfl : (r_12 : Int32).toInt = (r_12 : Int32).toInt) (by decide +kernel : (0 : Int32).toInt = 0) c_13
        refine yVwi (As := [.int r_12]) (rest := []) C0 (g_X9_no l G S d h0 r_12 hSh hPo hm_h0 hk_h0 (by refine ⟨?_, ?_⟩ <;> omega)) ok_X9_no (mW177 : Cond.methodLink RX9 168 yX9_no ∈ wsT) ⟨Nat.le_of_ble_eq_true rfl, Nat.le_of_ble_eq_true rfl⟩ hP hD hS hA hK hN hm_h0 hk_h0 (by decide) rfl rfl rfl hl.1 rfl (Nat.le_of_ble_eq_true rfl) ⟨Nat.le_of_ble_eq_true rfl, Nat.le_of_ble_eq_true rfl⟩ dX9_put_32 (fun r_27 d_28 H locs hr_27 hP hD hS => ?_)
        obtain ⟨hgad_28, hpad_28, hfad_28, hxd_28⟩ := hr_27
        have hfd_28 : yK [38] d d_28 h0 := yK.tr yK.rf hfad_28 (by decide)
        have hE0d_28 : (d_28.1 h0 0).toInt = (d.1 h0 0).toInt := congrArg Int32.toInt (hfad_28 0 (by decide))
        have hE1d_28 : (d_28.1 h0 1).toInt = (d.1 h0 1).toInt := congrArg Int32.toInt (hfad_28 1 (by decide))
        have hE2d_28 : (d_28.1 h0 2).toInt = (d.1 h0 2).toInt := congrArg Int32.toInt (hfad_28 2 (by decide))
        have hE3d_28 : (d_28.1 h0 3).toInt = (d.1 h0 3).toInt := congrArg Int32.toInt (hfad_28 3 (by decide))
        have hE63d_28 : (d_28.1 h0 63).toInt = (d.1 h0 63).toInt := congrArg Int32.toInt (hfad_28 63 (by decide))
        have hId_28 : yMI S d_28 h0 := yMI.ag hI hSh hm_h0 hk_h0 hgad_28 hfad_28 (by decide) (by decide)
        have hgd_28 : yAg S [9, 41, 69] d d_28 := yAg.tr hg0 hgad_28 (by first | decide | exact fun _ h => h)
        have hPod_28 : yPo S d_28 := hpad_28 hPo
        refine lv_pop hx hb dX9_put_35 rfl ?_
        refine lv_iconst (v := 0) hx hb dX9_put_36 (by decide) ?_
        have hCC_29 := yMI.c hId_28
        have T_30 : (0 : Int64).toInt = 0 := by decide +kernel
        have F_31 := jnlt ez_1 c_2
        have F_32 := jle ez_10 c_11
        exact W.zret (v := 0) (ty := .boolean) hx hb hr rfl (fun t ht hW => ⟨⟨0, d_28, rfl, ⟨hgd_28, (fun _ => hPod_28), hfd_28, ⟨hId_28, Or.inl ⟨by have h0_ : (0 : Int32).toInt = 0 := (by decide +kernel); omega, by omega, (zPf.eq (hgad_28 _ (by rw [(ySh.f9_11 hSh h0 hm_h0 hk_h0).2]; decide)).2.2.2.2)⟩⟩⟩, by rw [ht]; exact hP, hD⟩, hS.F ht⟩) hS.2.2 dX9_put_37
    · refine lv_iconst (v := 1) hx hb dX9_put_13 (by decide) ?_
      refine lv_goto (tgt := 22) hx hb dX9_put_14 (by decide) ?_
      refine lv_istore (lv' := [(7, .int 1), (0, .ref h0), (1, .int p0), (2, .int p1), (3, .long p2), (5, .long p3)]) hx hb dX9_put_22 hl (by decide) rfl (fun ls hl => ?_)
      refine lv_iload hx hb dX9_put_24 (lv_at hl 0 rfl) ?_
      refine lv_if_eq (tgt := 38) hx hb dX9_put_26 (by decide) (fun c_33 => absurd c_33 (by decide +kernel)) (fun c_33 => ?_)
      refine lv_aload_n hx hb dX9_put_29 rfl (lv_at hl 1 rfl) ?_
      refine lv_iload hx hb dX9_put_30 (lv_at hl 0 rfl) ?_
      refine yVwi (As := [.int 1]) (rest := []) C0 (g_X9_no l G S d h0 1 hSh hPo hm_h0 hk_h0 (by decide +kernel)) ok_X9_no (mW177 : Cond.methodLink RX9 168 yX9_no ∈ wsT) ⟨Nat.le_of_ble_eq_true rfl, Nat.le_of_ble_eq_true rfl⟩ hP hD hS hA hK hN hm_h0 hk_h0 (by decide) rfl rfl rfl hl.1 rfl (Nat.le_of_ble_eq_true rfl) ⟨Nat.le_of_ble_eq_true rfl, Nat.le_of_ble_eq_true rfl⟩ dX9_put_32 (fun r_34 d_35 H locs hr_34 hP hD hS => ?_)
      obtain ⟨hgad_35, hpad_35, hfad_35, hxd_35⟩ := hr_34
      have hfd_35 : yK [38] d d_35 h0 := yK.tr yK.rf hfad_35 (by decide)
      have hE0d_35 : (d_35.1 h0 0).toInt = (d.1 h0 0).toInt := congrArg Int32.toInt (hfad_35 0 (by decide))
      have hE1d_35 : (d_35.1 h0 1).toInt = (d.1 h0 1).toInt := congrArg Int32.toInt (hfad_35 1 (by decide))
      have hE2d_35 : (d_35.1 h0 2).toInt = (d.1 h0 2).toInt := congrArg Int32.toInt (hfad_35 2 (by decide))
      have hE3d_35 : (d_35.1 h0 3).toInt = (d.1 h0 3).toInt := congrArg Int32.toInt (hfad_35 3 (by decide))
      have hE63d_35 : (d_35.1 h0 63).toInt = (d.1 h0 63).toInt := congrArg Int32.toInt (hfad_35 63 (by decide))
      have hId_35 : yMI S d_35 h0 := yMI.ag hI hSh hm_h0 hk_h0 hgad_35 hfad_35 (by decide) (by decide)
      have hgd_35 : yAg S [9, 41, 69] d d_35 := yAg.tr hg0 hgad_35 (by first | decide | exact fun _ h => h)
      have hPod_35 : yPo S d_35 := hpad_35 hPo
      refine lv_pop hx hb dX9_put_35 rfl ?_
      refine lv_iconst (v := 0) hx hb dX9_put_36 (by decide) ?_
      have hCC_36 := yMI.c hId_35
      have F_37 := fne (by decide +kernel : (1 : Int32).toInt = 1) (by decide +kernel : (0 : Int32).toInt = 0) c_33
      have T_38 : (0 : Int64).toInt = 0 := by decide +kernel
      have F_39 := jnlt ez_1 c_2
      have F_40 := jnle ez_10 c_11
      exact W.zret (v := 0) (ty := .boolean) hx hb hr rfl (fun t ht hW => ⟨⟨0, d_35, rfl, ⟨hgd_35, (fun _ => hPod_35), hfd_35, ⟨hId_35, Or.inl ⟨by have h0_ : (0 : Int32).toInt = 0 := (by decide +kernel); omega, by omega, (zPf.eq (hgad_35 _ (by rw [(ySh.f9_11 hSh h0 hm_h0 hk_h0).2]; decide)).2.2.2.2)⟩⟩⟩, by rw [ht]; exact hP, hD⟩, hS.F ht⟩) hS.2.2 dX9_put_37
theorem dX9_isEnded_0 : decode cX9_isEnded 0 = .ok (.aload_n 0, 1) := by decide +kernel
theorem dX9_isEnded_1 : decode cX9_isEnded 1 = .ok (.getfield 260, 3) := by decide +kernel
theorem dX9_isEnded_4 : decode cX9_isEnded 4 = .ok (.ifCond .le 7, 3) := by decide +kernel
theorem dX9_isEnded_7 : decode cX9_isEnded 7 = .ok (.iconst 1, 1) := by decide +kernel
theorem dX9_isEnded_8 : decode cX9_isEnded 8 = .ok (.goto 4, 3) := by decide +kernel
theorem dX9_isEnded_11 : decode cX9_isEnded 11 = .ok (.iconst 0, 1) := by decide +kernel
theorem dX9_isEnded_12 : decode cX9_isEnded 12 = .ok (.istore_n 2, 1) := by decide +kernel
theorem dX9_isEnded_13 : decode cX9_isEnded 13 = .ok (.iconst 0, 1) := by decide +kernel
theorem dX9_isEnded_14 : decode cX9_isEnded 14 = .ok (.istore_n 3, 1) := by decide +kernel
theorem dX9_isEnded_15 : decode cX9_isEnded 15 = .ok (.iload_n 3, 1) := by decide +kernel
theorem dX9_isEnded_16 : decode cX9_isEnded 16 = .ok (.bipush 8, 2) := by decide +kernel
theorem dX9_isEnded_18 : decode cX9_isEnded 18 = .ok (.if_icmp .ge 64, 3) := by decide +kernel
theorem dX9_isEnded_21 : decode cX9_isEnded 21 = .ok (.aload_n 0, 1) := by decide +kernel
theorem dX9_isEnded_22 : decode cX9_isEnded 22 = .ok (.getfield 36, 3) := by decide +kernel
theorem dX9_isEnded_25 : decode cX9_isEnded 25 = .ok (.bipush 12, 2) := by decide +kernel
theorem dX9_isEnded_27 : decode cX9_isEnded 27 = .ok (.iload_n 1, 1) := by decide +kernel
theorem dX9_isEnded_28 : decode cX9_isEnded 28 = .ok (.imul, 1) := by decide +kernel
theorem dX9_isEnded_29 : decode cX9_isEnded 29 = .ok (.bipush 10, 2) := by decide +kernel
theorem dX9_isEnded_31 : decode cX9_isEnded 31 = .ok (.iadd, 1) := by decide +kernel
theorem dX9_isEnded_32 : decode cX9_isEnded 32 = .ok (.laload, 1) := by decide +kernel
theorem dX9_isEnded_33 : decode cX9_isEnded 33 = .ok (.iload_n 3, 1) := by decide +kernel
theorem dX9_isEnded_34 : decode cX9_isEnded 34 = .ok (.lshr, 1) := by decide +kernel
theorem dX9_isEnded_35 : decode cX9_isEnded 35 = .ok (.lconst 1, 1) := by decide +kernel
theorem dX9_isEnded_36 : decode cX9_isEnded 36 = .ok (.land, 1) := by decide +kernel
theorem dX9_isEnded_37 : decode cX9_isEnded 37 = .ok (.lconst 1, 1) := by decide +kernel
theorem dX9_isEnded_38 : decode cX9_isEnded 38 = .ok (.lcmp, 1) := by decide +kernel
theorem dX9_isEnded_39 : decode cX9_isEnded 39 = .ok (.ifCond .ne 37, 3) := by decide +kernel
theorem dX9_isEnded_42 : decode cX9_isEnded 42 = .ok (.aload_n 0, 1) := by decide +kernel
theorem dX9_isEnded_43 : decode cX9_isEnded 43 = .ok (.iload_n 3, 1) := by decide +kernel
theorem dX9_isEnded_44 : decode cX9_isEnded 44 = .ok (.invokevirtual 157, 3) := by decide +kernel
theorem dX9_isEnded_47 : decode cX9_isEnded 47 = .ok (.ifCond .eq 29, 3) := by decide +kernel
theorem dX9_isEnded_50 : decode cX9_isEnded 50 = .ok (.aload_n 0, 1) := by decide +kernel
theorem dX9_isEnded_51 : decode cX9_isEnded 51 = .ok (.iload_n 3, 1) := by decide +kernel
theorem dX9_isEnded_52 : decode cX9_isEnded 52 = .ok (.invokevirtual 282, 3) := by decide +kernel
theorem dX9_isEnded_55 : decode cX9_isEnded 55 = .ok (.ifCond .eq 21, 3) := by decide +kernel
theorem dX9_isEnded_58 : decode cX9_isEnded 58 = .ok (.iload_n 2, 1) := by decide +kernel
theorem dX9_isEnded_59 : decode cX9_isEnded 59 = .ok (.ifCond .eq 15, 3) := by decide +kernel
theorem dX9_isEnded_62 : decode cX9_isEnded 62 = .ok (.aload_n 0, 1) := by decide +kernel
theorem dX9_isEnded_63 : decode cX9_isEnded 63 = .ok (.iload_n 3, 1) := by decide +kernel
theorem dX9_isEnded_64 : decode cX9_isEnded 64 = .ok (.invokevirtual 348, 3) := by decide +kernel
theorem dX9_isEnded_67 : decode cX9_isEnded 67 = .ok (.ifCond .eq 7, 3) := by decide +kernel
theorem dX9_isEnded_70 : decode cX9_isEnded 70 = .ok (.iconst 1, 1) := by decide +kernel
theorem dX9_isEnded_71 : decode cX9_isEnded 71 = .ok (.goto 4, 3) := by decide +kernel
theorem dX9_isEnded_74 : decode cX9_isEnded 74 = .ok (.iconst 0, 1) := by decide +kernel
theorem dX9_isEnded_75 : decode cX9_isEnded 75 = .ok (.istore_n 2, 1) := by decide +kernel
theorem dX9_isEnded_76 : decode cX9_isEnded 76 = .ok (.iinc 3 1, 3) := by decide +kernel
theorem dX9_isEnded_79 : decode cX9_isEnded 79 = .ok (.goto (-64), 3) := by decide +kernel
theorem dX9_isEnded_82 : decode cX9_isEnded 82 = .ok (.iload_n 2, 1) := by decide +kernel
theorem dX9_isEnded_83 : decode cX9_isEnded 83 = .ok (.ireturn, 1) := by decide +kernel
set_option maxHeartbeats 4000000 in
set_option maxRecDepth 100000 in
theorem g_X9_isEnded (l : Launch) (G : xG) (S : yS) (d : yD) (h0 : Nat) (p0 : Int32) (hSh : ySh S) (hm_h0 : h0 ∈ S.1) (hk_h0 : S.2.1 h0 = 9) (hI : yMI S d h0) (hr_p0 : 0 ≤ (p0 : Int32).toInt ∧ (p0 : Int32).toInt ≤ 7) : xRi l G yX9_isEnded cX9_isEnded 4 (some .boolean) 5 112 [.ref h0, .int p0] (yW G S d) (fun r => r = 0 ∨ r = 1) := by
  intro sz
  refine xstart (by decide) (Nat.le_of_ble_eq_true rfl) (fun p e s m args below meth c ls C0 hr hlocks hin hsz hP hK hD hN hl => ?_)
  obtain ⟨hx, hb, hml, hown, htl⟩ := id C0
  have hl : lv_has ls 4 [(0, .ref h0), (1, .int p0)] := hl
  refine lv_aload_n hx hb dX9_isEnded_0 rfl (lv_at hl 0 rfl) ?_
  refine yget (ci := 9) (k := 62) (v := .int (d.1 h0 62)) (C := RX9) (T := TX9) (N := 67) C0 hK hP hm_h0 hk_h0 (by decide) rfl inlX9 (by decide) mW877 (fun _ h9 => h9) rfl dX9_isEnded_1 ?_
  refine lv_topi (fun z_1 ez_1 => ?_)
  refine lv_if_le (tgt := 11) hx hb dX9_isEnded_4 (by decide) (fun c_2 => ?_) (fun c_2 => ?_)
  · refine lv_iconst (v := 0) hx hb dX9_isEnded_11 (by decide) ?_
    refine lv_istore_n (lv' := [(2, .int 0), (0, .ref h0), (1, .int p0)]) hx hb dX9_isEnded_12 rfl hl (by decide) rfl (fun ls hl => ?_)
    refine lv_iconst (v := 0) hx hb dX9_isEnded_13 (by decide) ?_
    refine lv_istore_n (lv' := [(3, .int 0), (2, .int 0), (0, .ref h0), (1, .int p0)]) hx hb dX9_isEnded_14 rfl hl (by decide) rfl (fun ls hl => ?_)
    have hCC_3 := yMI.c hI
    have T_4 : (z_1 : Int32).toInt = (d.1 h0 62).toInt := by rw [ez_1]
    have F_5 := fle (rfl : (z_1 : Int32).toInt = (z_1 : Int32).toInt) (by decide +kernel : (0 : Int32).toInt = 0) c_2
    refine yloopR (σ := Int32 × Int32) (fun x => (2147483647 - (x.2 : Int32).toInt).toNat) 15 (fun x ls => ((((x.1) : Int32).toInt = 0 ∨ ((x.1) : Int32).toInt = 1) ∧ 0 ≤ ((x.2) : Int32).toInt) ∧ lv_has ls 4 [(3, .int x.2), (2, .int x.1), (0, .ref h0), (1, .int p0)]) (fun x ls hl hnext_8 => ?_) (0, 0) ⟨(show ((((0) : Int32).toInt = 0 ∨ ((0) : Int32).toInt = 1) ∧ 0 ≤ ((0) : Int32).toInt) from by have hl0_ : (0 : Int32).toInt = 0 := (by decide +kernel); have hl1_ : (0 : Int32).toInt = 0 := (by decide +kernel); have hq0_ : (0 : Int32).toInt = 0 := (by decide +kernel); omega), lv_sub hl [0, 1, 2, 3] rfl⟩
    obtain ⟨v_6, v_7⟩ := x
    obtain ⟨hex_9, hl⟩ := hl
    have hex_9 : ((((v_6) : Int32).toInt = 0 ∨ ((v_6) : Int32).toInt = 1) ∧ 0 ≤ ((v_7) : Int32).toInt) := hex_9
    have hl : lv_has ls 4 [(3, .int v_7), (2, .int v_6), (0, .ref h0), (1, .int p0)] := hl
    refine lv_iload_n hx hb dX9_isEnded_15 rfl (lv_at hl 0 rfl) ?_
    refine lv_bipush (v := 8) hx hb dX9_isEnded_16 (by decide) ?_
    refine lv_icmp_ge (tgt := 82) hx hb dX9_isEnded_18 (by decide) (fun c_10 => ?_) (fun c_10 => ?_)
    · refine lv_iload_n hx hb dX9_isEnded_82 rfl (lv_at hl 1 rfl) ?_
      exact W.zret (v := v_6) (ty := .boolean) hx hb hr (znb (xb01 (by omega))).1 (fun t ht hW => ⟨v_6, rfl, (xb01 (by omega)), ht⟩) (fun q hq => by cases hq) dX9_isEnded_83
    · refine lv_aload_n hx hb dX9_isEnded_21 rfl (lv_at hl 2 rfl) ?_
      refine yget (ci := 9) (k := 11) (v := .ref (S.2.2.1 h0 11)) (C := RX9) (T := TX9) (N := 67) C0 hK hP hm_h0 hk_h0 (by decide) rfl inlX9 (by decide) mW116 (fun _ h9 => h9) rfl dX9_isEnded_22 ?_
      obtain ⟨hmy_11, hky_11⟩ := ySh.f9_11 hSh _ hm_h0 hk_h0
      refine lv_bipush (v := 12) hx hb dX9_isEnded_25 (by decide) ?_
      refine lv_iload_n hx hb dX9_isEnded_27 rfl (lv_at hl 3 rfl) ?_
      refine lv_imul hx hb dX9_isEnded_28 ?_
      refine lv_topi (fun z_12 ez_12 => ?_)
      refine lv_bipush (v := 10) hx hb dX9_isEnded_29 (by decide) ?_
      refine lv_iadd hx hb dX9_isEnded_31 ?_
      refine lv_topi (fun z_13 ez_13 => ?_)
      have F_14 := fnle (by decide +kernel : (8 : Int32).toInt = 8) (rfl : (v_7 : Int32).toInt = (v_7 : Int32).toInt) c_10
      have T_16 : (z_12 : Int32).toInt = 12 * (p0 : Int32).toInt := tmul ez_12 (by decide +kernel : (12 : Int32).toInt = 12) (rfl : (p0 : Int32).toInt = (p0 : Int32).toInt) (by omega) (by omega)
      have T_15 : (z_13 : Int32).toInt = (z_12 : Int32).toInt + 10 := tadd ez_13 (rfl : (z_12 : Int32).toInt = (z_12 : Int32).toInt) (by decide +kernel : (10 : Int32).toInt = 10) (by omega) (by omega)
      refine yaldJ C0 hK hP hmy_11 hky_11 (by decide) rfl 4 rfl (xinT 96 rfl (by omega) (by omega)) dX9_isEnded_32 ?_
      refine lv_topl (fun z_17 ez_17 => ?_)
      refine lv_iload_n hx hb dX9_isEnded_33 rfl (lv_at hl 0 rfl) ?_
      refine lv_lshr hx hb dX9_isEnded_34 rfl ?_
      refine lv_topl (fun z_18 ez_18 => ?_)
      refine lv_lconst (v := 1) hx hb dX9_isEnded_35 (by decide) ?_
      refine lv_land hx hb dX9_isEnded_36 ?_
      refine lv_topl (fun z_19 ez_19 => ?_)
      refine lv_lconst (v := 1) hx hb dX9_isEnded_37 (by decide) ?_
      refine W.lcmp hx hb dX9_isEnded_38 ?_
      refine lv_topi (fun z_20 ez_20 => ?_)
      refine lv_if_ne (tgt := 76) hx hb dX9_isEnded_39 (by decide) (fun c_21 => ?_) (fun c_21 => ?_)
      · refine lv_iinc (v := v_7 + 1) (lv' := [(3, .int (v_7 + 1)), (2, .int v_6), (0, .ref h0), (1, .int p0)]) hx hb dX9_isEnded_76 hl (k := 0) rfl rfl (by decide) rfl (fun ls hl => ?_)
        refine lv_goto (tgt := 15) hx hb dX9_isEnded_79 (by decide) ?_
        have T_23 : ((v_7 + 1) : Int32).toInt = (v_7 : Int32).toInt + 1 := tadd rfl (rfl : (v_7 : Int32).toInt = (v_7 : Int32).toInt) (by decide +kernel : (1 : Int32).toInt = 1) (by omega) (by omega)
        exact hnext_8 (v_6, v_7 + 1) ls (xup c_10) ⟨(show ((((v_6) : Int32).toInt = 0 ∨ ((v_6) : Int32).toInt = 1) ∧ 0 ≤ (((v_7 + 1)) : Int32).toInt) from by have hq0_ : (0 : Int32).toInt = 0 := (by decide +kernel); omega), (lv_sub hl [0, 1, 2, 3] rfl)⟩
      · refine lv_aload_n hx hb dX9_isEnded_42 rfl (lv_at hl 2 rfl) ?_
        refine lv_iload_n hx hb dX9_isEnded_43 rfl (lv_at hl 0 rfl) ?_
        refine yVri (As := [.int v_7]) (rest := []) C0 (g_X9_isOpen l G S d h0 v_7 hSh hm_h0 hk_h0) ok_X9_isOpen (mW391 : Cond.methodLink RX9 157 yX9_isOpen ∈ wsT) ⟨Nat.le_of_ble_eq_true rfl, Nat.le_of_ble_eq_true rfl⟩ hP hD hK hN hm_h0 hk_h0 (by decide) rfl rfl rfl hl.1 rfl (Nat.le_of_ble_eq_true rfl) ⟨Nat.le_of_ble_eq_true rfl, Nat.le_of_ble_eq_true rfl⟩ dX9_isEnded_44 (fun r_24 hr_24 => ?_)
        refine lv_if_eq (tgt := 76) hx hb dX9_isEnded_47 (by decide) (fun c_25 => ?_) (fun c_25 => ?_)
        · refine lv_iinc (v := v_7 + 1) (lv' := [(3, .int (v_7 + 1)), (2, .int v_6), (0, .ref h0), (1, .int p0)]) hx hb dX9_isEnded_76 hl (k := 0) rfl rfl (by decide) rfl (fun ls hl => ?_)
          refine lv_goto (tgt := 15) hx hb dX9_isEnded_79 (by decide) ?_
          have F_27 := feq (rfl : (r_24 : Int32).toInt = (r_24 : Int32).toInt) (by decide +kernel : (0 : Int32).toInt = 0) c_25
          have T_28 : ((v_7 + 1) : Int32).toInt = (v_7 : Int32).toInt + 1 := tadd rfl (rfl : (v_7 : Int32).toInt = (v_7 : Int32).toInt) (by decide +kernel : (1 : Int32).toInt = 1) (by omega) (by omega)
          exact hnext_8 (v_6, v_7 + 1) ls (xup c_10) ⟨(show ((((v_6) : Int32).toInt = 0 ∨ ((v_6) : Int32).toInt = 1) ∧ 0 ≤ (((v_7 + 1)) : Int32).toInt) from by have hq0_ : (0 : Int32).toInt = 0 := (by decide +kernel); omega), (lv_sub hl [0, 1, 2, 3] rfl)⟩
        · refine lv_aload_n hx hb dX9_isEnded_50 rfl (lv_at hl 2 rfl) ?_
          refine lv_iload_n hx hb dX9_isEnded_51 rfl (lv_at hl 0 rfl) ?_
          have F_29 := fne (rfl : (r_24 : Int32).toInt = (r_24 : Int32).toInt) (by decide +kernel : (0 : Int32).toInt = 0) c_25
          refine yVri (As := [.int v_7]) (rest := []) C0 (g_X9_doesCount l G S d h0 v_7 hSh hm_h0 hk_h0 hI (by refine ⟨?_, ?_⟩ <;> omega)) ok_X9_doesCount (mW643 : Cond.methodLink RX9 282 yX9_doesCount ∈ wsT) ⟨Nat.le_of_ble_eq_true rfl, Nat.le_of_ble_eq_true rfl⟩ hP hD hK hN hm_h0 hk_h0 (by decide) rfl rfl rfl hl.1 rfl (Nat.le_of_ble_eq_true rfl) ⟨Nat.le_of_ble_eq_true rfl, Nat.le_of_ble_eq_true rfl⟩ dX9_isEnded_52 (fun r_30 hr_30 => ?_)
          refine lv_if_eq (tgt := 76) hx hb dX9_isEnded_55 (by decide) (fun c_31 => ?_) (fun c_31 => ?_)
          · refine lv_iinc (v := v_7 + 1) (lv' := [(3, .int (v_7 + 1)), (2, .int v_6), (0, .ref h0), (1, .int p0)]) hx hb dX9_isEnded_76 hl (k := 0) rfl rfl (by decide) rfl (fun ls hl => ?_)
            refine lv_goto (tgt := 15) hx hb dX9_isEnded_79 (by decide) ?_
            have F_33 := feq (rfl : (r_30 : Int32).toInt = (r_30 : Int32).toInt) (by decide +kernel : (0 : Int32).toInt = 0) c_31
            have T_34 : ((v_7 + 1) : Int32).toInt = (v_7 : Int32).toInt + 1 := tadd rfl (rfl : (v_7 : Int32).toInt = (v_7 : Int32).toInt) (by decide +kernel : (1 : Int32).toInt = 1) (by omega) (by omega)
            exact hnext_8 (v_6, v_7 + 1) ls (xup c_10) ⟨(show ((((v_6) : Int32).toInt = 0 ∨ ((v_6) : Int32).toInt = 1) ∧ 0 ≤ (((v_7 + 1)) : Int32).toInt) from by have hq0_ : (0 : Int32).toInt = 0 := (by decide +kernel); omega), (lv_sub hl [0, 1, 2, 3] rfl)⟩
          · refine lv_iload_n hx hb dX9_isEnded_58 rfl (lv_at hl 1 rfl) ?_
            refine lv_if_eq (tgt := 74) hx hb dX9_isEnded_59 (by decide) (fun c_35 => ?_) (fun c_35 => ?_)
            · refine lv_iconst (v := 0) hx hb dX9_isEnded_74 (by decide) ?_
              refine lv_istore_n (lv' := [(2, .int 0), (3, .int v_7), (0, .ref h0), (1, .int p0)]) hx hb dX9_isEnded_75 rfl hl (by decide) rfl (fun ls hl => ?_)
              refine lv_iinc (v := v_7 + 1) (lv' := [(3, .int (v_7 + 1)), (2, .int 0), (0, .ref h0), (1, .int p0)]) hx hb dX9_isEnded_76 hl (k := 1) rfl rfl (by decide) rfl (fun ls hl => ?_)
              refine lv_goto (tgt := 15) hx hb dX9_isEnded_79 (by decide) ?_
              have F_37 := fne (rfl : (r_30 : Int32).toInt = (r_30 : Int32).toInt) (by decide +kernel : (0 : Int32).toInt = 0) c_31
              have F_38 := feq (rfl : (v_6 : Int32).toInt = (v_6 : Int32).toInt) (by decide +kernel : (0 : Int32).toInt = 0) c_35
              have T_39 : ((v_7 + 1) : Int32).toInt = (v_7 : Int32).toInt + 1 := tadd rfl (rfl : (v_7 : Int32).toInt = (v_7 : Int32).toInt) (by decide +kernel : (1 : Int32).toInt = 1) (by omega) (by omega)
              exact hnext_8 (0, v_7 + 1) ls (xup c_10) ⟨(show ((((0) : Int32).toInt = 0 ∨ ((0) : Int32).toInt = 1) ∧ 0 ≤ (((v_7 + 1)) : Int32).toInt) from by have hl0_ : (0 : Int32).toInt = 0 := (by decide +kernel); have hq0_ : (0 : Int32).toInt = 0 := (by decide +kernel); omega), (lv_sub hl [0, 1, 2, 3] rfl)⟩
            · refine lv_aload_n hx hb dX9_isEnded_62 rfl (lv_at hl 2 rfl) ?_
              refine lv_iload_n hx hb dX9_isEnded_63 rfl (lv_at hl 0 rfl) ?_
              have F_40 := fne (rfl : (r_30 : Int32).toInt = (r_30 : Int32).toInt) (by decide +kernel : (0 : Int32).toInt = 0) c_31
              have F_41 := fne (rfl : (v_6 : Int32).toInt = (v_6 : Int32).toInt) (by decide +kernel : (0 : Int32).toInt = 0) c_35
              refine yVri (As := [.int v_7]) (rest := []) C0 (g_X9_hasEnd l G S d h0 v_7 hSh hm_h0 hk_h0 hI (by refine ⟨?_, ?_⟩ <;> omega)) ok_X9_hasEnd (mW1008 : Cond.methodLink RX9 348 yX9_hasEnd ∈ wsT) ⟨Nat.le_of_ble_eq_true rfl, Nat.le_of_ble_eq_true rfl⟩ hP hD hK hN hm_h0 hk_h0 (by decide) rfl rfl rfl hl.1 rfl (Nat.le_of_ble_eq_true rfl) ⟨Nat.le_of_ble_eq_true rfl, Nat.le_of_ble_eq_true rfl⟩ dX9_isEnded_64 (fun r_42 hr_42 => ?_)
              refine lv_if_eq (tgt := 74) hx hb dX9_isEnded_67 (by decide) (fun c_43 => ?_) (fun c_43 => ?_)
              · refine lv_iconst (v := 0) hx hb dX9_isEnded_74 (by decide) ?_
                refine lv_istore_n (lv' := [(2, .int 0), (3, .int v_7), (0, .ref h0), (1, .int p0)]) hx hb dX9_isEnded_75 rfl hl (by decide) rfl (fun ls hl => ?_)
                refine lv_iinc (v := v_7 + 1) (lv' := [(3, .int (v_7 + 1)), (2, .int 0), (0, .ref h0), (1, .int p0)]) hx hb dX9_isEnded_76 hl (k := 1) rfl rfl (by decide) rfl (fun ls hl => ?_)
                refine lv_goto (tgt := 15) hx hb dX9_isEnded_79 (by decide) ?_
                have F_45 := feq (rfl : (r_42 : Int32).toInt = (r_42 : Int32).toInt) (by decide +kernel : (0 : Int32).toInt = 0) c_43
                have T_46 : ((v_7 + 1) : Int32).toInt = (v_7 : Int32).toInt + 1 := tadd rfl (rfl : (v_7 : Int32).toInt = (v_7 : Int32).toInt) (by decide +kernel : (1 : Int32).toInt = 1) (by omega) (by omega)
                exact hnext_8 (0, v_7 + 1) ls (xup c_10) ⟨(show ((((0) : Int32).toInt = 0 ∨ ((0) : Int32).toInt = 1) ∧ 0 ≤ (((v_7 + 1)) : Int32).toInt) from by have hl0_ : (0 : Int32).toInt = 0 := (by decide +kernel); have hq0_ : (0 : Int32).toInt = 0 := (by decide +kernel); omega), (lv_sub hl [0, 1, 2, 3] rfl)⟩
              · refine lv_iconst (v := 1) hx hb dX9_isEnded_70 (by decide) ?_
                refine lv_goto (tgt := 75) hx hb dX9_isEnded_71 (by decide) ?_
                refine lv_istore_n (lv' := [(2, .int 1), (3, .int v_7), (0, .ref h0), (1, .int p0)]) hx hb dX9_isEnded_75 rfl hl (by decide) rfl (fun ls hl => ?_)
                refine lv_iinc (v := v_7 + 1) (lv' := [(3, .int (v_7 + 1)), (2, .int 1), (0, .ref h0), (1, .int p0)]) hx hb dX9_isEnded_76 hl (k := 1) rfl rfl (by decide) rfl (fun ls hl => ?_)
                refine lv_goto (tgt := 15) hx hb dX9_isEnded_79 (by decide) ?_
                have F_48 := fne (rfl : (r_42 : Int32).toInt = (r_42 : Int32).toInt) (by decide +kernel : (0 : Int32).toInt = 0) c_43
                have T_49 : ((v_7 + 1) : Int32).toInt = (v_7 : Int32).toInt + 1 := tadd rfl (rfl : (v_7 : Int32).toInt = (v_7 : Int32).toInt) (by decide +kernel : (1 : Int32).toInt = 1) (by omega) (by omega)
                exact hnext_8 (1, v_7 + 1) ls (xup c_10) ⟨(show ((((1) : Int32).toInt = 0 ∨ ((1) : Int32).toInt = 1) ∧ 0 ≤ (((v_7 + 1)) : Int32).toInt) from by have hl0_ : (1 : Int32).toInt = 1 := (by decide +kernel); have hq0_ : (0 : Int32).toInt = 0 := (by decide +kernel); omega), (lv_sub hl [0, 1, 2, 3] rfl)⟩
  · refine lv_iconst (v := 1) hx hb dX9_isEnded_7 (by decide) ?_
    refine lv_goto (tgt := 12) hx hb dX9_isEnded_8 (by decide) ?_
    refine lv_istore_n (lv' := [(2, .int 1), (0, .ref h0), (1, .int p0)]) hx hb dX9_isEnded_12 rfl hl (by decide) rfl (fun ls hl => ?_)
    refine lv_iconst (v := 0) hx hb dX9_isEnded_13 (by decide) ?_
    refine lv_istore_n (lv' := [(3, .int 0), (2, .int 1), (0, .ref h0), (1, .int p0)]) hx hb dX9_isEnded_14 rfl hl (by decide) rfl (fun ls hl => ?_)
    have hCC_50 := yMI.c hI
    have T_51 : (z_1 : Int32).toInt = (d.1 h0 62).toInt := by rw [ez_1]
    have F_52 := fnle (rfl : (z_1 : Int32).toInt = (z_1 : Int32).toInt) (by decide +kernel : (0 : Int32).toInt = 0) c_2
    refine yloopR (σ := Int32 × Int32) (fun x => (2147483647 - (x.2 : Int32).toInt).toNat) 15 (fun x ls => ((((x.1) : Int32).toInt = 0 ∨ ((x.1) : Int32).toInt = 1) ∧ 0 ≤ ((x.2) : Int32).toInt) ∧ lv_has ls 4 [(3, .int x.2), (2, .int x.1), (0, .ref h0), (1, .int p0)]) (fun x ls hl hnext_55 => ?_) (1, 0) ⟨(show ((((1) : Int32).toInt = 0 ∨ ((1) : Int32).toInt = 1) ∧ 0 ≤ ((0) : Int32).toInt) from by have hl0_ : (1 : Int32).toInt = 1 := (by decide +kernel); have hl1_ : (0 : Int32).toInt = 0 := (by decide +kernel); have hq0_ : (0 : Int32).toInt = 0 := (by decide +kernel); omega), lv_sub hl [0, 1, 2, 3] rfl⟩
    obtain ⟨v_53, v_54⟩ := x
    obtain ⟨hex_56, hl⟩ := hl
    have hex_56 : ((((v_53) : Int32).toInt = 0 ∨ ((v_53) : Int32).toInt = 1) ∧ 0 ≤ ((v_54) : Int32).toInt) := hex_56
    have hl : lv_has ls 4 [(3, .int v_54), (2, .int v_53), (0, .ref h0), (1, .int p0)] := hl
    refine lv_iload_n hx hb dX9_isEnded_15 rfl (lv_at hl 0 rfl) ?_
    refine lv_bipush (v := 8) hx hb dX9_isEnded_16 (by decide) ?_
    refine lv_icmp_ge (tgt := 82) hx hb dX9_isEnded_18 (by decide) (fun c_57 => ?_) (fun c_57 => ?_)
    · refine lv_iload_n hx hb dX9_isEnded_82 rfl (lv_at hl 1 rfl) ?_
      exact W.zret (v := v_53) (ty := .boolean) hx hb hr (znb (xb01 (by omega))).1 (fun t ht hW => ⟨v_53, rfl, (xb01 (by omega)), ht⟩) (fun q hq => by cases hq) dX9_isEnded_83
    · refine lv_aload_n hx hb dX9_isEnded_21 rfl (lv_at hl 2 rfl) ?_
      refine yget (ci := 9) (k := 11) (v := .ref (S.2.2.1 h0 11)) (C := RX9) (T := TX9) (N := 67) C0 hK hP hm_h0 hk_h0 (by decide) rfl inlX9 (by decide) mW116 (fun _ h9 => h9) rfl dX9_isEnded_22 ?_
      obtain ⟨hmy_58, hky_58⟩ := ySh.f9_11 hSh _ hm_h0 hk_h0
      refine lv_bipush (v := 12) hx hb dX9_isEnded_25 (by decide) ?_
      refine lv_iload_n hx hb dX9_isEnded_27 rfl (lv_at hl 3 rfl) ?_
      refine lv_imul hx hb dX9_isEnded_28 ?_
      refine lv_topi (fun z_59 ez_59 => ?_)
      refine lv_bipush (v := 10) hx hb dX9_isEnded_29 (by decide) ?_
      refine lv_iadd hx hb dX9_isEnded_31 ?_
      refine lv_topi (fun z_60 ez_60 => ?_)
      have F_61 := fnle (by decide +kernel : (8 : Int32).toInt = 8) (rfl : (v_54 : Int32).toInt = (v_54 : Int32).toInt) c_57
      have T_63 : (z_59 : Int32).toInt = 12 * (p0 : Int32).toInt := tmul ez_59 (by decide +kernel : (12 : Int32).toInt = 12) (rfl : (p0 : Int32).toInt = (p0 : Int32).toInt) (by omega) (by omega)
      have T_62 : (z_60 : Int32).toInt = (z_59 : Int32).toInt + 10 := tadd ez_60 (rfl : (z_59 : Int32).toInt = (z_59 : Int32).toInt) (by decide +kernel : (10 : Int32).toInt = 10) (by omega) (by omega)
      refine yaldJ C0 hK hP hmy_58 hky_58 (by decide) rfl 4 rfl (xinT 96 rfl (by omega) (by omega)) dX9_isEnded_32 ?_
      refine lv_topl (fun z_64 ez_64 => ?_)
      refine lv_iload_n hx hb dX9_isEnded_33 rfl (lv_at hl 0 rfl) ?_
      refine lv_lshr hx hb dX9_isEnded_34 rfl ?_
      refine lv_topl (fun z_65 ez_65 => ?_)
      refine lv_lconst (v := 1) hx hb dX9_isEnded_35 (by decide) ?_
      refine lv_land hx hb dX9_isEnded_36 ?_
      refine lv_topl (fun z_66 ez_66 => ?_)
      refine lv_lconst (v := 1) hx hb dX9_isEnded_37 (by decide) ?_
      refine W.lcmp hx hb dX9_isEnded_38 ?_
      refine lv_topi (fun z_67 ez_67 => ?_)
      refine lv_if_ne (tgt := 76) hx hb dX9_isEnded_39 (by decide) (fun c_68 => ?_) (fun c_68 => ?_)
      · refine lv_iinc (v := v_54 + 1) (lv' := [(3, .int (v_54 + 1)), (2, .int v_53), (0, .ref h0), (1, .int p0)]) hx hb dX9_isEnded_76 hl (k := 0) rfl rfl (by decide) rfl (fun ls hl => ?_)
        refine lv_goto (tgt := 15) hx hb dX9_isEnded_79 (by decide) ?_
        have T_70 : ((v_54 + 1) : Int32).toInt = (v_54 : Int32).toInt + 1 := tadd rfl (rfl : (v_54 : Int32).toInt = (v_54 : Int32).toInt) (by decide +kernel : (1 : Int32).toInt = 1) (by omega) (by omega)
        exact hnext_55 (v_53, v_54 + 1) ls (xup c_57) ⟨(show ((((v_53) : Int32).toInt = 0 ∨ ((v_53) : Int32).toInt = 1) ∧ 0 ≤ (((v_54 + 1)) : Int32).toInt) from by have hq0_ : (0 : Int32).toInt = 0 := (by decide +kernel); omega), (lv_sub hl [0, 1, 2, 3] rfl)⟩
      · refine lv_aload_n hx hb dX9_isEnded_42 rfl (lv_at hl 2 rfl) ?_
        refine lv_iload_n hx hb dX9_isEnded_43 rfl (lv_at hl 0 rfl) ?_
        refine yVri (As := [.int v_54]) (rest := []) C0 (g_X9_isOpen l G S d h0 v_54 hSh hm_h0 hk_h0) ok_X9_isOpen (mW391 : Cond.methodLink RX9 157 yX9_isOpen ∈ wsT) ⟨Nat.le_of_ble_eq_true rfl, Nat.le_of_ble_eq_true rfl⟩ hP hD hK hN hm_h0 hk_h0 (by decide) rfl rfl rfl hl.1 rfl (Nat.le_of_ble_eq_true rfl) ⟨Nat.le_of_ble_eq_true rfl, Nat.le_of_ble_eq_true rfl⟩ dX9_isEnded_44 (fun r_71 hr_71 => ?_)
        refine lv_if_eq (tgt := 76) hx hb dX9_isEnded_47 (by decide) (fun c_72 => ?_) (fun c_72 => ?_)
        · refine lv_iinc (v := v_54 + 1) (lv' := [(3, .int (v_54 + 1)), (2, .int v_53), (0, .ref h0), (1, .int p0)]) hx hb dX9_isEnded_76 hl (k := 0) rfl rfl (by decide) rfl (fun ls hl => ?_)
          refine lv_goto (tgt := 15) hx hb dX9_isEnded_79 (by decide) ?_
          have F_74 := feq (rfl : (r_71 : Int32).toInt = (r_71 : Int32).toInt) (by decide +kernel : (0 : Int32).toInt = 0) c_72
          have T_75 : ((v_54 + 1) : Int32).toInt = (v_54 : Int32).toInt + 1 := tadd rfl (rfl : (v_54 : Int32).toInt = (v_54 : Int32).toInt) (by decide +kernel : (1 : Int32).toInt = 1) (by omega) (by omega)
          exact hnext_55 (v_53, v_54 + 1) ls (xup c_57) ⟨(show ((((v_53) : Int32).toInt = 0 ∨ ((v_53) : Int32).toInt = 1) ∧ 0 ≤ (((v_54 + 1)) : Int32).toInt) from by have hq0_ : (0 : Int32).toInt = 0 := (by decide +kernel); omega), (lv_sub hl [0, 1, 2, 3] rfl)⟩
        · refine lv_aload_n hx hb dX9_isEnded_50 rfl (lv_at hl 2 rfl) ?_
          refine lv_iload_n hx hb dX9_isEnded_51 rfl (lv_at hl 0 rfl) ?_
          have F_76 := fne (rfl : (r_71 : Int32).toInt = (r_71 : Int32).toInt) (by decide +kernel : (0 : Int32).toInt = 0) c_72
          refine yVri (As := [.int v_54]) (rest := []) C0 (g_X9_doesCount l G S d h0 v_54 hSh hm_h0 hk_h0 hI (by refine ⟨?_, ?_⟩ <;> omega)) ok_X9_doesCount (mW643 : Cond.methodLink RX9 282 yX9_doesCount ∈ wsT) ⟨Nat.le_of_ble_eq_true rfl, Nat.le_of_ble_eq_true rfl⟩ hP hD hK hN hm_h0 hk_h0 (by decide) rfl rfl rfl hl.1 rfl (Nat.le_of_ble_eq_true rfl) ⟨Nat.le_of_ble_eq_true rfl, Nat.le_of_ble_eq_true rfl⟩ dX9_isEnded_52 (fun r_77 hr_77 => ?_)
          refine lv_if_eq (tgt := 76) hx hb dX9_isEnded_55 (by decide) (fun c_78 => ?_) (fun c_78 => ?_)
          · refine lv_iinc (v := v_54 + 1) (lv' := [(3, .int (v_54 + 1)), (2, .int v_53), (0, .ref h0), (1, .int p0)]) hx hb dX9_isEnded_76 hl (k := 0) rfl rfl (by decide) rfl (fun ls hl => ?_)
            refine lv_goto (tgt := 15) hx hb dX9_isEnded_79 (by decide) ?_
            have F_80 := feq (rfl : (r_77 : Int32).toInt = (r_77 : Int32).toInt) (by decide +kernel : (0 : Int32).toInt = 0) c_78
            have T_81 : ((v_54 + 1) : Int32).toInt = (v_54 : Int32).toInt + 1 := tadd rfl (rfl : (v_54 : Int32).toInt = (v_54 : Int32).toInt) (by decide +kernel : (1 : Int32).toInt = 1) (by omega) (by omega)
            exact hnext_55 (v_53, v_54 + 1) ls (xup c_57) ⟨(show ((((v_53) : Int32).toInt = 0 ∨ ((v_53) : Int32).toInt = 1) ∧ 0 ≤ (((v_54 + 1)) : Int32).toInt) from by have hq0_ : (0 : Int32).toInt = 0 := (by decide +kernel); omega), (lv_sub hl [0, 1, 2, 3] rfl)⟩
          · refine lv_iload_n hx hb dX9_isEnded_58 rfl (lv_at hl 1 rfl) ?_
            refine lv_if_eq (tgt := 74) hx hb dX9_isEnded_59 (by decide) (fun c_82 => ?_) (fun c_82 => ?_)
            · refine lv_iconst (v := 0) hx hb dX9_isEnded_74 (by decide) ?_
              refine lv_istore_n (lv' := [(2, .int 0), (3, .int v_54), (0, .ref h0), (1, .int p0)]) hx hb dX9_isEnded_75 rfl hl (by decide) rfl (fun ls hl => ?_)
              refine lv_iinc (v := v_54 + 1) (lv' := [(3, .int (v_54 + 1)), (2, .int 0), (0, .ref h0), (1, .int p0)]) hx hb dX9_isEnded_76 hl (k := 1) rfl rfl (by decide) rfl (fun ls hl => ?_)
              refine lv_goto (tgt := 15) hx hb dX9_isEnded_79 (by decide) ?_
              have F_84 := fne (rfl : (r_77 : Int32).toInt = (r_77 : Int32).toInt) (by decide +kernel : (0 : Int32).toInt = 0) c_78
              have F_85 := feq (rfl : (v_53 : Int32).toInt = (v_53 : Int32).toInt) (by decide +kernel : (0 : Int32).toInt = 0) c_82
              have T_86 : ((v_54 + 1) : Int32).toInt = (v_54 : Int32).toInt + 1 := tadd rfl (rfl : (v_54 : Int32).toInt = (v_54 : Int32).toInt) (by decide +kernel : (1 : Int32).toInt = 1) (by omega) (by omega)
              exact hnext_55 (0, v_54 + 1) ls (xup c_57) ⟨(show ((((0) : Int32).toInt = 0 ∨ ((0) : Int32).toInt = 1) ∧ 0 ≤ (((v_54 + 1)) : Int32).toInt) from by have hl0_ : (0 : Int32).toInt = 0 := (by decide +kernel); have hq0_ : (0 : Int32).toInt = 0 := (by decide +kernel); omega), (lv_sub hl [0, 1, 2, 3] rfl)⟩
            · refine lv_aload_n hx hb dX9_isEnded_62 rfl (lv_at hl 2 rfl) ?_
              refine lv_iload_n hx hb dX9_isEnded_63 rfl (lv_at hl 0 rfl) ?_
              have F_87 := fne (rfl : (r_77 : Int32).toInt = (r_77 : Int32).toInt) (by decide +kernel : (0 : Int32).toInt = 0) c_78
              have F_88 := fne (rfl : (v_53 : Int32).toInt = (v_53 : Int32).toInt) (by decide +kernel : (0 : Int32).toInt = 0) c_82
              refine yVri (As := [.int v_54]) (rest := []) C0 (g_X9_hasEnd l G S d h0 v_54 hSh hm_h0 hk_h0 hI (by refine ⟨?_, ?_⟩ <;> omega)) ok_X9_hasEnd (mW1008 : Cond.methodLink RX9 348 yX9_hasEnd ∈ wsT) ⟨Nat.le_of_ble_eq_true rfl, Nat.le_of_ble_eq_true rfl⟩ hP hD hK hN hm_h0 hk_h0 (by decide) rfl rfl rfl hl.1 rfl (Nat.le_of_ble_eq_true rfl) ⟨Nat.le_of_ble_eq_true rfl, Nat.le_of_ble_eq_true rfl⟩ dX9_isEnded_64 (fun r_89 hr_89 => ?_)
              refine lv_if_eq (tgt := 74) hx hb dX9_isEnded_67 (by decide) (fun c_90 => ?_) (fun c_90 => ?_)
              · refine lv_iconst (v := 0) hx hb dX9_isEnded_74 (by decide) ?_
                refine lv_istore_n (lv' := [(2, .int 0), (3, .int v_54), (0, .ref h0), (1, .int p0)]) hx hb dX9_isEnded_75 rfl hl (by decide) rfl (fun ls hl => ?_)
                refine lv_iinc (v := v_54 + 1) (lv' := [(3, .int (v_54 + 1)), (2, .int 0), (0, .ref h0), (1, .int p0)]) hx hb dX9_isEnded_76 hl (k := 1) rfl rfl (by decide) rfl (fun ls hl => ?_)
                refine lv_goto (tgt := 15) hx hb dX9_isEnded_79 (by decide) ?_
                have F_92 := feq (rfl : (r_89 : Int32).toInt = (r_89 : Int32).toInt) (by decide +kernel : (0 : Int32).toInt = 0) c_90
                have T_93 : ((v_54 + 1) : Int32).toInt = (v_54 : Int32).toInt + 1 := tadd rfl (rfl : (v_54 : Int32).toInt = (v_54 : Int32).toInt) (by decide +kernel : (1 : Int32).toInt = 1) (by omega) (by omega)
                exact hnext_55 (0, v_54 + 1) ls (xup c_57) ⟨(show ((((0) : Int32).toInt = 0 ∨ ((0) : Int32).toInt = 1) ∧ 0 ≤ (((v_54 + 1)) : Int32).toInt) from by have hl0_ : (0 : Int32).toInt = 0 := (by decide +kernel); have hq0_ : (0 : Int32).toInt = 0 := (by decide +kernel); omega), (lv_sub hl [0, 1, 2, 3] rfl)⟩
              · refine lv_iconst (v := 1) hx hb dX9_isEnded_70 (by decide) ?_
                refine lv_goto (tgt := 75) hx hb dX9_isEnded_71 (by decide) ?_
                refine lv_istore_n (lv' := [(2, .int 1), (3, .int v_54), (0, .ref h0), (1, .int p0)]) hx hb dX9_isEnded_75 rfl hl (by decide) rfl (fun ls hl => ?_)
                refine lv_iinc (v := v_54 + 1) (lv' := [(3, .int (v_54 + 1)), (2, .int 1), (0, .ref h0), (1, .int p0)]) hx hb dX9_isEnded_76 hl (k := 1) rfl rfl (by decide) rfl (fun ls hl => ?_)
                refine lv_goto (tgt := 15) hx hb dX9_isEnded_79 (by decide) ?_
                have F_95 := fne (rfl : (r_89 : Int32).toInt = (r_89 : Int32).toInt) (by decide +kernel : (0 : Int32).toInt = 0) c_90
                have T_96 : ((v_54 + 1) : Int32).toInt = (v_54 : Int32).toInt + 1 := tadd rfl (rfl : (v_54 : Int32).toInt = (v_54 : Int32).toInt) (by decide +kernel : (1 : Int32).toInt = 1) (by omega) (by omega)
                exact hnext_55 (1, v_54 + 1) ls (xup c_57) ⟨(show ((((1) : Int32).toInt = 0 ∨ ((1) : Int32).toInt = 1) ∧ 0 ≤ (((v_54 + 1)) : Int32).toInt) from by have hl0_ : (1 : Int32).toInt = 1 := (by decide +kernel); have hq0_ : (0 : Int32).toInt = 0 := (by decide +kernel); omega), (lv_sub hl [0, 1, 2, 3] rfl)⟩
theorem dX9_saved_0 : decode cX9_saved 0 = .ok (.aload_n 0, 1) := by decide +kernel
theorem dX9_saved_1 : decode cX9_saved 1 = .ok (.getfield 251, 3) := by decide +kernel
theorem dX9_saved_4 : decode cX9_saved 4 = .ok (.aload_n 0, 1) := by decide +kernel
theorem dX9_saved_5 : decode cX9_saved 5 = .ok (.getfield 247, 3) := by decide +kernel
theorem dX9_saved_8 : decode cX9_saved 8 = .ok (.lcmp, 1) := by decide +kernel
theorem dX9_saved_9 : decode cX9_saved 9 = .ok (.ifCond .le 23, 3) := by decide +kernel
theorem dX9_saved_12 : decode cX9_saved 12 = .ok (.aload_n 0, 1) := by decide +kernel
theorem dX9_saved_13 : decode cX9_saved 13 = .ok (.iload_n 1, 1) := by decide +kernel
theorem dX9_saved_14 : decode cX9_saved 14 = .ok (.invokevirtual 351, 3) := by decide +kernel
theorem dX9_saved_17 : decode cX9_saved 17 = .ok (.ifCond .eq 15, 3) := by decide +kernel
theorem dX9_saved_20 : decode cX9_saved 20 = .ok (.aload_n 0, 1) := by decide +kernel
theorem dX9_saved_21 : decode cX9_saved 21 = .ok (.getfield 251, 3) := by decide +kernel
theorem dX9_saved_24 : decode cX9_saved 24 = .ok (.aload_n 0, 1) := by decide +kernel
theorem dX9_saved_25 : decode cX9_saved 25 = .ok (.getfield 247, 3) := by decide +kernel
theorem dX9_saved_28 : decode cX9_saved 28 = .ok (.lsub, 1) := by decide +kernel
theorem dX9_saved_29 : decode cX9_saved 29 = .ok (.goto 4, 3) := by decide +kernel
theorem dX9_saved_32 : decode cX9_saved 32 = .ok (.lconst 0, 1) := by decide +kernel
theorem dX9_saved_33 : decode cX9_saved 33 = .ok (.lreturn, 1) := by decide +kernel
set_option maxHeartbeats 4000000 in
set_option maxRecDepth 100000 in
theorem g_X9_saved (l : Launch) (G : xG) (S : yS) (d : yD) (h0 : Nat) (p0 : Int32) (hSh : ySh S) (hm_h0 : h0 ∈ S.1) (hk_h0 : S.2.1 h0 = 9) (hI : yMI S d h0) (hr_p0 : 0 ≤ (p0 : Int32).toInt ∧ (p0 : Int32).toInt ≤ 7) : yRl l G yX9_saved cX9_saved 2 (some .long) 6 135 [.ref h0, .int p0] (yW G S d) (fun r => True) := by
  intro sz
  refine xstart (by decide) (Nat.le_of_ble_eq_true rfl) (fun p e s m args below meth c ls C0 hr hlocks hin hsz hP hK hD hN hl => ?_)
  obtain ⟨hx, hb, hml, hown, htl⟩ := id C0
  have hl : lv_has ls 2 [(0, .ref h0), (1, .int p0)] := hl
  refine lv_aload_n hx hb dX9_saved_0 rfl (lv_at hl 0 rfl) ?_
  refine yget (ci := 9) (k := 59) (v := .long (d.2.1 h0 59)) (C := RX9) (T := TX9) (N := 67) C0 hK hP hm_h0 hk_h0 (by decide) rfl inlX9 (by decide) mW874 (fun _ h9 => h9) rfl dX9_saved_1 ?_
  refine lv_topl (fun z_1 ez_1 => ?_)
  refine lv_aload_n hx hb dX9_saved_4 rfl (lv_at hl 0 rfl) ?_
  refine yget (ci := 9) (k := 58) (v := .long (d.2.1 h0 58)) (C := RX9) (T := TX9) (N := 67) C0 hK hP hm_h0 hk_h0 (by decide) rfl inlX9 (by decide) mW873 (fun _ h9 => h9) rfl dX9_saved_5 ?_
  refine lv_topl (fun z_2 ez_2 => ?_)
  refine W.lcmp hx hb dX9_saved_8 ?_
  refine lv_topi (fun z_3 ez_3 => ?_)
  refine lv_if_le (tgt := 32) hx hb dX9_saved_9 (by decide) (fun c_4 => ?_) (fun c_4 => ?_)
  · refine lv_lconst (v := 0) hx hb dX9_saved_32 (by decide) ?_
    exact W.lret (v := 0) hx hb hr (fun t ht hW => ⟨0, rfl, trivial, ht⟩) (fun q hq => by cases hq) dX9_saved_33
  · refine lv_aload_n hx hb dX9_saved_12 rfl (lv_at hl 0 rfl) ?_
    refine lv_iload_n hx hb dX9_saved_13 rfl (lv_at hl 1 rfl) ?_
    refine yVri (As := [.int p0]) (rest := []) C0 (g_X9_isEnded l G S d h0 p0 hSh hm_h0 hk_h0 hI (by refine ⟨?_, ?_⟩ <;> omega)) ok_X9_isEnded (mW1004 : Cond.methodLink RX9 351 yX9_isEnded ∈ wsT) ⟨Nat.le_of_ble_eq_true rfl, Nat.le_of_ble_eq_true rfl⟩ hP hD hK hN hm_h0 hk_h0 (by decide) rfl rfl rfl hl.1 rfl (Nat.le_of_ble_eq_true rfl) ⟨Nat.le_of_ble_eq_true rfl, Nat.le_of_ble_eq_true rfl⟩ dX9_saved_14 (fun r_5 hr_5 => ?_)
    refine lv_if_eq (tgt := 32) hx hb dX9_saved_17 (by decide) (fun c_6 => ?_) (fun c_6 => ?_)
    · refine lv_lconst (v := 0) hx hb dX9_saved_32 (by decide) ?_
      exact W.lret (v := 0) hx hb hr (fun t ht hW => ⟨0, rfl, trivial, ht⟩) (fun q hq => by cases hq) dX9_saved_33
    · refine lv_aload_n hx hb dX9_saved_20 rfl (lv_at hl 0 rfl) ?_
      refine yget (ci := 9) (k := 59) (v := .long (d.2.1 h0 59)) (C := RX9) (T := TX9) (N := 67) C0 hK hP hm_h0 hk_h0 (by decide) rfl inlX9 (by decide) mW874 (fun _ h9 => h9) rfl dX9_saved_21 ?_
      refine lv_topl (fun z_7 ez_7 => ?_)
      refine lv_aload_n hx hb dX9_saved_24 rfl (lv_at hl 0 rfl) ?_
      refine yget (ci := 9) (k := 58) (v := .long (d.2.1 h0 58)) (C := RX9) (T := TX9) (N := 67) C0 hK hP hm_h0 hk_h0 (by decide) rfl inlX9 (by decide) mW873 (fun _ h9 => h9) rfl dX9_saved_25 ?_
      refine lv_topl (fun z_8 ez_8 => ?_)
      refine lv_lsub hx hb dX9_saved_28 ?_
      refine lv_topl (fun z_9 ez_9 => ?_)
      refine lv_goto (tgt := 33) hx hb dX9_saved_29 (by decide) ?_
      exact W.lret (v := z_9) hx hb hr (fun t ht hW => ⟨z_9, rfl, trivial, ht⟩) (fun q hq => by cases hq) dX9_saved_33
theorem dX9_free_0 : decode cX9_free 0 = .ok (.aload_n 0, 1) := by decide +kernel
theorem dX9_free_1 : decode cX9_free 1 = .ok (.iconst 0, 1) := by decide +kernel
theorem dX9_free_2 : decode cX9_free 2 = .ok (.putfield 147, 3) := by decide +kernel
theorem dX9_free_5 : decode cX9_free 5 = .ok (.aload_n 0, 1) := by decide +kernel
theorem dX9_free_6 : decode cX9_free 6 = .ok (.iload_n 1, 1) := by decide +kernel
theorem dX9_free_7 : decode cX9_free 7 = .ok (.iload_n 2, 1) := by decide +kernel
theorem dX9_free_8 : decode cX9_free 8 = .ok (.invokevirtual 206, 3) := by decide +kernel
theorem dX9_free_11 : decode cX9_free 11 = .ok (.istore 4, 2) := by decide +kernel
theorem dX9_free_13 : decode cX9_free 13 = .ok (.iload 4, 2) := by decide +kernel
theorem dX9_free_15 : decode cX9_free 15 = .ok (.ifCond .eq 12, 3) := by decide +kernel
theorem dX9_free_18 : decode cX9_free 18 = .ok (.aload_n 0, 1) := by decide +kernel
theorem dX9_free_19 : decode cX9_free 19 = .ok (.iload 4, 2) := by decide +kernel
theorem dX9_free_21 : decode cX9_free 21 = .ok (.invokevirtual 168, 3) := by decide +kernel
theorem dX9_free_24 : decode cX9_free 24 = .ok (.pop, 1) := by decide +kernel
theorem dX9_free_25 : decode cX9_free 25 = .ok (.iconst 0, 1) := by decide +kernel
theorem dX9_free_26 : decode cX9_free 26 = .ok (.ireturn, 1) := by decide +kernel
theorem dX9_free_27 : decode cX9_free 27 = .ok (.aload_n 0, 1) := by decide +kernel
theorem dX9_free_28 : decode cX9_free 28 = .ok (.getfield 48, 3) := by decide +kernel
theorem dX9_free_31 : decode cX9_free 31 = .ok (.bipush 90, 2) := by decide +kernel
theorem dX9_free_33 : decode cX9_free 33 = .ok (.iload_n 1, 1) := by decide +kernel
theorem dX9_free_34 : decode cX9_free 34 = .ok (.imul, 1) := by decide +kernel
theorem dX9_free_35 : decode cX9_free 35 = .ok (.iload_n 2, 1) := by decide +kernel
theorem dX9_free_36 : decode cX9_free 36 = .ok (.iadd, 1) := by decide +kernel
theorem dX9_free_37 : decode cX9_free 37 = .ok (.baload, 1) := by decide +kernel
theorem dX9_free_38 : decode cX9_free 38 = .ok (.istore 5, 2) := by decide +kernel
theorem dX9_free_40 : decode cX9_free 40 = .ok (.aload_n 0, 1) := by decide +kernel
theorem dX9_free_41 : decode cX9_free 41 = .ok (.getfield 48, 3) := by decide +kernel
theorem dX9_free_44 : decode cX9_free 44 = .ok (.bipush 90, 2) := by decide +kernel
theorem dX9_free_46 : decode cX9_free 46 = .ok (.iload_n 1, 1) := by decide +kernel
theorem dX9_free_47 : decode cX9_free 47 = .ok (.imul, 1) := by decide +kernel
theorem dX9_free_48 : decode cX9_free 48 = .ok (.iload_n 2, 1) := by decide +kernel
theorem dX9_free_49 : decode cX9_free 49 = .ok (.iadd, 1) := by decide +kernel
theorem dX9_free_50 : decode cX9_free 50 = .ok (.iload_n 3, 1) := by decide +kernel
theorem dX9_free_51 : decode cX9_free 51 = .ok (.bastore, 1) := by decide +kernel
theorem dX9_free_52 : decode cX9_free 52 = .ok (.iload 5, 2) := by decide +kernel
theorem dX9_free_54 : decode cX9_free 54 = .ok (.ireturn, 1) := by decide +kernel
set_option maxHeartbeats 4000000 in
set_option maxRecDepth 100000 in
theorem g_X9_free (l : Launch) (G : xG) (S : yS) (d : yD) (h0 : Nat) (p0 : Int32) (p1 : Int32) (p2 : Int32) (hSh : ySh S) (hPo : yPo S d) (hm_h0 : h0 ∈ S.1) (hk_h0 : S.2.1 h0 = 9) (hI : yMI S d h0) (hz_p2 : p2 = 0 ∨ p2 = 1) : xWi l G yX9_free cX9_free 6 (some .boolean) 3 65 0 0 [.ref h0, .int p0, .int p1, .int p2] (yW G S d) (fun r (u : yD) => yAg S [9, 44, 69] d u ∧ (yPo S d → yPo S u) ∧ yK [38] d u h0 ∧ (yMI S u h0)) (fun u => yW G S u) := by
  intro sz
  refine xstart (by decide) (Nat.le_of_ble_eq_true rfl) (fun p e s m args below meth c ls C0 hr hlocks hin hsz hP hK hD hN hl => ?_)
  obtain ⟨hx, hb, hml, hown, htl⟩ := id C0
  subst hsz
  have hD := hD.self (sz := s.heap.size)
  generalize hAe : va_A (yW G S d) s.heap.size = A at hD ⊢
  have hA : ∀ q : Nat, s.heap.size ≤ q → A q := fun q h => by rw [← hAe]; exact Or.inr h
  have hS : va_S A s.heap s.heap [] := va_S.rf
  have hg0 : yAg S [9, 44, 69] d d := yAg.rf
  have hl : lv_has ls 6 [(0, .ref h0), (1, .int p0), (2, .int p1), (3, .int p2)] := hl
  refine lv_aload_n hx hb dX9_free_0 rfl (lv_at hl 0 rfl) ?_
  refine lv_iconst (v := 0) hx hb dX9_free_1 (by decide) ?_
  refine yputI (ci := 9) (k := 38) (ty := .int) (C := RX9) (T := TX9) (N := 67) C0 hK hP hD hS hm_h0 hk_h0 (by decide) rfl inlX9 tyX9 tyX9_ok nmX9 (by decide) mW175 (fun _ h9 => h9) rfl (by decide +kernel) rfl rfl (Nat.le_of_ble_eq_true rfl) ysi_9_38 dX9_free_2 (fun H locs hP hD hS => ?_)
  obtain ⟨d_1, ed_1⟩ : ∃ z : yD, z = yi d h0 38 0 := ⟨_, rfl⟩
  rw [← ed_1] at hP hD
  have hgd_1 : yAg S [9, 44, 69] d d_1 := by rw [ed_1]; exact yAg.i hg0 (by rw [hk_h0]; decide)
  have hPod_1 : yPo S d_1 := by rw [ed_1]; exact yPo.i hPo hk_h0 (Or.inl rfl)
  have hfd_1 : yK [38] d d_1 h0 := by rw [ed_1]; exact yK.i yK.rf (by decide)
  have hId_1 : yMI S d_1 h0 := yMI.ag hI hSh hm_h0 hk_h0 (show yAg S [9] d d_1 from by rw [ed_1]; exact yAg.i yAg.rf (by rw [hk_h0]; decide)) (show yK [38] d d_1 h0 from by rw [ed_1]; exact yK.i yK.rf (by decide)) (by decide) (by decide)
  have hE0d_1 : (d_1.1 h0 0).toInt = (d.1 h0 0).toInt := congrArg Int32.toInt ((show yK [38] d d_1 h0 from by rw [ed_1]; exact yK.i yK.rf (by decide)) 0 (by decide))
  have hE1d_1 : (d_1.1 h0 1).toInt = (d.1 h0 1).toInt := congrArg Int32.toInt ((show yK [38] d d_1 h0 from by rw [ed_1]; exact yK.i yK.rf (by decide)) 1 (by decide))
  have hE2d_1 : (d_1.1 h0 2).toInt = (d.1 h0 2).toInt := congrArg Int32.toInt ((show yK [38] d d_1 h0 from by rw [ed_1]; exact yK.i yK.rf (by decide)) 2 (by decide))
  have hE3d_1 : (d_1.1 h0 3).toInt = (d.1 h0 3).toInt := congrArg Int32.toInt ((show yK [38] d d_1 h0 from by rw [ed_1]; exact yK.i yK.rf (by decide)) 3 (by decide))
  have hE63d_1 : (d_1.1 h0 63).toInt = (d.1 h0 63).toInt := congrArg Int32.toInt ((show yK [38] d d_1 h0 from by rw [ed_1]; exact yK.i yK.rf (by decide)) 63 (by decide))
  refine lv_aload_n hx hb dX9_free_5 rfl (lv_at hl 0 rfl) ?_
  refine lv_iload_n hx hb dX9_free_6 rfl (lv_at hl 1 rfl) ?_
  refine lv_iload_n hx hb dX9_free_7 rfl (lv_at hl 2 rfl) ?_
  refine yVri (As := [.int p0, .int p1]) (rest := []) C0 (g_X9_dayWhy l G S d_1 h0 p0 p1 hSh hm_h0 hk_h0 hId_1) ok_X9_dayWhy (mW450 : Cond.methodLink RX9 206 yX9_dayWhy ∈ wsT) ⟨Nat.le_of_ble_eq_true rfl, Nat.le_of_ble_eq_true rfl⟩ hP hD hK hN hm_h0 hk_h0 (by decide) rfl rfl rfl hl.1 rfl (Nat.le_of_ble_eq_true rfl) ⟨Nat.le_of_ble_eq_true rfl, Nat.le_of_ble_eq_true rfl⟩ dX9_free_8 (fun r_2 hr_2 => ?_)
  refine lv_istore (lv' := [(4, .int r_2), (0, .ref h0), (1, .int p0), (2, .int p1), (3, .int p2)]) hx hb dX9_free_11 hl (by decide) rfl (fun ls hl => ?_)
  refine lv_iload hx hb dX9_free_13 (lv_at hl 0 rfl) ?_
  refine lv_if_eq (tgt := 27) hx hb dX9_free_15 (by decide) (fun c_3 => ?_) (fun c_3 => ?_)
  · refine lv_aload_n hx hb dX9_free_27 rfl (lv_at hl 1 rfl) ?_
    refine yget (ci := 9) (k := 14) (v := .ref (S.2.2.1 h0 14)) (C := RX9) (T := TX9) (N := 67) C0 hK hP hm_h0 hk_h0 (by decide) rfl inlX9 (by decide) mW121 (fun _ h9 => h9) rfl dX9_free_28 ?_
    obtain ⟨hmy_4, hky_4⟩ := ySh.f9_14 hSh _ hm_h0 hk_h0
    refine lv_bipush (v := 90) hx hb dX9_free_31 (by decide) ?_
    refine lv_iload_n hx hb dX9_free_33 rfl (lv_at hl 2 rfl) ?_
    refine lv_imul hx hb dX9_free_34 ?_
    refine lv_topi (fun z_5 ez_5 => ?_)
    refine lv_iload_n hx hb dX9_free_35 rfl (lv_at hl 3 rfl) ?_
    refine lv_iadd hx hb dX9_free_36 ?_
    refine lv_topi (fun z_6 ez_6 => ?_)
    have hCC_7 := yMI.c hId_1
    have F_8 := feq (rfl : (r_2 : Int32).toInt = (r_2 : Int32).toInt) (by decide +kernel : (0 : Int32).toInt = 0) c_3
    have T_10 : (z_5 : Int32).toInt = 90 * (p0 : Int32).toInt := tmul ez_5 (by decide +kernel : (90 : Int32).toInt = 90) (rfl : (p0 : Int32).toInt = (p0 : Int32).toInt) (by omega) (by omega)
    have T_9 : (z_6 : Int32).toInt = (z_5 : Int32).toInt + (p1 : Int32).toInt := tadd ez_6 (rfl : (z_5 : Int32).toInt = (z_5 : Int32).toInt) (rfl : (p1 : Int32).toInt = (p1 : Int32).toInt) (by omega) (by omega)
    refine yaldZ C0 hK hP hmy_4 hky_4 (by decide) rfl 3 rfl (xinT 720 rfl (by omega) (by omega)) dX9_free_37 ?_
    refine lv_topi (fun z_11 ez_11 => ?_)
    have hzz_11 : z_11 = 0 ∨ z_11 = 1 := by rw [ez_11]; exact yMI.z_ hId_1 _
    refine lv_istore (lv' := [(5, .int z_11), (4, .int r_2), (0, .ref h0), (1, .int p0), (2, .int p1), (3, .int p2)]) hx hb dX9_free_38 hl (by decide) rfl (fun ls hl => ?_)
    refine lv_aload_n hx hb dX9_free_40 rfl (lv_at hl 2 rfl) ?_
    refine yget (ci := 9) (k := 14) (v := .ref (S.2.2.1 h0 14)) (C := RX9) (T := TX9) (N := 67) C0 hK hP hm_h0 hk_h0 (by decide) rfl inlX9 (by decide) mW121 (fun _ h9 => h9) rfl dX9_free_41 ?_
    refine lv_bipush (v := 90) hx hb dX9_free_44 (by decide) ?_
    refine lv_iload_n hx hb dX9_free_46 rfl (lv_at hl 3 rfl) ?_
    refine lv_imul hx hb dX9_free_47 ?_
    refine lv_topi (fun z_12 ez_12 => ?_)
    refine lv_iload_n hx hb dX9_free_48 rfl (lv_at hl 4 rfl) ?_
    refine lv_iadd hx hb dX9_free_49 ?_
    refine lv_topi (fun z_13 ez_13 => ?_)
    refine lv_iload_n hx hb dX9_free_50 rfl (lv_at hl 5 rfl) ?_
    have T_15 : (z_12 : Int32).toInt = 90 * (p0 : Int32).toInt := tmul ez_12 (by decide +kernel : (90 : Int32).toInt = 90) (rfl : (p0 : Int32).toInt = (p0 : Int32).toInt) (by omega) (by omega)
    have T_14 : (z_13 : Int32).toInt = (z_12 : Int32).toInt + (p1 : Int32).toInt := tadd ez_13 (rfl : (z_12 : Int32).toInt = (z_12 : Int32).toInt) (rfl : (p1 : Int32).toInt = (p1 : Int32).toInt) (by omega) (by omega)
    refine yastZ C0 hK hP hD hS hmy_4 hky_4 (by decide) rfl 3 rfl (xinT 720 rfl (by omega) (by omega)) dX9_free_51 (fun H locs hP hD hS => ?_)
    obtain ⟨d_16, ed_16⟩ : ∃ z : yD, z = ycs d_1 (S.2.2.1 h0 14) (upd (d_1.2.2.2.1 (S.2.2.1 h0 14)) (z_13 : Int32).toNatClampNeg (vp_nar .boolean p2)) := ⟨_, rfl⟩
    rw [← ed_16] at hP hD
    have hgd_16 : yAg S [9, 44, 69] d d_16 := by rw [ed_16]; exact yAg.cs hgd_1 (by rw [hky_4]; decide)
    have hPod_16 : yPo S d_16 := by rw [ed_16]; exact hPod_1
    have hfd_16 : yK [38] d d_16 h0 := yK.ag hfd_1 (show yAg S [44] d_1 d_16 from by rw [ed_16]; exact yAg.cs yAg.rf (by rw [hky_4]; decide)) (by rw [hk_h0]; decide)
    have hId_16 : yMI S d_16 h0 := by rw [ed_16]; exact yMI.w14 hId_1 hSh hm_h0 hk_h0 (yBz.up (yMI.z_ hId_1) hz_p2)
    have hE0d_16 : (d_16.1 h0 0).toInt = (d_1.1 h0 0).toInt := congrArg Int32.toInt ((yK.ag (F := []) yK.rf (show yAg S [44] d_1 d_16 from by rw [ed_16]; exact yAg.cs yAg.rf (by rw [hky_4]; decide)) (by rw [hk_h0]; decide)) 0 (by decide))
    have hE1d_16 : (d_16.1 h0 1).toInt = (d_1.1 h0 1).toInt := congrArg Int32.toInt ((yK.ag (F := []) yK.rf (show yAg S [44] d_1 d_16 from by rw [ed_16]; exact yAg.cs yAg.rf (by rw [hky_4]; decide)) (by rw [hk_h0]; decide)) 1 (by decide))
    have hE2d_16 : (d_16.1 h0 2).toInt = (d_1.1 h0 2).toInt := congrArg Int32.toInt ((yK.ag (F := []) yK.rf (show yAg S [44] d_1 d_16 from by rw [ed_16]; exact yAg.cs yAg.rf (by rw [hky_4]; decide)) (by rw [hk_h0]; decide)) 2 (by decide))
    have hE3d_16 : (d_16.1 h0 3).toInt = (d_1.1 h0 3).toInt := congrArg Int32.toInt ((yK.ag (F := []) yK.rf (show yAg S [44] d_1 d_16 from by rw [ed_16]; exact yAg.cs yAg.rf (by rw [hky_4]; decide)) (by rw [hk_h0]; decide)) 3 (by decide))
    have hE63d_16 : (d_16.1 h0 63).toInt = (d_1.1 h0 63).toInt := congrArg Int32.toInt ((yK.ag (F := []) yK.rf (show yAg S [44] d_1 d_16 from by rw [ed_16]; exact yAg.cs yAg.rf (by rw [hky_4]; decide)) (by rw [hk_h0]; decide)) 63 (by decide))
    refine lv_iload hx hb dX9_free_52 (lv_at hl 0 rfl) ?_
    exact W.zret (v := z_11) (ty := .boolean) hx hb hr (znb hzz_11).1 (fun t ht hW => ⟨⟨z_11, d_16, rfl, ⟨hgd_16, (fun _ => hPod_16), hfd_16, hId_16⟩, by rw [ht]; exact hP, hD⟩, hS.F ht⟩) hS.2.2 dX9_free_54
  · refine lv_aload_n hx hb dX9_free_18 rfl (lv_at hl 1 rfl) ?_
    refine lv_iload hx hb dX9_free_19 (lv_at hl 0 rfl) ?_
    have F_17 := fne (rfl : (r_2 : Int32).toInt = (r_2 : Int32).toInt) (by decide +kernel : (0 : Int32).toInt = 0) c_3
    refine yVwi (As := [.int r_2]) (rest := []) C0 (g_X9_no l G S d_1 h0 r_2 hSh hPod_1 hm_h0 hk_h0 (by refine ⟨?_, ?_⟩ <;> omega)) ok_X9_no (mW177 : Cond.methodLink RX9 168 yX9_no ∈ wsT) ⟨Nat.le_of_ble_eq_true rfl, Nat.le_of_ble_eq_true rfl⟩ hP hD hS hA hK hN hm_h0 hk_h0 (by decide) rfl rfl rfl hl.1 rfl (Nat.le_of_ble_eq_true rfl) ⟨Nat.le_of_ble_eq_true rfl, Nat.le_of_ble_eq_true rfl⟩ dX9_free_21 (fun r_18 d_19 H locs hr_18 hP hD hS => ?_)
    obtain ⟨hgad_19, hpad_19, hfad_19, hxd_19⟩ := hr_18
    have hfd_19 : yK [38] d d_19 h0 := yK.tr hfd_1 hfad_19 (by decide)
    have hE0d_19 : (d_19.1 h0 0).toInt = (d_1.1 h0 0).toInt := congrArg Int32.toInt (hfad_19 0 (by decide))
    have hE1d_19 : (d_19.1 h0 1).toInt = (d_1.1 h0 1).toInt := congrArg Int32.toInt (hfad_19 1 (by decide))
    have hE2d_19 : (d_19.1 h0 2).toInt = (d_1.1 h0 2).toInt := congrArg Int32.toInt (hfad_19 2 (by decide))
    have hE3d_19 : (d_19.1 h0 3).toInt = (d_1.1 h0 3).toInt := congrArg Int32.toInt (hfad_19 3 (by decide))
    have hE63d_19 : (d_19.1 h0 63).toInt = (d_1.1 h0 63).toInt := congrArg Int32.toInt (hfad_19 63 (by decide))
    have hId_19 : yMI S d_19 h0 := yMI.ag hId_1 hSh hm_h0 hk_h0 hgad_19 hfad_19 (by decide) (by decide)
    have hgd_19 : yAg S [9, 44, 69] d d_19 := yAg.tr hgd_1 hgad_19 (by first | decide | exact fun _ h => h)
    have hPod_19 : yPo S d_19 := hpad_19 hPod_1
    refine lv_pop hx hb dX9_free_24 rfl ?_
    refine lv_iconst (v := 0) hx hb dX9_free_25 (by decide) ?_
    exact W.zret (v := 0) (ty := .boolean) hx hb hr rfl (fun t ht hW => ⟨⟨0, d_19, rfl, ⟨hgd_19, (fun _ => hPod_19), hfd_19, hId_19⟩, by rw [ht]; exact hP, hD⟩, hS.F ht⟩) hS.2.2 dX9_free_26
theorem dX9_state_0 : decode cX9_state 0 = .ok (.aload_n 0, 1) := by decide +kernel
theorem dX9_state_1 : decode cX9_state 1 = .ok (.iconst 0, 1) := by decide +kernel
theorem dX9_state_2 : decode cX9_state 2 = .ok (.putfield 147, 3) := by decide +kernel
theorem dX9_state_5 : decode cX9_state 5 = .ok (.aload_n 0, 1) := by decide +kernel
theorem dX9_state_6 : decode cX9_state 6 = .ok (.iload_n 1, 1) := by decide +kernel
theorem dX9_state_7 : decode cX9_state 7 = .ok (.iload_n 2, 1) := by decide +kernel
theorem dX9_state_8 : decode cX9_state 8 = .ok (.invokevirtual 195, 3) := by decide +kernel
theorem dX9_state_11 : decode cX9_state 11 = .ok (.istore_n 3, 1) := by decide +kernel
theorem dX9_state_12 : decode cX9_state 12 = .ok (.iload_n 3, 1) := by decide +kernel
theorem dX9_state_13 : decode cX9_state 13 = .ok (.ifCond .ne 14, 3) := by decide +kernel
theorem dX9_state_16 : decode cX9_state 16 = .ok (.aload_n 0, 1) := by decide +kernel
theorem dX9_state_17 : decode cX9_state 17 = .ok (.iload_n 1, 1) := by decide +kernel
theorem dX9_state_18 : decode cX9_state 18 = .ok (.iload_n 2, 1) := by decide +kernel
theorem dX9_state_19 : decode cX9_state 19 = .ok (.invokevirtual 198, 3) := by decide +kernel
theorem dX9_state_22 : decode cX9_state 22 = .ok (.ifCond .ne 5, 3) := by decide +kernel
theorem dX9_state_25 : decode cX9_state 25 = .ok (.iconst 2, 1) := by decide +kernel
theorem dX9_state_26 : decode cX9_state 26 = .ok (.istore_n 3, 1) := by decide +kernel
theorem dX9_state_27 : decode cX9_state 27 = .ok (.iload_n 3, 1) := by decide +kernel
theorem dX9_state_28 : decode cX9_state 28 = .ok (.ifCond .eq 9, 3) := by decide +kernel
theorem dX9_state_31 : decode cX9_state 31 = .ok (.aload_n 0, 1) := by decide +kernel
theorem dX9_state_32 : decode cX9_state 32 = .ok (.iload_n 3, 1) := by decide +kernel
theorem dX9_state_33 : decode cX9_state 33 = .ok (.invokevirtual 168, 3) := by decide +kernel
theorem dX9_state_36 : decode cX9_state 36 = .ok (.ireturn, 1) := by decide +kernel
theorem dX9_state_37 : decode cX9_state 37 = .ok (.iconst 0, 1) := by decide +kernel
theorem dX9_state_38 : decode cX9_state 38 = .ok (.istore 4, 2) := by decide +kernel
theorem dX9_state_40 : decode cX9_state 40 = .ok (.iconst 0, 1) := by decide +kernel
theorem dX9_state_41 : decode cX9_state 41 = .ok (.istore 5, 2) := by decide +kernel
theorem dX9_state_43 : decode cX9_state 43 = .ok (.iload 5, 2) := by decide +kernel
theorem dX9_state_45 : decode cX9_state 45 = .ok (.aload_n 0, 1) := by decide +kernel
theorem dX9_state_46 : decode cX9_state 46 = .ok (.getfield 180, 3) := by decide +kernel
theorem dX9_state_49 : decode cX9_state 49 = .ok (.if_icmp .ge 65, 3) := by decide +kernel
theorem dX9_state_52 : decode cX9_state 52 = .ok (.aload_n 0, 1) := by decide +kernel
theorem dX9_state_53 : decode cX9_state 53 = .ok (.getfield 51, 3) := by decide +kernel
theorem dX9_state_56 : decode cX9_state 56 = .ok (.iload 5, 2) := by decide +kernel
theorem dX9_state_58 : decode cX9_state 58 = .ok (.baload, 1) := by decide +kernel
theorem dX9_state_59 : decode cX9_state 59 = .ok (.iload_n 1, 1) := by decide +kernel
theorem dX9_state_60 : decode cX9_state 60 = .ok (.if_icmp .ne 48, 3) := by decide +kernel
theorem dX9_state_63 : decode cX9_state 63 = .ok (.aload_n 0, 1) := by decide +kernel
theorem dX9_state_64 : decode cX9_state 64 = .ok (.getfield 54, 3) := by decide +kernel
theorem dX9_state_67 : decode cX9_state 67 = .ok (.iload 5, 2) := by decide +kernel
theorem dX9_state_69 : decode cX9_state 69 = .ok (.iaload, 1) := by decide +kernel
theorem dX9_state_70 : decode cX9_state 70 = .ok (.iload_n 2, 1) := by decide +kernel
theorem dX9_state_71 : decode cX9_state 71 = .ok (.if_icmp .gt 37, 3) := by decide +kernel
theorem dX9_state_74 : decode cX9_state 74 = .ok (.aload_n 0, 1) := by decide +kernel
theorem dX9_state_75 : decode cX9_state 75 = .ok (.getfield 57, 3) := by decide +kernel
theorem dX9_state_78 : decode cX9_state 78 = .ok (.iload 5, 2) := by decide +kernel
theorem dX9_state_80 : decode cX9_state 80 = .ok (.baload, 1) := by decide +kernel
theorem dX9_state_81 : decode cX9_state 81 = .ok (.iconst 3, 1) := by decide +kernel
theorem dX9_state_82 : decode cX9_state 82 = .ok (.if_icmp .lt 26, 3) := by decide +kernel
theorem dX9_state_85 : decode cX9_state 85 = .ok (.aload_n 0, 1) := by decide +kernel
theorem dX9_state_86 : decode cX9_state 86 = .ok (.getfield 57, 3) := by decide +kernel
theorem dX9_state_89 : decode cX9_state 89 = .ok (.iload 5, 2) := by decide +kernel
theorem dX9_state_91 : decode cX9_state 91 = .ok (.baload, 1) := by decide +kernel
theorem dX9_state_92 : decode cX9_state 92 = .ok (.bipush 6, 2) := by decide +kernel
theorem dX9_state_94 : decode cX9_state 94 = .ok (.if_icmp .gt 14, 3) := by decide +kernel
theorem dX9_state_97 : decode cX9_state 97 = .ok (.aload_n 0, 1) := by decide +kernel
theorem dX9_state_98 : decode cX9_state 98 = .ok (.getfield 57, 3) := by decide +kernel
theorem dX9_state_101 : decode cX9_state 101 = .ok (.iload 5, 2) := by decide +kernel
theorem dX9_state_103 : decode cX9_state 103 = .ok (.baload, 1) := by decide +kernel
theorem dX9_state_104 : decode cX9_state 104 = .ok (.iconst 2, 1) := by decide +kernel
theorem dX9_state_105 : decode cX9_state 105 = .ok (.isub, 1) := by decide +kernel
theorem dX9_state_106 : decode cX9_state 106 = .ok (.istore 4, 2) := by decide +kernel
theorem dX9_state_108 : decode cX9_state 108 = .ok (.iinc 5 1, 3) := by decide +kernel
theorem dX9_state_111 : decode cX9_state 111 = .ok (.goto (-68), 3) := by decide +kernel
theorem dX9_state_114 : decode cX9_state 114 = .ok (.iload 4, 2) := by decide +kernel
theorem dX9_state_116 : decode cX9_state 116 = .ok (.ireturn, 1) := by decide +kernel
set_option maxHeartbeats 4000000 in
set_option maxRecDepth 100000 in
theorem g_X9_state (l : Launch) (G : xG) (S : yS) (d : yD) (h0 : Nat) (p0 : Int32) (p1 : Int32) (hSh : ySh S) (hPo : yPo S d) (hm_h0 : h0 ∈ S.1) (hk_h0 : S.2.1 h0 = 9) (hI : yMI S d h0) : xWi l G yX9_state cX9_state 6 (some .int) 3 65 0 0 [.ref h0, .int p0, .int p1] (yW G S d) (fun r (u : yD) => yAg S [9, 69] d u ∧ (yPo S d → yPo S u) ∧ yK [38] d u h0 ∧ (yMI S u h0)) (fun u => yW G S u) := by
  intro sz
  refine xstart (by decide) (Nat.le_of_ble_eq_true rfl) (fun p e s m args below meth c ls C0 hr hlocks hin hsz hP hK hD hN hl => ?_)
  obtain ⟨hx, hb, hml, hown, htl⟩ := id C0
  subst hsz
  have hD := hD.self (sz := s.heap.size)
  generalize hAe : va_A (yW G S d) s.heap.size = A at hD ⊢
  have hA : ∀ q : Nat, s.heap.size ≤ q → A q := fun q h => by rw [← hAe]; exact Or.inr h
  have hS : va_S A s.heap s.heap [] := va_S.rf
  have hg0 : yAg S [9, 69] d d := yAg.rf
  have hl : lv_has ls 6 [(0, .ref h0), (1, .int p0), (2, .int p1)] := hl
  refine lv_aload_n hx hb dX9_state_0 rfl (lv_at hl 0 rfl) ?_
  refine lv_iconst (v := 0) hx hb dX9_state_1 (by decide) ?_
  refine yputI (ci := 9) (k := 38) (ty := .int) (C := RX9) (T := TX9) (N := 67) C0 hK hP hD hS hm_h0 hk_h0 (by decide) rfl inlX9 tyX9 tyX9_ok nmX9 (by decide) mW175 (fun _ h9 => h9) rfl (by decide +kernel) rfl rfl (Nat.le_of_ble_eq_true rfl) ysi_9_38 dX9_state_2 (fun H locs hP hD hS => ?_)
  obtain ⟨d_1, ed_1⟩ : ∃ z : yD, z = yi d h0 38 0 := ⟨_, rfl⟩
  rw [← ed_1] at hP hD
  have hgd_1 : yAg S [9, 69] d d_1 := by rw [ed_1]; exact yAg.i hg0 (by rw [hk_h0]; decide)
  have hPod_1 : yPo S d_1 := by rw [ed_1]; exact yPo.i hPo hk_h0 (Or.inl rfl)
  have hfd_1 : yK [38] d d_1 h0 := by rw [ed_1]; exact yK.i yK.rf (by decide)
  have hId_1 : yMI S d_1 h0 := yMI.ag hI hSh hm_h0 hk_h0 (show yAg S [9] d d_1 from by rw [ed_1]; exact yAg.i yAg.rf (by rw [hk_h0]; decide)) (show yK [38] d d_1 h0 from by rw [ed_1]; exact yK.i yK.rf (by decide)) (by decide) (by decide)
  have hE0d_1 : (d_1.1 h0 0).toInt = (d.1 h0 0).toInt := congrArg Int32.toInt ((show yK [38] d d_1 h0 from by rw [ed_1]; exact yK.i yK.rf (by decide)) 0 (by decide))
  have hE1d_1 : (d_1.1 h0 1).toInt = (d.1 h0 1).toInt := congrArg Int32.toInt ((show yK [38] d d_1 h0 from by rw [ed_1]; exact yK.i yK.rf (by decide)) 1 (by decide))
  have hE2d_1 : (d_1.1 h0 2).toInt = (d.1 h0 2).toInt := congrArg Int32.toInt ((show yK [38] d d_1 h0 from by rw [ed_1]; exact yK.i yK.rf (by decide)) 2 (by decide))
  have hE3d_1 : (d_1.1 h0 3).toInt = (d.1 h0 3).toInt := congrArg Int32.toInt ((show yK [38] d d_1 h0 from by rw [ed_1]; exact yK.i yK.rf (by decide)) 3 (by decide))
  have hE63d_1 : (d_1.1 h0 63).toInt = (d.1 h0 63).toInt := congrArg Int32.toInt ((show yK [38] d d_1 h0 from by rw [ed_1]; exact yK.i yK.rf (by decide)) 63 (by decide))
  refine lv_aload_n hx hb dX9_state_5 rfl (lv_at hl 0 rfl) ?_
  refine lv_iload_n hx hb dX9_state_6 rfl (lv_at hl 1 rfl) ?_
  refine lv_iload_n hx hb dX9_state_7 rfl (lv_at hl 2 rfl) ?_
  refine yVri (As := [.int p0, .int p1]) (rest := []) C0 (g_X9_minuteWhy l G S d_1 h0 p0 p1 hSh hm_h0 hk_h0 hId_1) ok_X9_minuteWhy (mW421 : Cond.methodLink RX9 195 yX9_minuteWhy ∈ wsT) ⟨Nat.le_of_ble_eq_true rfl, Nat.le_of_ble_eq_true rfl⟩ hP hD hK hN hm_h0 hk_h0 (by decide) rfl rfl rfl hl.1 rfl (Nat.le_of_ble_eq_true rfl) ⟨Nat.le_of_ble_eq_true rfl, Nat.le_of_ble_eq_true rfl⟩ dX9_state_8 (fun r_2 hr_2 => ?_)
  refine lv_istore_n (lv' := [(3, .int r_2), (0, .ref h0), (1, .int p0), (2, .int p1)]) hx hb dX9_state_11 rfl hl (by decide) rfl (fun ls hl => ?_)
  refine lv_iload_n hx hb dX9_state_12 rfl (lv_at hl 0 rfl) ?_
  refine lv_if_ne (tgt := 27) hx hb dX9_state_13 (by decide) (fun c_3 => ?_) (fun c_3 => ?_)
  · refine lv_iload_n hx hb dX9_state_27 rfl (lv_at hl 0 rfl) ?_
    refine lv_if_eq (tgt := 37) hx hb dX9_state_28 (by decide) (fun c_4 => absurd c_4 c_3) (fun c_4 => ?_)
    refine lv_aload_n hx hb dX9_state_31 rfl (lv_at hl 1 rfl) ?_
    refine lv_iload_n hx hb dX9_state_32 rfl (lv_at hl 0 rfl) ?_
    have F_5 := fne (rfl : (r_2 : Int32).toInt = (r_2 : Int32).toInt) (by decide +kernel : (0 : Int32).toInt = 0) c_3
    have F_6 := fne (rfl : (r_2 : Int32).toInt = (r_2 : Int32).toInt) (by decide +kernel : (0 : Int32).toInt = 0) c_4
    refine yVwi (As := [.int r_2]) (rest := []) C0 (g_X9_no l G S d_1 h0 r_2 hSh hPod_1 hm_h0 hk_h0 (by refine ⟨?_, ?_⟩ <;> omega)) ok_X9_no (mW177 : Cond.methodLink RX9 168 yX9_no ∈ wsT) ⟨Nat.le_of_ble_eq_true rfl, Nat.le_of_ble_eq_true rfl⟩ hP hD hS hA hK hN hm_h0 hk_h0 (by decide) rfl rfl rfl hl.1 rfl (Nat.le_of_ble_eq_true rfl) ⟨Nat.le_of_ble_eq_true rfl, Nat.le_of_ble_eq_true rfl⟩ dX9_state_33 (fun r_7 d_8 H locs hr_7 hP hD hS => ?_)
    obtain ⟨hgad_8, hpad_8, hfad_8, hxd_8⟩ := hr_7
    have hfd_8 : yK [38] d d_8 h0 := yK.tr hfd_1 hfad_8 (by decide)
    have hE0d_8 : (d_8.1 h0 0).toInt = (d_1.1 h0 0).toInt := congrArg Int32.toInt (hfad_8 0 (by decide))
    have hE1d_8 : (d_8.1 h0 1).toInt = (d_1.1 h0 1).toInt := congrArg Int32.toInt (hfad_8 1 (by decide))
    have hE2d_8 : (d_8.1 h0 2).toInt = (d_1.1 h0 2).toInt := congrArg Int32.toInt (hfad_8 2 (by decide))
    have hE3d_8 : (d_8.1 h0 3).toInt = (d_1.1 h0 3).toInt := congrArg Int32.toInt (hfad_8 3 (by decide))
    have hE63d_8 : (d_8.1 h0 63).toInt = (d_1.1 h0 63).toInt := congrArg Int32.toInt (hfad_8 63 (by decide))
    have hId_8 : yMI S d_8 h0 := yMI.ag hId_1 hSh hm_h0 hk_h0 hgad_8 hfad_8 (by decide) (by decide)
    have hgd_8 : yAg S [9, 69] d d_8 := yAg.tr hgd_1 hgad_8 (by first | decide | exact fun _ h => h)
    have hPod_8 : yPo S d_8 := hpad_8 hPod_1
    exact W.iret (v := r_7) hx hb hr (fun t ht hW => ⟨⟨r_7, d_8, rfl, ⟨hgd_8, (fun _ => hPod_8), hfd_8, hId_8⟩, by rw [ht]; exact hP, hD⟩, hS.F ht⟩) hS.2.2 dX9_state_36
  · refine lv_aload_n hx hb dX9_state_16 rfl (lv_at hl 1 rfl) ?_
    refine lv_iload_n hx hb dX9_state_17 rfl (lv_at hl 2 rfl) ?_
    refine lv_iload_n hx hb dX9_state_18 rfl (lv_at hl 3 rfl) ?_
    have F_9 := feq (rfl : (r_2 : Int32).toInt = (r_2 : Int32).toInt) (by decide +kernel : (0 : Int32).toInt = 0) c_3
    refine yVri (As := [.int p0, .int p1]) (rest := []) C0 (g_X9_isKnown l G S d_1 h0 p0 p1 hSh hm_h0 hk_h0 (by refine ⟨?_, ?_⟩ <;> omega) (by refine ⟨?_, ?_⟩ <;> omega)) ok_X9_isKnown (mW429 : Cond.methodLink RX9 198 yX9_isKnown ∈ wsT) ⟨Nat.le_of_ble_eq_true rfl, Nat.le_of_ble_eq_true rfl⟩ hP hD hK hN hm_h0 hk_h0 (by decide) rfl rfl rfl hl.1 rfl (Nat.le_of_ble_eq_true rfl) ⟨Nat.le_of_ble_eq_true rfl, Nat.le_of_ble_eq_true rfl⟩ dX9_state_19 (fun r_10 hr_10 => ?_)
    refine lv_if_ne (tgt := 27) hx hb dX9_state_22 (by decide) (fun c_11 => ?_) (fun c_11 => ?_)
    · refine lv_iload_n hx hb dX9_state_27 rfl (lv_at hl 0 rfl) ?_
      refine lv_if_eq (tgt := 37) hx hb dX9_state_28 (by decide) (fun c_12 => ?_) (fun c_12 => absurd c_3 c_12)
      refine lv_iconst (v := 0) hx hb dX9_state_37 (by decide) ?_
      refine lv_istore (lv' := [(4, .int 0), (3, .int r_2), (0, .ref h0), (1, .int p0), (2, .int p1)]) hx hb dX9_state_38 hl (by decide) rfl (fun ls hl => ?_)
      refine lv_iconst (v := 0) hx hb dX9_state_40 (by decide) ?_
      refine lv_istore (lv' := [(5, .int 0), (4, .int 0), (3, .int r_2), (0, .ref h0), (1, .int p0), (2, .int p1)]) hx hb dX9_state_41 hl (by decide) rfl (fun ls hl => ?_)
      have hCC_13 := yMI.c hId_1
      have F_14 := fne (rfl : (r_10 : Int32).toInt = (r_10 : Int32).toInt) (by decide +kernel : (0 : Int32).toInt = 0) c_11
      have F_15 := feq (rfl : (r_2 : Int32).toInt = (r_2 : Int32).toInt) (by decide +kernel : (0 : Int32).toInt = 0) c_12
      refine yloop (σ := Int32 × Int32 × yD) (fun x => (2147483647 - (x.2.1 : Int32).toInt).toNat) 43 (fun x H locs ls => va_P G.1 xcl (yW G S x.2.2) H ∧ va_D A (yW G S x.2.2) ∧ va_S A s.heap H locs ∧ yAg S [9, 69] d x.2.2 ∧ yPo S x.2.2 ∧ yK [38] d x.2.2 h0 ∧ yMI S x.2.2 h0 ∧ yAg S [] d_1 x.2.2 ∧ yK [] d_1 x.2.2 h0 ∧ (0 ≤ ((x.2.1) : Int32).toInt) ∧ lv_has ls 6 [(5, .int x.2.1), (4, .int x.1), (0, .ref h0), (1, .int p0), (2, .int p1)]) (fun x H locs ls hI hnext_19 => ?_) (0, 0, d_1) ⟨hP, hD, hS, hgd_1, hPod_1, hfd_1, hId_1, yAg.rf, yK.rf, (show (0 ≤ ((0) : Int32).toInt) from by have hl0_ : (0 : Int32).toInt = 0 := (by decide +kernel); have hl1_ : (0 : Int32).toInt = 0 := (by decide +kernel); have hq0_ : (0 : Int32).toInt = 0 := (by decide +kernel); omega), lv_sub hl [0, 1, 3, 4, 5] rfl⟩
      obtain ⟨v_16, v_17, d_18⟩ := x
      obtain ⟨hP, hD, hS, hgd_18, hPod_18, hfd_18, hId_18, hLJd_18, hKJd_18, hex_20, hl⟩ := hI
      have hId_18 : yMI S d_18 h0 := hId_18
      have hex_20 : (0 ≤ ((v_17) : Int32).toInt) := hex_20
      have hl : lv_has ls 6 [(5, .int v_17), (4, .int v_16), (0, .ref h0), (1, .int p0), (2, .int p1)] := hl
      have hLJd_18 : yAg S [] d_1 d_18 := hLJd_18
      have hKJd_18 : yK [] d_1 d_18 h0 := hKJd_18
      have hE0d_18 : (d_18.1 h0 0).toInt = (d_1.1 h0 0).toInt := congrArg Int32.toInt (hKJd_18 0 (by decide))
      have hE1d_18 : (d_18.1 h0 1).toInt = (d_1.1 h0 1).toInt := congrArg Int32.toInt (hKJd_18 1 (by decide))
      have hE2d_18 : (d_18.1 h0 2).toInt = (d_1.1 h0 2).toInt := congrArg Int32.toInt (hKJd_18 2 (by decide))
      have hE3d_18 : (d_18.1 h0 3).toInt = (d_1.1 h0 3).toInt := congrArg Int32.toInt (hKJd_18 3 (by decide))
      have hE63d_18 : (d_18.1 h0 63).toInt = (d_1.1 h0 63).toInt := congrArg Int32.toInt (hKJd_18 63 (by decide))
      refine lv_iload hx hb dX9_state_43 (lv_at hl 0 rfl) ?_
      refine lv_aload_n hx hb dX9_state_45 rfl (lv_at hl 2 rfl) ?_
      refine yget (ci := 9) (k := 1) (v := .int (d_18.1 h0 1)) (C := RX9) (T := TX9) (N := 67) C0 hK hP hm_h0 hk_h0 (by decide) rfl inlX9 (by decide) mW364 (fun _ h9 => h9) rfl dX9_state_46 ?_
      refine lv_topi (fun z_21 ez_21 => ?_)
      refine lv_icmp_ge (tgt := 114) hx hb dX9_state_49 (by decide) (fun c_22 => ?_) (fun c_22 => ?_)
      · refine lv_iload hx hb dX9_state_114 (lv_at hl 1 rfl) ?_
        exact W.iret (v := v_16) hx hb hr (fun t ht hW => ⟨⟨v_16, d_18, rfl, ⟨hgd_18, (fun _ => hPod_18), hfd_18, hId_18⟩, by rw [ht]; exact hP, hD⟩, hS.F ht⟩) hS.2.2 dX9_state_116
      · refine lv_aload_n hx hb dX9_state_52 rfl (lv_at hl 2 rfl) ?_
        refine yget (ci := 9) (k := 15) (v := .ref (S.2.2.1 h0 15)) (C := RX9) (T := TX9) (N := 67) C0 hK hP hm_h0 hk_h0 (by decide) rfl inlX9 (by decide) mW122 (fun _ h9 => h9) rfl dX9_state_53 ?_
        obtain ⟨hmy_23, hky_23⟩ := ySh.f9_15 hSh _ hm_h0 hk_h0
        refine lv_iload hx hb dX9_state_56 (lv_at hl 0 rfl) ?_
        have hCC_24 := yMI.c hId_18
        have T_25 : (z_21 : Int32).toInt = (d_18.1 h0 1).toInt := by rw [ez_21]
        have F_26 := fnle (rfl : (z_21 : Int32).toInt = (z_21 : Int32).toInt) (rfl : (v_17 : Int32).toInt = (v_17 : Int32).toInt) c_22
        refine yaldB C0 hK hP hmy_23 hky_23 (by decide) rfl 1 rfl (xinT 5000 rfl (by omega) (by omega)) dX9_state_58 ?_
        refine lv_topi (fun z_27 ez_27 => ?_)
        refine lv_iload_n hx hb dX9_state_59 rfl (lv_at hl 3 rfl) ?_
        refine lv_icmp_ne (tgt := 108) hx hb dX9_state_60 (by decide) (fun c_28 => ?_) (fun c_28 => ?_)
        · refine lv_iinc (v := v_17 + 1) (lv' := [(5, .int (v_17 + 1)), (4, .int v_16), (0, .ref h0), (1, .int p0), (2, .int p1)]) hx hb dX9_state_108 hl (k := 0) rfl rfl (by decide) rfl (fun ls hl => ?_)
          refine lv_goto (tgt := 43) hx hb dX9_state_111 (by decide) ?_
          have F_31 := fne (rfl : (z_27 : Int32).toInt = (z_27 : Int32).toInt) (rfl : (p0 : Int32).toInt = (p0 : Int32).toInt) c_28
          have T_32 : ((v_17 + 1) : Int32).toInt = (v_17 : Int32).toInt + 1 := tadd rfl (rfl : (v_17 : Int32).toInt = (v_17 : Int32).toInt) (by decide +kernel : (1 : Int32).toInt = 1) (by omega) (by omega)
          exact hnext_19 (v_16, v_17 + 1, d_18) _ _ ls (xup c_22) ⟨hP, hD, hS, hgd_18, hPod_18, hfd_18, hId_18, hLJd_18, hKJd_18, (show (0 ≤ (((v_17 + 1)) : Int32).toInt) from by have hq0_ : (0 : Int32).toInt = 0 := (by decide +kernel); omega), lv_sub hl [0, 1, 2, 3, 4] rfl⟩
        · refine lv_aload_n hx hb dX9_state_63 rfl (lv_at hl 2 rfl) ?_
          refine yget (ci := 9) (k := 16) (v := .ref (S.2.2.1 h0 16)) (C := RX9) (T := TX9) (N := 67) C0 hK hP hm_h0 hk_h0 (by decide) rfl inlX9 (by decide) mW123 (fun _ h9 => h9) rfl dX9_state_64 ?_
          obtain ⟨hmy_33, hky_33⟩ := ySh.f9_16 hSh _ hm_h0 hk_h0
          refine lv_iload hx hb dX9_state_67 (lv_at hl 0 rfl) ?_
          have F_35 := feq (rfl : (z_27 : Int32).toInt = (z_27 : Int32).toInt) (rfl : (p0 : Int32).toInt = (p0 : Int32).toInt) c_28
          refine yald C0 hK hP hmy_33 hky_33 (by decide) rfl 0 rfl (xinT 5000 rfl (by omega) (by omega)) dX9_state_69 ?_
          refine lv_topi (fun z_36 ez_36 => ?_)
          have hvz_36 : 0 ≤ (z_36 : Int32).toInt ∧ (z_36 : Int32).toInt ≤ 129599 := by rw [ez_36]; exact yMI.em_ hId_18 _
          refine lv_iload_n hx hb dX9_state_70 rfl (lv_at hl 4 rfl) ?_
          refine lv_icmp_gt (tgt := 108) hx hb dX9_state_71 (by decide) (fun c_37 => ?_) (fun c_37 => ?_)
          · refine lv_iinc (v := v_17 + 1) (lv' := [(5, .int (v_17 + 1)), (4, .int v_16), (0, .ref h0), (1, .int p0), (2, .int p1)]) hx hb dX9_state_108 hl (k := 0) rfl rfl (by decide) rfl (fun ls hl => ?_)
            refine lv_goto (tgt := 43) hx hb dX9_state_111 (by decide) ?_
            have F_40 := flt (rfl : (p1 : Int32).toInt = (p1 : Int32).toInt) (rfl : (z_36 : Int32).toInt = (z_36 : Int32).toInt) c_37
            have T_41 : ((v_17 + 1) : Int32).toInt = (v_17 : Int32).toInt + 1 := tadd rfl (rfl : (v_17 : Int32).toInt = (v_17 : Int32).toInt) (by decide +kernel : (1 : Int32).toInt = 1) (by omega) (by omega)
            exact hnext_19 (v_16, v_17 + 1, d_18) _ _ ls (xup c_22) ⟨hP, hD, hS, hgd_18, hPod_18, hfd_18, hId_18, hLJd_18, hKJd_18, (show (0 ≤ (((v_17 + 1)) : Int32).toInt) from by have hq0_ : (0 : Int32).toInt = 0 := (by decide +kernel); omega), lv_sub hl [0, 1, 2, 3, 4] rfl⟩
          · refine lv_aload_n hx hb dX9_state_74 rfl (lv_at hl 2 rfl) ?_
            refine yget (ci := 9) (k := 17) (v := .ref (S.2.2.1 h0 17)) (C := RX9) (T := TX9) (N := 67) C0 hK hP hm_h0 hk_h0 (by decide) rfl inlX9 (by decide) mW124 (fun _ h9 => h9) rfl dX9_state_75 ?_
            obtain ⟨hmy_42, hky_42⟩ := ySh.f9_17 hSh _ hm_h0 hk_h0
            refine lv_iload hx hb dX9_state_78 (lv_at hl 0 rfl) ?_
            have F_44 := fnlt (rfl : (p1 : Int32).toInt = (p1 : Int32).toInt) (rfl : (z_36 : Int32).toInt = (z_36 : Int32).toInt) c_37
            refine yaldB C0 hK hP hmy_42 hky_42 (by decide) rfl 1 rfl (xinT 5000 rfl (by omega) (by omega)) dX9_state_80 ?_
            refine lv_topi (fun z_45 ez_45 => ?_)
            refine lv_iconst (v := 3) hx hb dX9_state_81 (by decide) ?_
            refine lv_icmp_lt (tgt := 108) hx hb dX9_state_82 (by decide) (fun c_46 => ?_) (fun c_46 => ?_)
            · refine lv_iinc (v := v_17 + 1) (lv' := [(5, .int (v_17 + 1)), (4, .int v_16), (0, .ref h0), (1, .int p0), (2, .int p1)]) hx hb dX9_state_108 hl (k := 0) rfl rfl (by decide) rfl (fun ls hl => ?_)
              refine lv_goto (tgt := 43) hx hb dX9_state_111 (by decide) ?_
              have F_49 := flt (rfl : (z_45 : Int32).toInt = (z_45 : Int32).toInt) (by decide +kernel : (3 : Int32).toInt = 3) c_46
              have T_50 : ((v_17 + 1) : Int32).toInt = (v_17 : Int32).toInt + 1 := tadd rfl (rfl : (v_17 : Int32).toInt = (v_17 : Int32).toInt) (by decide +kernel : (1 : Int32).toInt = 1) (by omega) (by omega)
              exact hnext_19 (v_16, v_17 + 1, d_18) _ _ ls (xup c_22) ⟨hP, hD, hS, hgd_18, hPod_18, hfd_18, hId_18, hLJd_18, hKJd_18, (show (0 ≤ (((v_17 + 1)) : Int32).toInt) from by have hq0_ : (0 : Int32).toInt = 0 := (by decide +kernel); omega), lv_sub hl [0, 1, 2, 3, 4] rfl⟩
            · refine lv_aload_n hx hb dX9_state_85 rfl (lv_at hl 2 rfl) ?_
              refine yget (ci := 9) (k := 17) (v := .ref (S.2.2.1 h0 17)) (C := RX9) (T := TX9) (N := 67) C0 hK hP hm_h0 hk_h0 (by decide) rfl inlX9 (by decide) mW124 (fun _ h9 => h9) rfl dX9_state_86 ?_
              refine lv_iload hx hb dX9_state_89 (lv_at hl 0 rfl) ?_
              have F_52 := fnlt (rfl : (z_45 : Int32).toInt = (z_45 : Int32).toInt) (by decide +kernel : (3 : Int32).toInt = 3) c_46
              refine yaldB C0 hK hP hmy_42 hky_42 (by decide) rfl 1 rfl (xinT 5000 rfl (by omega) (by omega)) dX9_state_91 ?_
              refine lv_topi (fun z_53 ez_53 => ?_)
              refine lv_bipush (v := 6) hx hb dX9_state_92 (by decide) ?_
              refine lv_icmp_gt (tgt := 108) hx hb dX9_state_94 (by decide) (fun c_54 => ?_) (fun c_54 => ?_)
              · refine lv_iinc (v := v_17 + 1) (lv' := [(5, .int (v_17 + 1)), (4, .int v_16), (0, .ref h0), (1, .int p0), (2, .int p1)]) hx hb dX9_state_108 hl (k := 0) rfl rfl (by decide) rfl (fun ls hl => ?_)
                refine lv_goto (tgt := 43) hx hb dX9_state_111 (by decide) ?_
                have F_57 := flt (by decide +kernel : (6 : Int32).toInt = 6) (rfl : (z_53 : Int32).toInt = (z_53 : Int32).toInt) c_54
                have T_58 : ((v_17 + 1) : Int32).toInt = (v_17 : Int32).toInt + 1 := tadd rfl (rfl : (v_17 : Int32).toInt = (v_17 : Int32).toInt) (by decide +kernel : (1 : Int32).toInt = 1) (by omega) (by omega)
                exact hnext_19 (v_16, v_17 + 1, d_18) _ _ ls (xup c_22) ⟨hP, hD, hS, hgd_18, hPod_18, hfd_18, hId_18, hLJd_18, hKJd_18, (show (0 ≤ (((v_17 + 1)) : Int32).toInt) from by have hq0_ : (0 : Int32).toInt = 0 := (by decide +kernel); omega), lv_sub hl [0, 1, 2, 3, 4] rfl⟩
              · refine lv_aload_n hx hb dX9_state_97 rfl (lv_at hl 2 rfl) ?_
                refine yget (ci := 9) (k := 17) (v := .ref (S.2.2.1 h0 17)) (C := RX9) (T := TX9) (N := 67) C0 hK hP hm_h0 hk_h0 (by decide) rfl inlX9 (by decide) mW124 (fun _ h9 => h9) rfl dX9_state_98 ?_
                refine lv_iload hx hb dX9_state_101 (lv_at hl 0 rfl) ?_
                have F_60 := fnlt (by decide +kernel : (6 : Int32).toInt = 6) (rfl : (z_53 : Int32).toInt = (z_53 : Int32).toInt) c_54
                refine yaldB C0 hK hP hmy_42 hky_42 (by decide) rfl 1 rfl (xinT 5000 rfl (by omega) (by omega)) dX9_state_103 ?_
                refine lv_topi (fun z_61 ez_61 => ?_)
                refine lv_iconst (v := 2) hx hb dX9_state_104 (by decide) ?_
                refine lv_isub hx hb dX9_state_105 ?_
                refine lv_topi (fun z_62 ez_62 => ?_)
                refine lv_istore (lv' := [(4, .int z_62), (5, .int v_17), (0, .ref h0), (1, .int p0), (2, .int p1)]) hx hb dX9_state_106 hl (by decide) rfl (fun ls hl => ?_)
                refine lv_iinc (v := v_17 + 1) (lv' := [(5, .int (v_17 + 1)), (4, .int z_62), (0, .ref h0), (1, .int p0), (2, .int p1)]) hx hb dX9_state_108 hl (k := 1) rfl rfl (by decide) rfl (fun ls hl => ?_)
                refine lv_goto (tgt := 43) hx hb dX9_state_111 (by decide) ?_
                have T_64 : ((v_17 + 1) : Int32).toInt = (v_17 : Int32).toInt + 1 := tadd rfl (rfl : (v_17 : Int32).toInt = (v_17 : Int32).toInt) (by decide +kernel : (1 : Int32).toInt = 1) (by omega) (by omega)
                exact hnext_19 (z_62, v_17 + 1, d_18) _ _ ls (xup c_22) ⟨hP, hD, hS, hgd_18, hPod_18, hfd_18, hId_18, hLJd_18, hKJd_18, (show (0 ≤ (((v_17 + 1)) : Int32).toInt) from by have hq0_ : (0 : Int32).toInt = 0 := (by decide +kernel); omega), lv_sub hl [0, 1, 2, 3, 4] rfl⟩
    · refine lv_iconst (v := 2) hx hb dX9_state_25 (by decide) ?_
      refine lv_istore_n (lv' := [(3, .int 2), (0, .ref h0), (1, .int p0), (2, .int p1)]) hx hb dX9_state_26 rfl hl (by decide) rfl (fun ls hl => ?_)
      refine lv_iload_n hx hb dX9_state_27 rfl (lv_at hl 0 rfl) ?_
      refine lv_if_eq (tgt := 37) hx hb dX9_state_28 (by decide) (fun c_65 => absurd c_65 (by decide +kernel)) (fun c_65 => ?_)
      refine lv_aload_n hx hb dX9_state_31 rfl (lv_at hl 1 rfl) ?_
      refine lv_iload_n hx hb dX9_state_32 rfl (lv_at hl 0 rfl) ?_
      refine yVwi (As := [.int 2]) (rest := []) C0 (g_X9_no l G S d_1 h0 2 hSh hPod_1 hm_h0 hk_h0 (by decide +kernel)) ok_X9_no (mW177 : Cond.methodLink RX9 168 yX9_no ∈ wsT) ⟨Nat.le_of_ble_eq_true rfl, Nat.le_of_ble_eq_true rfl⟩ hP hD hS hA hK hN hm_h0 hk_h0 (by decide) rfl rfl rfl hl.1 rfl (Nat.le_of_ble_eq_true rfl) ⟨Nat.le_of_ble_eq_true rfl, Nat.le_of_ble_eq_true rfl⟩ dX9_state_33 (fun r_66 d_67 H locs hr_66 hP hD hS => ?_)
      obtain ⟨hgad_67, hpad_67, hfad_67, hxd_67⟩ := hr_66
      have hfd_67 : yK [38] d d_67 h0 := yK.tr hfd_1 hfad_67 (by decide)
      have hE0d_67 : (d_67.1 h0 0).toInt = (d_1.1 h0 0).toInt := congrArg Int32.toInt (hfad_67 0 (by decide))
      have hE1d_67 : (d_67.1 h0 1).toInt = (d_1.1 h0 1).toInt := congrArg Int32.toInt (hfad_67 1 (by decide))
      have hE2d_67 : (d_67.1 h0 2).toInt = (d_1.1 h0 2).toInt := congrArg Int32.toInt (hfad_67 2 (by decide))
      have hE3d_67 : (d_67.1 h0 3).toInt = (d_1.1 h0 3).toInt := congrArg Int32.toInt (hfad_67 3 (by decide))
      have hE63d_67 : (d_67.1 h0 63).toInt = (d_1.1 h0 63).toInt := congrArg Int32.toInt (hfad_67 63 (by decide))
      have hId_67 : yMI S d_67 h0 := yMI.ag hId_1 hSh hm_h0 hk_h0 hgad_67 hfad_67 (by decide) (by decide)
      have hgd_67 : yAg S [9, 69] d d_67 := yAg.tr hgd_1 hgad_67 (by first | decide | exact fun _ h => h)
      have hPod_67 : yPo S d_67 := hpad_67 hPod_1
      exact W.iret (v := r_66) hx hb hr (fun t ht hW => ⟨⟨r_66, d_67, rfl, ⟨hgd_67, (fun _ => hPod_67), hfd_67, hId_67⟩, by rw [ht]; exact hP, hD⟩, hS.F ht⟩) hS.2.2 dX9_state_36
theorem dX9_tons_0 : decode cX9_tons 0 = .ok (.aload_n 0, 1) := by decide +kernel
theorem dX9_tons_1 : decode cX9_tons 1 = .ok (.iconst 0, 1) := by decide +kernel
theorem dX9_tons_2 : decode cX9_tons 2 = .ok (.putfield 147, 3) := by decide +kernel
theorem dX9_tons_5 : decode cX9_tons 5 = .ok (.aload_n 0, 1) := by decide +kernel
theorem dX9_tons_6 : decode cX9_tons 6 = .ok (.iload_n 1, 1) := by decide +kernel
theorem dX9_tons_7 : decode cX9_tons 7 = .ok (.iconst 3, 1) := by decide +kernel
theorem dX9_tons_8 : decode cX9_tons 8 = .ok (.lload_n 2, 1) := by decide +kernel
theorem dX9_tons_9 : decode cX9_tons 9 = .ok (.ldc2_w 212, 3) := by decide +kernel
theorem dX9_tons_12 : decode cX9_tons 12 = .ok (.invokevirtual 214, 3) := by decide +kernel
theorem dX9_tons_15 : decode cX9_tons 15 = .ok (.ireturn, 1) := by decide +kernel
set_option maxHeartbeats 4000000 in
set_option maxRecDepth 100000 in
theorem g_X9_tons (l : Launch) (G : xG) (S : yS) (d : yD) (h0 : Nat) (p0 : Int32) (p1 : Int64) (hSh : ySh S) (hPo : yPo S d) (hm_h0 : h0 ∈ S.1) (hk_h0 : S.2.1 h0 = 9) (hI : yMI S d h0) : xWi l G yX9_tons cX9_tons 4 (some .boolean) 3 69 0 0 [.ref h0, .int p0, .long p1] (yW G S d) (fun r (u : yD) => yAg S [9, 41, 69] d u ∧ (yPo S d → yPo S u) ∧ yK [38] d u h0 ∧ (yMI S u h0 ∧ ((r.toInt = 0 ∧ ¬ (0 ≤ p0.toInt ∧ p0.toInt ≤ 7 ∧ yOI S d h0 p0.toInt.toNat = 1 ∧ 0 ≤ p1.toInt ∧ p1.toInt ≤ 100000000) ∧ zPf S d u h0 (fun _ => False)) ∨ (r.toInt = 1 ∧ (0 ≤ p0.toInt ∧ p0.toInt ≤ 7 ∧ yOI S d h0 p0.toInt.toNat = 1 ∧ 0 ≤ p1.toInt ∧ p1.toInt ≤ 100000000) ∧ u.2.2.2.2 (S.2.2.1 h0 11) (12 * p0.toInt.toNat + 3) = p1 ∧ zPf S d u h0 (fun i => i = 12 * p0.toInt.toNat + 3))))) (fun u => yW G S u) := by
  intro sz
  refine xstart (by decide) (Nat.le_of_ble_eq_true rfl) (fun p e s m args below meth c ls C0 hr hlocks hin hsz hP hK hD hN hl => ?_)
  obtain ⟨hx, hb, hml, hown, htl⟩ := id C0
  subst hsz
  have hD := hD.self (sz := s.heap.size)
  generalize hAe : va_A (yW G S d) s.heap.size = A at hD ⊢
  have hA : ∀ q : Nat, s.heap.size ≤ q → A q := fun q h => by rw [← hAe]; exact Or.inr h
  have hS : va_S A s.heap s.heap [] := va_S.rf
  have hg0 : yAg S [9, 41, 69] d d := yAg.rf
  have hl : lv_has ls 4 [(0, .ref h0), (1, .int p0), (2, .long p1)] := hl
  refine lv_aload_n hx hb dX9_tons_0 rfl (lv_at hl 0 rfl) ?_
  refine lv_iconst (v := 0) hx hb dX9_tons_1 (by decide) ?_
  refine yputI (ci := 9) (k := 38) (ty := .int) (C := RX9) (T := TX9) (N := 67) C0 hK hP hD hS hm_h0 hk_h0 (by decide) rfl inlX9 tyX9 tyX9_ok nmX9 (by decide) mW175 (fun _ h9 => h9) rfl (by decide +kernel) rfl rfl (Nat.le_of_ble_eq_true rfl) ysi_9_38 dX9_tons_2 (fun H locs hP hD hS => ?_)
  obtain ⟨d_1, ed_1⟩ : ∃ z : yD, z = yi d h0 38 0 := ⟨_, rfl⟩
  rw [← ed_1] at hP hD
  have hgd_1 : yAg S [9, 41, 69] d d_1 := by rw [ed_1]; exact yAg.i hg0 (by rw [hk_h0]; decide)
  have hsd_1 : yAg S [9] d d_1 := by rw [ed_1]; exact yAg.i yAg.rf (by rw [hk_h0]; decide)
  have hPod_1 : yPo S d_1 := by rw [ed_1]; exact yPo.i hPo hk_h0 (Or.inl rfl)
  have hfd_1 : yK [38] d d_1 h0 := by rw [ed_1]; exact yK.i yK.rf (by decide)
  have hId_1 : yMI S d_1 h0 := yMI.ag hI hSh hm_h0 hk_h0 (show yAg S [9] d d_1 from by rw [ed_1]; exact yAg.i yAg.rf (by rw [hk_h0]; decide)) (show yK [38] d d_1 h0 from by rw [ed_1]; exact yK.i yK.rf (by decide)) (by decide) (by decide)
  have hE0d_1 : (d_1.1 h0 0).toInt = (d.1 h0 0).toInt := congrArg Int32.toInt ((show yK [38] d d_1 h0 from by rw [ed_1]; exact yK.i yK.rf (by decide)) 0 (by decide))
  have hE1d_1 : (d_1.1 h0 1).toInt = (d.1 h0 1).toInt := congrArg Int32.toInt ((show yK [38] d d_1 h0 from by rw [ed_1]; exact yK.i yK.rf (by decide)) 1 (by decide))
  have hE2d_1 : (d_1.1 h0 2).toInt = (d.1 h0 2).toInt := congrArg Int32.toInt ((show yK [38] d d_1 h0 from by rw [ed_1]; exact yK.i yK.rf (by decide)) 2 (by decide))
  have hE3d_1 : (d_1.1 h0 3).toInt = (d.1 h0 3).toInt := congrArg Int32.toInt ((show yK [38] d d_1 h0 from by rw [ed_1]; exact yK.i yK.rf (by decide)) 3 (by decide))
  have hE63d_1 : (d_1.1 h0 63).toInt = (d.1 h0 63).toInt := congrArg Int32.toInt ((show yK [38] d d_1 h0 from by rw [ed_1]; exact yK.i yK.rf (by decide)) 63 (by decide))
  refine lv_aload_n hx hb dX9_tons_5 rfl (lv_at hl 0 rfl) ?_
  refine lv_iload_n hx hb dX9_tons_6 rfl (lv_at hl 1 rfl) ?_
  refine lv_iconst (v := 3) hx hb dX9_tons_7 (by decide) ?_
  refine lv_lload_n hx hb dX9_tons_8 rfl (lv_at hl 2 rfl) ?_
  refine lv_ldc2 (v := 100000000) hx hb hown (htl (.constantLong RX9 212 (100000000)) mW512) dX9_tons_9 ?_
  refine yVwi (As := [.int p0, .int 3, .long p1, .long 100000000]) (rest := []) C0 (g_X9_put l G S d_1 h0 p0 3 p1 100000000 hSh hPod_1 hm_h0 hk_h0 hId_1 (by decide +kernel)) ok_X9_put (mW513 : Cond.methodLink RX9 214 yX9_put ∈ wsT) ⟨Nat.le_of_ble_eq_true rfl, Nat.le_of_ble_eq_true rfl⟩ hP hD hS hA hK hN hm_h0 hk_h0 (by decide) rfl rfl rfl hl.1 rfl (Nat.le_of_ble_eq_true rfl) ⟨Nat.le_of_ble_eq_true rfl, Nat.le_of_ble_eq_true rfl⟩ dX9_tons_12 (fun r_2 d_3 H locs hr_2 hP hD hS => ?_)
  obtain ⟨hgad_3, hpad_3, hfad_3, hxd_3⟩ := hr_2
  have hfd_3 : yK [38] d d_3 h0 := yK.tr hfd_1 hfad_3 (by decide)
  have hE0d_3 : (d_3.1 h0 0).toInt = (d_1.1 h0 0).toInt := congrArg Int32.toInt (hfad_3 0 (by decide))
  have hE1d_3 : (d_3.1 h0 1).toInt = (d_1.1 h0 1).toInt := congrArg Int32.toInt (hfad_3 1 (by decide))
  have hE2d_3 : (d_3.1 h0 2).toInt = (d_1.1 h0 2).toInt := congrArg Int32.toInt (hfad_3 2 (by decide))
  have hE3d_3 : (d_3.1 h0 3).toInt = (d_1.1 h0 3).toInt := congrArg Int32.toInt (hfad_3 3 (by decide))
  have hE63d_3 : (d_3.1 h0 63).toInt = (d_1.1 h0 63).toInt := congrArg Int32.toInt (hfad_3 63 (by decide))
  have hId_3 : yMI S d_3 h0 := hxd_3.1
  have hgd_3 : yAg S [9, 41, 69] d d_3 := yAg.tr hgd_1 hgad_3 (by first | decide | exact fun _ h => h)
  have hPod_3 : yPo S d_3 := hpad_3 hPod_1
  have hrf_4 : d_1.2.2.2.2 (S.2.2.1 h0 11) = d.2.2.2.2 (S.2.2.1 h0 11) := (hsd_1 _ (by rw [(ySh.f9_11 hSh h0 hm_h0 hk_h0).2]; decide)).2.2.2.2
  have hrf_4a : yOI S d_1 h0 (p0 : Int32).toInt.toNat = yOI S d h0 (p0 : Int32).toInt.toNat := by unfold yOI; rw [hrf_4]
  have hrf_4b : yOf S d_1 h0 (p0 : Int32).toInt.toNat 2 = yOf S d h0 (p0 : Int32).toInt.toNat 2 := by unfold yOf; rw [hrf_4]
  have hCC_5 := yMI.c hId_3
  have T_6 : (100000000 : Int64).toInt = 100000000 := by decide +kernel
  have hpu_ := hxd_3.2
  rw [show (3 : Int32).toInt.toNat = 3 by decide +kernel] at hpu_
  exact W.zret (v := r_2) (ty := .boolean) hx hb hr (znb (xb01 (hxd_3.2.elim (fun q => Or.inl q.1) (fun q => Or.inr q.1)))).1 (fun t ht hW => ⟨⟨r_2, d_3, rfl, ⟨hgd_3, (fun _ => hPod_3), hfd_3, ⟨hId_3, hpu_.elim (fun q => Or.inl ⟨q.1, by have q2 := q.2.1; omega, zPf.tr (zPf.eq (hsd_1 _ (by rw [(ySh.f9_11 hSh h0 hm_h0 hk_h0).2]; decide)).2.2.2.2) q.2.2⟩) (fun q => Or.inr ⟨q.1, by have q2 := q.2.1; omega, q.2.2.1, zPf.tr (zPf.mono (E := fun _ => False) (zPf.eq (hsd_1 _ (by rw [(ySh.f9_11 hSh h0 hm_h0 hk_h0).2]; decide)).2.2.2.2) (fun _ h => False.elim h)) q.2.2.2⟩)⟩⟩, by rw [ht]; exact hP, hD⟩, hS.F ht⟩) hS.2.2 dX9_tons_15
theorem dX9_offset_0 : decode cX9_offset 0 = .ok (.aload_n 0, 1) := by decide +kernel
theorem dX9_offset_1 : decode cX9_offset 1 = .ok (.iconst 0, 1) := by decide +kernel
theorem dX9_offset_2 : decode cX9_offset 2 = .ok (.putfield 147, 3) := by decide +kernel
theorem dX9_offset_5 : decode cX9_offset 5 = .ok (.aload_n 0, 1) := by decide +kernel
theorem dX9_offset_6 : decode cX9_offset 6 = .ok (.iload_n 1, 1) := by decide +kernel
theorem dX9_offset_7 : decode cX9_offset 7 = .ok (.bipush 7, 2) := by decide +kernel
theorem dX9_offset_9 : decode cX9_offset 9 = .ok (.iload_n 2, 1) := by decide +kernel
theorem dX9_offset_10 : decode cX9_offset 10 = .ok (.i2l, 1) := by decide +kernel
theorem dX9_offset_11 : decode cX9_offset 11 = .ok (.ldc2_w 219, 3) := by decide +kernel
theorem dX9_offset_14 : decode cX9_offset 14 = .ok (.invokevirtual 214, 3) := by decide +kernel
theorem dX9_offset_17 : decode cX9_offset 17 = .ok (.ireturn, 1) := by decide +kernel
set_option maxHeartbeats 4000000 in
set_option maxRecDepth 100000 in
theorem g_X9_offset (l : Launch) (G : xG) (S : yS) (d : yD) (h0 : Nat) (p0 : Int32) (p1 : Int32) (hSh : ySh S) (hPo : yPo S d) (hm_h0 : h0 ∈ S.1) (hk_h0 : S.2.1 h0 = 9) (hI : yMI S d h0) : xWi l G yX9_offset cX9_offset 3 (some .boolean) 3 69 0 0 [.ref h0, .int p0, .int p1] (yW G S d) (fun r (u : yD) => yAg S [9, 41, 69] d u ∧ (yPo S d → yPo S u) ∧ yK [38] d u h0 ∧ (yMI S u h0 ∧ ((r.toInt = 0 ∧ ¬ (0 ≤ p0.toInt ∧ p0.toInt ≤ 7 ∧ yOI S d h0 p0.toInt.toNat = 1 ∧ 0 ≤ p1.toInt ∧ p1.toInt ≤ 1000000) ∧ zPf S d u h0 (fun _ => False)) ∨ (r.toInt = 1 ∧ (0 ≤ p0.toInt ∧ p0.toInt ≤ 7 ∧ yOI S d h0 p0.toInt.toNat = 1 ∧ 0 ≤ p1.toInt ∧ p1.toInt ≤ 1000000) ∧ zPf S d u h0 (fun _ => False))))) (fun u => yW G S u) := by
  intro sz
  refine xstart (by decide) (Nat.le_of_ble_eq_true rfl) (fun p e s m args below meth c ls C0 hr hlocks hin hsz hP hK hD hN hl => ?_)
  obtain ⟨hx, hb, hml, hown, htl⟩ := id C0
  subst hsz
  have hD := hD.self (sz := s.heap.size)
  generalize hAe : va_A (yW G S d) s.heap.size = A at hD ⊢
  have hA : ∀ q : Nat, s.heap.size ≤ q → A q := fun q h => by rw [← hAe]; exact Or.inr h
  have hS : va_S A s.heap s.heap [] := va_S.rf
  have hg0 : yAg S [9, 41, 69] d d := yAg.rf
  have hl : lv_has ls 3 [(0, .ref h0), (1, .int p0), (2, .int p1)] := hl
  refine lv_aload_n hx hb dX9_offset_0 rfl (lv_at hl 0 rfl) ?_
  refine lv_iconst (v := 0) hx hb dX9_offset_1 (by decide) ?_
  refine yputI (ci := 9) (k := 38) (ty := .int) (C := RX9) (T := TX9) (N := 67) C0 hK hP hD hS hm_h0 hk_h0 (by decide) rfl inlX9 tyX9 tyX9_ok nmX9 (by decide) mW175 (fun _ h9 => h9) rfl (by decide +kernel) rfl rfl (Nat.le_of_ble_eq_true rfl) ysi_9_38 dX9_offset_2 (fun H locs hP hD hS => ?_)
  obtain ⟨d_1, ed_1⟩ : ∃ z : yD, z = yi d h0 38 0 := ⟨_, rfl⟩
  rw [← ed_1] at hP hD
  have hgd_1 : yAg S [9, 41, 69] d d_1 := by rw [ed_1]; exact yAg.i hg0 (by rw [hk_h0]; decide)
  have hsd_1 : yAg S [9] d d_1 := by rw [ed_1]; exact yAg.i yAg.rf (by rw [hk_h0]; decide)
  have hPod_1 : yPo S d_1 := by rw [ed_1]; exact yPo.i hPo hk_h0 (Or.inl rfl)
  have hfd_1 : yK [38] d d_1 h0 := by rw [ed_1]; exact yK.i yK.rf (by decide)
  have hId_1 : yMI S d_1 h0 := yMI.ag hI hSh hm_h0 hk_h0 (show yAg S [9] d d_1 from by rw [ed_1]; exact yAg.i yAg.rf (by rw [hk_h0]; decide)) (show yK [38] d d_1 h0 from by rw [ed_1]; exact yK.i yK.rf (by decide)) (by decide) (by decide)
  have hE0d_1 : (d_1.1 h0 0).toInt = (d.1 h0 0).toInt := congrArg Int32.toInt ((show yK [38] d d_1 h0 from by rw [ed_1]; exact yK.i yK.rf (by decide)) 0 (by decide))
  have hE1d_1 : (d_1.1 h0 1).toInt = (d.1 h0 1).toInt := congrArg Int32.toInt ((show yK [38] d d_1 h0 from by rw [ed_1]; exact yK.i yK.rf (by decide)) 1 (by decide))
  have hE2d_1 : (d_1.1 h0 2).toInt = (d.1 h0 2).toInt := congrArg Int32.toInt ((show yK [38] d d_1 h0 from by rw [ed_1]; exact yK.i yK.rf (by decide)) 2 (by decide))
  have hE3d_1 : (d_1.1 h0 3).toInt = (d.1 h0 3).toInt := congrArg Int32.toInt ((show yK [38] d d_1 h0 from by rw [ed_1]; exact yK.i yK.rf (by decide)) 3 (by decide))
  have hE63d_1 : (d_1.1 h0 63).toInt = (d.1 h0 63).toInt := congrArg Int32.toInt ((show yK [38] d d_1 h0 from by rw [ed_1]; exact yK.i yK.rf (by decide)) 63 (by decide))
  refine lv_aload_n hx hb dX9_offset_5 rfl (lv_at hl 0 rfl) ?_
  refine lv_iload_n hx hb dX9_offset_6 rfl (lv_at hl 1 rfl) ?_
  refine lv_bipush (v := 7) hx hb dX9_offset_7 (by decide) ?_
  refine lv_iload_n hx hb dX9_offset_9 rfl (lv_at hl 2 rfl) ?_
  refine lv_i2l hx hb dX9_offset_10 rfl ?_
  refine lv_topl (fun z_2 ez_2 => ?_)
  refine lv_ldc2 (v := 1000000) hx hb hown (htl (.constantLong RX9 219 (1000000)) mW539) dX9_offset_11 ?_
  refine yVwi (As := [.int p0, .int 7, .long z_2, .long 1000000]) (rest := []) C0 (g_X9_put l G S d_1 h0 p0 7 z_2 1000000 hSh hPod_1 hm_h0 hk_h0 hId_1 (by decide +kernel)) ok_X9_put (mW513 : Cond.methodLink RX9 214 yX9_put ∈ wsT) ⟨Nat.le_of_ble_eq_true rfl, Nat.le_of_ble_eq_true rfl⟩ hP hD hS hA hK hN hm_h0 hk_h0 (by decide) rfl rfl rfl hl.1 rfl (Nat.le_of_ble_eq_true rfl) ⟨Nat.le_of_ble_eq_true rfl, Nat.le_of_ble_eq_true rfl⟩ dX9_offset_14 (fun r_3 d_4 H locs hr_3 hP hD hS => ?_)
  obtain ⟨hgad_4, hpad_4, hfad_4, hxd_4⟩ := hr_3
  have hfd_4 : yK [38] d d_4 h0 := yK.tr hfd_1 hfad_4 (by decide)
  have hE0d_4 : (d_4.1 h0 0).toInt = (d_1.1 h0 0).toInt := congrArg Int32.toInt (hfad_4 0 (by decide))
  have hE1d_4 : (d_4.1 h0 1).toInt = (d_1.1 h0 1).toInt := congrArg Int32.toInt (hfad_4 1 (by decide))
  have hE2d_4 : (d_4.1 h0 2).toInt = (d_1.1 h0 2).toInt := congrArg Int32.toInt (hfad_4 2 (by decide))
  have hE3d_4 : (d_4.1 h0 3).toInt = (d_1.1 h0 3).toInt := congrArg Int32.toInt (hfad_4 3 (by decide))
  have hE63d_4 : (d_4.1 h0 63).toInt = (d_1.1 h0 63).toInt := congrArg Int32.toInt (hfad_4 63 (by decide))
  have hId_4 : yMI S d_4 h0 := hxd_4.1
  have hgd_4 : yAg S [9, 41, 69] d d_4 := yAg.tr hgd_1 hgad_4 (by first | decide | exact fun _ h => h)
  have hPod_4 : yPo S d_4 := hpad_4 hPod_1
  have hrf_5 : d_1.2.2.2.2 (S.2.2.1 h0 11) = d.2.2.2.2 (S.2.2.1 h0 11) := (hsd_1 _ (by rw [(ySh.f9_11 hSh h0 hm_h0 hk_h0).2]; decide)).2.2.2.2
  have hrf_5a : yOI S d_1 h0 (p0 : Int32).toInt.toNat = yOI S d h0 (p0 : Int32).toInt.toNat := by unfold yOI; rw [hrf_5]
  have hrf_5b : yOf S d_1 h0 (p0 : Int32).toInt.toNat 2 = yOf S d h0 (p0 : Int32).toInt.toNat 2 := by unfold yOf; rw [hrf_5]
  have hCC_6 := yMI.c hId_4
  have T_7 : (1000000 : Int64).toInt = 1000000 := by decide +kernel
  have T_8 : (z_2 : Int64).toInt = (p1 : Int32).toInt := by rw [ez_2, Int32.toInt_toInt64]
  have hpu_ := hxd_4.2
  rw [show (7 : Int32).toInt.toNat = 7 by decide +kernel] at hpu_
  exact W.zret (v := r_3) (ty := .boolean) hx hb hr (znb (xb01 (hxd_4.2.elim (fun q => Or.inl q.1) (fun q => Or.inr q.1)))).1 (fun t ht hW => ⟨⟨r_3, d_4, rfl, ⟨hgd_4, (fun _ => hPod_4), hfd_4, ⟨hId_4, hpu_.elim (fun q => Or.inl ⟨q.1, by have q2 := q.2.1; omega, zPf.tr (zPf.eq (hsd_1 _ (by rw [(ySh.f9_11 hSh h0 hm_h0 hk_h0).2]; decide)).2.2.2.2) q.2.2⟩) (fun q => Or.inr ⟨q.1, by have q2 := q.2.1; omega, zPf.tr (zPf.mono (E := fun _ => False) (zPf.eq (hsd_1 _ (by rw [(ySh.f9_11 hSh h0 hm_h0 hk_h0).2]; decide)).2.2.2.2) (fun _ h => False.elim h)) (fun i a b => q.2.2.2 i a (fun e => by have e2 : i = 12 * p0.toInt.toNat + 7 := e; omega))⟩)⟩⟩, by rw [ht]; exact hP, hD⟩, hS.F ht⟩) hS.2.2 dX9_offset_17
theorem dX9_office_0 : decode cX9_office 0 = .ok (.aload_n 0, 1) := by decide +kernel
theorem dX9_office_1 : decode cX9_office 1 = .ok (.iconst 0, 1) := by decide +kernel
theorem dX9_office_2 : decode cX9_office 2 = .ok (.putfield 147, 3) := by decide +kernel
theorem dX9_office_5 : decode cX9_office 5 = .ok (.iload_n 2, 1) := by decide +kernel
theorem dX9_office_6 : decode cX9_office 6 = .ok (.ifCond .lt 33, 3) := by decide +kernel
theorem dX9_office_9 : decode cX9_office 9 = .ok (.iload_n 2, 1) := by decide +kernel
theorem dX9_office_10 : decode cX9_office 10 = .ok (.sipush 1440, 3) := by decide +kernel
theorem dX9_office_13 : decode cX9_office 13 = .ok (.if_icmp .gt 26, 3) := by decide +kernel
theorem dX9_office_16 : decode cX9_office 16 = .ok (.iload_n 3, 1) := by decide +kernel
theorem dX9_office_17 : decode cX9_office 17 = .ok (.ifCond .lt 22, 3) := by decide +kernel
theorem dX9_office_20 : decode cX9_office 20 = .ok (.iload_n 3, 1) := by decide +kernel
theorem dX9_office_21 : decode cX9_office 21 = .ok (.sipush 1440, 3) := by decide +kernel
theorem dX9_office_24 : decode cX9_office 24 = .ok (.if_icmp .gt 15, 3) := by decide +kernel
theorem dX9_office_27 : decode cX9_office 27 = .ok (.iload 4, 2) := by decide +kernel
theorem dX9_office_29 : decode cX9_office 29 = .ok (.ifCond .lt 10, 3) := by decide +kernel
theorem dX9_office_32 : decode cX9_office 32 = .ok (.iload 4, 2) := by decide +kernel
theorem dX9_office_34 : decode cX9_office 34 = .ok (.ldc 218, 2) := by decide +kernel
theorem dX9_office_36 : decode cX9_office 36 = .ok (.if_icmp .le 7, 3) := by decide +kernel
theorem dX9_office_39 : decode cX9_office 39 = .ok (.iconst 1, 1) := by decide +kernel
theorem dX9_office_40 : decode cX9_office 40 = .ok (.goto 8, 3) := by decide +kernel
theorem dX9_office_43 : decode cX9_office 43 = .ok (.aload_n 0, 1) := by decide +kernel
theorem dX9_office_44 : decode cX9_office 44 = .ok (.iload_n 1, 1) := by decide +kernel
theorem dX9_office_45 : decode cX9_office 45 = .ok (.invokevirtual 165, 3) := by decide +kernel
theorem dX9_office_48 : decode cX9_office 48 = .ok (.istore 5, 2) := by decide +kernel
theorem dX9_office_50 : decode cX9_office 50 = .ok (.iload 5, 2) := by decide +kernel
theorem dX9_office_52 : decode cX9_office 52 = .ok (.ifCond .eq 12, 3) := by decide +kernel
theorem dX9_office_55 : decode cX9_office 55 = .ok (.aload_n 0, 1) := by decide +kernel
theorem dX9_office_56 : decode cX9_office 56 = .ok (.iload 5, 2) := by decide +kernel
theorem dX9_office_58 : decode cX9_office 58 = .ok (.invokevirtual 168, 3) := by decide +kernel
theorem dX9_office_61 : decode cX9_office 61 = .ok (.pop, 1) := by decide +kernel
theorem dX9_office_62 : decode cX9_office 62 = .ok (.iconst 0, 1) := by decide +kernel
theorem dX9_office_63 : decode cX9_office 63 = .ok (.ireturn, 1) := by decide +kernel
theorem dX9_office_64 : decode cX9_office 64 = .ok (.aload_n 0, 1) := by decide +kernel
theorem dX9_office_65 : decode cX9_office 65 = .ok (.getfield 36, 3) := by decide +kernel
theorem dX9_office_68 : decode cX9_office 68 = .ok (.bipush 12, 2) := by decide +kernel
theorem dX9_office_70 : decode cX9_office 70 = .ok (.iload_n 1, 1) := by decide +kernel
theorem dX9_office_71 : decode cX9_office 71 = .ok (.imul, 1) := by decide +kernel
theorem dX9_office_72 : decode cX9_office 72 = .ok (.iconst 4, 1) := by decide +kernel
theorem dX9_office_73 : decode cX9_office 73 = .ok (.iadd, 1) := by decide +kernel
theorem dX9_office_74 : decode cX9_office 74 = .ok (.iload_n 2, 1) := by decide +kernel
theorem dX9_office_75 : decode cX9_office 75 = .ok (.i2l, 1) := by decide +kernel
theorem dX9_office_76 : decode cX9_office 76 = .ok (.lastore, 1) := by decide +kernel
theorem dX9_office_77 : decode cX9_office 77 = .ok (.aload_n 0, 1) := by decide +kernel
theorem dX9_office_78 : decode cX9_office 78 = .ok (.getfield 36, 3) := by decide +kernel
theorem dX9_office_81 : decode cX9_office 81 = .ok (.bipush 12, 2) := by decide +kernel
theorem dX9_office_83 : decode cX9_office 83 = .ok (.iload_n 1, 1) := by decide +kernel
theorem dX9_office_84 : decode cX9_office 84 = .ok (.imul, 1) := by decide +kernel
theorem dX9_office_85 : decode cX9_office 85 = .ok (.iconst 5, 1) := by decide +kernel
theorem dX9_office_86 : decode cX9_office 86 = .ok (.iadd, 1) := by decide +kernel
theorem dX9_office_87 : decode cX9_office 87 = .ok (.iload_n 3, 1) := by decide +kernel
theorem dX9_office_88 : decode cX9_office 88 = .ok (.i2l, 1) := by decide +kernel
theorem dX9_office_89 : decode cX9_office 89 = .ok (.lastore, 1) := by decide +kernel
theorem dX9_office_90 : decode cX9_office 90 = .ok (.aload_n 0, 1) := by decide +kernel
theorem dX9_office_91 : decode cX9_office 91 = .ok (.getfield 36, 3) := by decide +kernel
theorem dX9_office_94 : decode cX9_office 94 = .ok (.bipush 12, 2) := by decide +kernel
theorem dX9_office_96 : decode cX9_office 96 = .ok (.iload_n 1, 1) := by decide +kernel
theorem dX9_office_97 : decode cX9_office 97 = .ok (.imul, 1) := by decide +kernel
theorem dX9_office_98 : decode cX9_office 98 = .ok (.bipush 6, 2) := by decide +kernel
theorem dX9_office_100 : decode cX9_office 100 = .ok (.iadd, 1) := by decide +kernel
theorem dX9_office_101 : decode cX9_office 101 = .ok (.iload 4, 2) := by decide +kernel
theorem dX9_office_103 : decode cX9_office 103 = .ok (.i2l, 1) := by decide +kernel
theorem dX9_office_104 : decode cX9_office 104 = .ok (.lastore, 1) := by decide +kernel
theorem dX9_office_105 : decode cX9_office 105 = .ok (.iconst 1, 1) := by decide +kernel
theorem dX9_office_106 : decode cX9_office 106 = .ok (.ireturn, 1) := by decide +kernel
set_option maxHeartbeats 4000000 in
set_option maxRecDepth 100000 in
theorem g_X9_office (l : Launch) (G : xG) (S : yS) (d : yD) (h0 : Nat) (p0 : Int32) (p1 : Int32) (p2 : Int32) (p3 : Int32) (hSh : ySh S) (hPo : yPo S d) (hm_h0 : h0 ∈ S.1) (hk_h0 : S.2.1 h0 = 9) (hI : yMI S d h0) : xWi l G yX9_office cX9_office 6 (some .boolean) 2 42 0 0 [.ref h0, .int p0, .int p1, .int p2, .int p3] (yW G S d) (fun r (u : yD) => yAg S [9, 41, 69] d u ∧ (yPo S d → yPo S u) ∧ yK [38] d u h0 ∧ (yMI S u h0 ∧ ((r.toInt = 0 ∧ ¬ (0 ≤ p0.toInt ∧ p0.toInt ≤ 7 ∧ yOI S d h0 p0.toInt.toNat = 1 ∧ 0 ≤ p1.toInt ∧ p1.toInt ≤ 1440 ∧ 0 ≤ p2.toInt ∧ p2.toInt ≤ 1440 ∧ 0 ≤ p3.toInt ∧ p3.toInt ≤ 100000) ∧ zPf S d u h0 (fun _ => False)) ∨ (r.toInt = 1 ∧ (0 ≤ p0.toInt ∧ p0.toInt ≤ 7 ∧ yOI S d h0 p0.toInt.toNat = 1 ∧ 0 ≤ p1.toInt ∧ p1.toInt ≤ 1440 ∧ 0 ≤ p2.toInt ∧ p2.toInt ≤ 1440 ∧ 0 ≤ p3.toInt ∧ p3.toInt ≤ 100000) ∧ zPf S d u h0 (fun _ => False))))) (fun u => yW G S u) := by
  intro sz
  refine xstart (by decide) (Nat.le_of_ble_eq_true rfl) (fun p e s m args below meth c ls C0 hr hlocks hin hsz hP hK hD hN hl => ?_)
  obtain ⟨hx, hb, hml, hown, htl⟩ := id C0
  subst hsz
  have hD := hD.self (sz := s.heap.size)
  generalize hAe : va_A (yW G S d) s.heap.size = A at hD ⊢
  have hA : ∀ q : Nat, s.heap.size ≤ q → A q := fun q h => by rw [← hAe]; exact Or.inr h
  have hS : va_S A s.heap s.heap [] := va_S.rf
  have hg0 : yAg S [9, 41, 69] d d := yAg.rf
  have hl : lv_has ls 6 [(0, .ref h0), (1, .int p0), (2, .int p1), (3, .int p2), (4, .int p3)] := hl
  refine lv_aload_n hx hb dX9_office_0 rfl (lv_at hl 0 rfl) ?_
  refine lv_iconst (v := 0) hx hb dX9_office_1 (by decide) ?_
  refine yputI (ci := 9) (k := 38) (ty := .int) (C := RX9) (T := TX9) (N := 67) C0 hK hP hD hS hm_h0 hk_h0 (by decide) rfl inlX9 tyX9 tyX9_ok nmX9 (by decide) mW175 (fun _ h9 => h9) rfl (by decide +kernel) rfl rfl (Nat.le_of_ble_eq_true rfl) ysi_9_38 dX9_office_2 (fun H locs hP hD hS => ?_)
  obtain ⟨d_1, ed_1⟩ : ∃ z : yD, z = yi d h0 38 0 := ⟨_, rfl⟩
  rw [← ed_1] at hP hD
  have hgd_1 : yAg S [9, 41, 69] d d_1 := by rw [ed_1]; exact yAg.i hg0 (by rw [hk_h0]; decide)
  have hsd_1 : yAg S [9] d d_1 := by rw [ed_1]; exact yAg.i yAg.rf (by rw [hk_h0]; decide)
  have hPod_1 : yPo S d_1 := by rw [ed_1]; exact yPo.i hPo hk_h0 (Or.inl rfl)
  have hfd_1 : yK [38] d d_1 h0 := by rw [ed_1]; exact yK.i yK.rf (by decide)
  have hId_1 : yMI S d_1 h0 := yMI.ag hI hSh hm_h0 hk_h0 (show yAg S [9] d d_1 from by rw [ed_1]; exact yAg.i yAg.rf (by rw [hk_h0]; decide)) (show yK [38] d d_1 h0 from by rw [ed_1]; exact yK.i yK.rf (by decide)) (by decide) (by decide)
  have hE0d_1 : (d_1.1 h0 0).toInt = (d.1 h0 0).toInt := congrArg Int32.toInt ((show yK [38] d d_1 h0 from by rw [ed_1]; exact yK.i yK.rf (by decide)) 0 (by decide))
  have hE1d_1 : (d_1.1 h0 1).toInt = (d.1 h0 1).toInt := congrArg Int32.toInt ((show yK [38] d d_1 h0 from by rw [ed_1]; exact yK.i yK.rf (by decide)) 1 (by decide))
  have hE2d_1 : (d_1.1 h0 2).toInt = (d.1 h0 2).toInt := congrArg Int32.toInt ((show yK [38] d d_1 h0 from by rw [ed_1]; exact yK.i yK.rf (by decide)) 2 (by decide))
  have hE3d_1 : (d_1.1 h0 3).toInt = (d.1 h0 3).toInt := congrArg Int32.toInt ((show yK [38] d d_1 h0 from by rw [ed_1]; exact yK.i yK.rf (by decide)) 3 (by decide))
  have hE63d_1 : (d_1.1 h0 63).toInt = (d.1 h0 63).toInt := congrArg Int32.toInt ((show yK [38] d d_1 h0 from by rw [ed_1]; exact yK.i yK.rf (by decide)) 63 (by decide))
  refine lv_iload_n hx hb dX9_office_5 rfl (lv_at hl 2 rfl) ?_
  refine lv_if_lt (tgt := 39) hx hb dX9_office_6 (by decide) (fun c_2 => ?_) (fun c_2 => ?_)
  · refine lv_iconst (v := 1) hx hb dX9_office_39 (by decide) ?_
    refine lv_goto (tgt := 48) hx hb dX9_office_40 (by decide) ?_
    refine lv_istore (lv' := [(5, .int 1), (0, .ref h0), (1, .int p0), (2, .int p1), (3, .int p2), (4, .int p3)]) hx hb dX9_office_48 hl (by decide) rfl (fun ls hl => ?_)
    refine lv_iload hx hb dX9_office_50 (lv_at hl 0 rfl) ?_
    refine lv_if_eq (tgt := 64) hx hb dX9_office_52 (by decide) (fun c_3 => absurd c_3 (by decide +kernel)) (fun c_3 => ?_)
    refine lv_aload_n hx hb dX9_office_55 rfl (lv_at hl 1 rfl) ?_
    refine lv_iload hx hb dX9_office_56 (lv_at hl 0 rfl) ?_
    refine yVwi (As := [.int 1]) (rest := []) C0 (g_X9_no l G S d_1 h0 1 hSh hPod_1 hm_h0 hk_h0 (by decide +kernel)) ok_X9_no (mW177 : Cond.methodLink RX9 168 yX9_no ∈ wsT) ⟨Nat.le_of_ble_eq_true rfl, Nat.le_of_ble_eq_true rfl⟩ hP hD hS hA hK hN hm_h0 hk_h0 (by decide) rfl rfl rfl hl.1 rfl (Nat.le_of_ble_eq_true rfl) ⟨Nat.le_of_ble_eq_true rfl, Nat.le_of_ble_eq_true rfl⟩ dX9_office_58 (fun r_4 d_5 H locs hr_4 hP hD hS => ?_)
    obtain ⟨hgad_5, hpad_5, hfad_5, hxd_5⟩ := hr_4
    have hfd_5 : yK [38] d d_5 h0 := yK.tr hfd_1 hfad_5 (by decide)
    have hE0d_5 : (d_5.1 h0 0).toInt = (d_1.1 h0 0).toInt := congrArg Int32.toInt (hfad_5 0 (by decide))
    have hE1d_5 : (d_5.1 h0 1).toInt = (d_1.1 h0 1).toInt := congrArg Int32.toInt (hfad_5 1 (by decide))
    have hE2d_5 : (d_5.1 h0 2).toInt = (d_1.1 h0 2).toInt := congrArg Int32.toInt (hfad_5 2 (by decide))
    have hE3d_5 : (d_5.1 h0 3).toInt = (d_1.1 h0 3).toInt := congrArg Int32.toInt (hfad_5 3 (by decide))
    have hE63d_5 : (d_5.1 h0 63).toInt = (d_1.1 h0 63).toInt := congrArg Int32.toInt (hfad_5 63 (by decide))
    have hId_5 : yMI S d_5 h0 := yMI.ag hId_1 hSh hm_h0 hk_h0 hgad_5 hfad_5 (by decide) (by decide)
    have hgd_5 : yAg S [9, 41, 69] d d_5 := yAg.tr hgd_1 hgad_5 (by first | decide | exact fun _ h => h)
    have hPod_5 : yPo S d_5 := hpad_5 hPod_1
    refine lv_pop hx hb dX9_office_61 rfl ?_
    refine lv_iconst (v := 0) hx hb dX9_office_62 (by decide) ?_
    have hCC_6 := yMI.c hId_5
    have F_7 := flt (rfl : (p1 : Int32).toInt = (p1 : Int32).toInt) (by decide +kernel : (0 : Int32).toInt = 0) c_2
    have F_8 := fne (by decide +kernel : (1 : Int32).toInt = 1) (by decide +kernel : (0 : Int32).toInt = 0) c_3
    exact W.zret (v := 0) (ty := .boolean) hx hb hr rfl (fun t ht hW => ⟨⟨0, d_5, rfl, ⟨hgd_5, (fun _ => hPod_5), hfd_5, ⟨hId_5, Or.inl ⟨by have h0_ : (0 : Int32).toInt = 0 := (by decide +kernel); omega, by omega, (zPf.tr (zPf.eq (hsd_1 _ (by rw [(ySh.f9_11 hSh h0 hm_h0 hk_h0).2]; decide)).2.2.2.2) (zPf.eq (hgad_5 _ (by rw [(ySh.f9_11 hSh h0 hm_h0 hk_h0).2]; decide)).2.2.2.2))⟩⟩⟩, by rw [ht]; exact hP, hD⟩, hS.F ht⟩) hS.2.2 dX9_office_63
  · refine lv_iload_n hx hb dX9_office_9 rfl (lv_at hl 2 rfl) ?_
    refine lv_sipush (v := 1440) hx hb dX9_office_10 (by decide) ?_
    refine lv_icmp_gt (tgt := 39) hx hb dX9_office_13 (by decide) (fun c_9 => ?_) (fun c_9 => ?_)
    · refine lv_iconst (v := 1) hx hb dX9_office_39 (by decide) ?_
      refine lv_goto (tgt := 48) hx hb dX9_office_40 (by decide) ?_
      refine lv_istore (lv' := [(5, .int 1), (0, .ref h0), (1, .int p0), (2, .int p1), (3, .int p2), (4, .int p3)]) hx hb dX9_office_48 hl (by decide) rfl (fun ls hl => ?_)
      refine lv_iload hx hb dX9_office_50 (lv_at hl 0 rfl) ?_
      refine lv_if_eq (tgt := 64) hx hb dX9_office_52 (by decide) (fun c_10 => absurd c_10 (by decide +kernel)) (fun c_10 => ?_)
      refine lv_aload_n hx hb dX9_office_55 rfl (lv_at hl 1 rfl) ?_
      refine lv_iload hx hb dX9_office_56 (lv_at hl 0 rfl) ?_
      refine yVwi (As := [.int 1]) (rest := []) C0 (g_X9_no l G S d_1 h0 1 hSh hPod_1 hm_h0 hk_h0 (by decide +kernel)) ok_X9_no (mW177 : Cond.methodLink RX9 168 yX9_no ∈ wsT) ⟨Nat.le_of_ble_eq_true rfl, Nat.le_of_ble_eq_true rfl⟩ hP hD hS hA hK hN hm_h0 hk_h0 (by decide) rfl rfl rfl hl.1 rfl (Nat.le_of_ble_eq_true rfl) ⟨Nat.le_of_ble_eq_true rfl, Nat.le_of_ble_eq_true rfl⟩ dX9_office_58 (fun r_11 d_12 H locs hr_11 hP hD hS => ?_)
      obtain ⟨hgad_12, hpad_12, hfad_12, hxd_12⟩ := hr_11
      have hfd_12 : yK [38] d d_12 h0 := yK.tr hfd_1 hfad_12 (by decide)
      have hE0d_12 : (d_12.1 h0 0).toInt = (d_1.1 h0 0).toInt := congrArg Int32.toInt (hfad_12 0 (by decide))
      have hE1d_12 : (d_12.1 h0 1).toInt = (d_1.1 h0 1).toInt := congrArg Int32.toInt (hfad_12 1 (by decide))
      have hE2d_12 : (d_12.1 h0 2).toInt = (d_1.1 h0 2).toInt := congrArg Int32.toInt (hfad_12 2 (by decide))
      have hE3d_12 : (d_12.1 h0 3).toInt = (d_1.1 h0 3).toInt := congrArg Int32.toInt (hfad_12 3 (by decide))
      have hE63d_12 : (d_12.1 h0 63).toInt = (d_1.1 h0 63).toInt := congrArg Int32.toInt (hfad_12 63 (by decide))
      have hId_12 : yMI S d_12 h0 := yMI.ag hId_1 hSh hm_h0 hk_h0 hgad_12 hfad_12 (by decide) (by decide)
      have hgd_12 : yAg S [9, 41, 69] d d_12 := yAg.tr hgd_1 hgad_12 (by first | decide | exact fun _ h => h)
      have hPod_12 : yPo S d_12 := hpad_12 hPod_1
      refine lv_pop hx hb dX9_office_61 rfl ?_
      refine lv_iconst (v := 0) hx hb dX9_office_62 (by decide) ?_
      have hCC_13 := yMI.c hId_12
      have F_14 := fnlt (rfl : (p1 : Int32).toInt = (p1 : Int32).toInt) (by decide +kernel : (0 : Int32).toInt = 0) c_2
      have F_15 := flt (by decide +kernel : (1440 : Int32).toInt = 1440) (rfl : (p1 : Int32).toInt = (p1 : Int32).toInt) c_9
      have F_16 := fne (by decide +kernel : (1 : Int32).toInt = 1) (by decide +kernel : (0 : Int32).toInt = 0) c_10
      exact W.zret (v := 0) (ty := .boolean) hx hb hr rfl (fun t ht hW => ⟨⟨0, d_12, rfl, ⟨hgd_12, (fun _ => hPod_12), hfd_12, ⟨hId_12, Or.inl ⟨by have h0_ : (0 : Int32).toInt = 0 := (by decide +kernel); omega, by omega, (zPf.tr (zPf.eq (hsd_1 _ (by rw [(ySh.f9_11 hSh h0 hm_h0 hk_h0).2]; decide)).2.2.2.2) (zPf.eq (hgad_12 _ (by rw [(ySh.f9_11 hSh h0 hm_h0 hk_h0).2]; decide)).2.2.2.2))⟩⟩⟩, by rw [ht]; exact hP, hD⟩, hS.F ht⟩) hS.2.2 dX9_office_63
    · refine lv_iload_n hx hb dX9_office_16 rfl (lv_at hl 3 rfl) ?_
      refine lv_if_lt (tgt := 39) hx hb dX9_office_17 (by decide) (fun c_17 => ?_) (fun c_17 => ?_)
      · refine lv_iconst (v := 1) hx hb dX9_office_39 (by decide) ?_
        refine lv_goto (tgt := 48) hx hb dX9_office_40 (by decide) ?_
        refine lv_istore (lv' := [(5, .int 1), (0, .ref h0), (1, .int p0), (2, .int p1), (3, .int p2), (4, .int p3)]) hx hb dX9_office_48 hl (by decide) rfl (fun ls hl => ?_)
        refine lv_iload hx hb dX9_office_50 (lv_at hl 0 rfl) ?_
        refine lv_if_eq (tgt := 64) hx hb dX9_office_52 (by decide) (fun c_18 => absurd c_18 (by decide +kernel)) (fun c_18 => ?_)
        refine lv_aload_n hx hb dX9_office_55 rfl (lv_at hl 1 rfl) ?_
        refine lv_iload hx hb dX9_office_56 (lv_at hl 0 rfl) ?_
        refine yVwi (As := [.int 1]) (rest := []) C0 (g_X9_no l G S d_1 h0 1 hSh hPod_1 hm_h0 hk_h0 (by decide +kernel)) ok_X9_no (mW177 : Cond.methodLink RX9 168 yX9_no ∈ wsT) ⟨Nat.le_of_ble_eq_true rfl, Nat.le_of_ble_eq_true rfl⟩ hP hD hS hA hK hN hm_h0 hk_h0 (by decide) rfl rfl rfl hl.1 rfl (Nat.le_of_ble_eq_true rfl) ⟨Nat.le_of_ble_eq_true rfl, Nat.le_of_ble_eq_true rfl⟩ dX9_office_58 (fun r_19 d_20 H locs hr_19 hP hD hS => ?_)
        obtain ⟨hgad_20, hpad_20, hfad_20, hxd_20⟩ := hr_19
        have hfd_20 : yK [38] d d_20 h0 := yK.tr hfd_1 hfad_20 (by decide)
        have hE0d_20 : (d_20.1 h0 0).toInt = (d_1.1 h0 0).toInt := congrArg Int32.toInt (hfad_20 0 (by decide))
        have hE1d_20 : (d_20.1 h0 1).toInt = (d_1.1 h0 1).toInt := congrArg Int32.toInt (hfad_20 1 (by decide))
        have hE2d_20 : (d_20.1 h0 2).toInt = (d_1.1 h0 2).toInt := congrArg Int32.toInt (hfad_20 2 (by decide))
        have hE3d_20 : (d_20.1 h0 3).toInt = (d_1.1 h0 3).toInt := congrArg Int32.toInt (hfad_20 3 (by decide))
        have hE63d_20 : (d_20.1 h0 63).toInt = (d_1.1 h0 63).toInt := congrArg Int32.toInt (hfad_20 63 (by decide))
        have hId_20 : yMI S d_20 h0 := yMI.ag hId_1 hSh hm_h0 hk_h0 hgad_20 hfad_20 (by decide) (by decide)
        have hgd_20 : yAg S [9, 41, 69] d d_20 := yAg.tr hgd_1 hgad_20 (by first | decide | exact fun _ h => h)
        have hPod_20 : yPo S d_20 := hpad_20 hPod_1
        refine lv_pop hx hb dX9_office_61 rfl ?_
        refine lv_iconst (v := 0) hx hb dX9_office_62 (by decide) ?_
        have hCC_21 := yMI.c hId_20
        have F_22 := fnlt (rfl : (p1 : Int32).toInt = (p1 : Int32).toInt) (by decide +kernel : (0 : Int32).toInt = 0) c_2
        have F_23 := fnlt (by decide +kernel : (1440 : Int32).toInt = 1440) (rfl : (p1 : Int32).toInt = (p1 : Int32).toInt) c_9
        have F_24 := flt (rfl : (p2 : Int32).toInt = (p2 : Int32).toInt) (by decide +kernel : (0 : Int32).toInt = 0) c_17
        have F_25 := fne (by decide +kernel : (1 : Int32).toInt = 1) (by decide +kernel : (0 : Int32).toInt = 0) c_18
        exact W.zret (v := 0) (ty := .boolean) hx hb hr rfl (fun t ht hW => ⟨⟨0, d_20, rfl, ⟨hgd_20, (fun _ => hPod_20), hfd_20, ⟨hId_20, Or.inl ⟨by have h0_ : (0 : Int32).toInt = 0 := (by decide +kernel); omega, by omega, (zPf.tr (zPf.eq (hsd_1 _ (by rw [(ySh.f9_11 hSh h0 hm_h0 hk_h0).2]; decide)).2.2.2.2) (zPf.eq (hgad_20 _ (by rw [(ySh.f9_11 hSh h0 hm_h0 hk_h0).2]; decide)).2.2.2.2))⟩⟩⟩, by rw [ht]; exact hP, hD⟩, hS.F ht⟩) hS.2.2 dX9_office_63
      · refine lv_iload_n hx hb dX9_office_20 rfl (lv_at hl 3 rfl) ?_
        refine lv_sipush (v := 1440) hx hb dX9_office_21 (by decide) ?_
        refine lv_icmp_gt (tgt := 39) hx hb dX9_office_24 (by decide) (fun c_26 => ?_) (fun c_26 => ?_)
        · refine lv_iconst (v := 1) hx hb dX9_office_39 (by decide) ?_
          refine lv_goto (tgt := 48) hx hb dX9_office_40 (by decide) ?_
          refine lv_istore (lv' := [(5, .int 1), (0, .ref h0), (1, .int p0), (2, .int p1), (3, .int p2), (4, .int p3)]) hx hb dX9_office_48 hl (by decide) rfl (fun ls hl => ?_)
          refine lv_iload hx hb dX9_office_50 (lv_at hl 0 rfl) ?_
          refine lv_if_eq (tgt := 64) hx hb dX9_office_52 (by decide) (fun c_27 => absurd c_27 (by decide +kernel)) (fun c_27 => ?_)
          refine lv_aload_n hx hb dX9_office_55 rfl (lv_at hl 1 rfl) ?_
          refine lv_iload hx hb dX9_office_56 (lv_at hl 0 rfl) ?_
          refine yVwi (As := [.int 1]) (rest := []) C0 (g_X9_no l G S d_1 h0 1 hSh hPod_1 hm_h0 hk_h0 (by decide +kernel)) ok_X9_no (mW177 : Cond.methodLink RX9 168 yX9_no ∈ wsT) ⟨Nat.le_of_ble_eq_true rfl, Nat.le_of_ble_eq_true rfl⟩ hP hD hS hA hK hN hm_h0 hk_h0 (by decide) rfl rfl rfl hl.1 rfl (Nat.le_of_ble_eq_true rfl) ⟨Nat.le_of_ble_eq_true rfl, Nat.le_of_ble_eq_true rfl⟩ dX9_office_58 (fun r_28 d_29 H locs hr_28 hP hD hS => ?_)
          obtain ⟨hgad_29, hpad_29, hfad_29, hxd_29⟩ := hr_28
          have hfd_29 : yK [38] d d_29 h0 := yK.tr hfd_1 hfad_29 (by decide)
          have hE0d_29 : (d_29.1 h0 0).toInt = (d_1.1 h0 0).toInt := congrArg Int32.toInt (hfad_29 0 (by decide))
          have hE1d_29 : (d_29.1 h0 1).toInt = (d_1.1 h0 1).toInt := congrArg Int32.toInt (hfad_29 1 (by decide))
          have hE2d_29 : (d_29.1 h0 2).toInt = (d_1.1 h0 2).toInt := congrArg Int32.toInt (hfad_29 2 (by decide))
          have hE3d_29 : (d_29.1 h0 3).toInt = (d_1.1 h0 3).toInt := congrArg Int32.toInt (hfad_29 3 (by decide))
          have hE63d_29 : (d_29.1 h0 63).toInt = (d_1.1 h0 63).toInt := congrArg Int32.toInt (hfad_29 63 (by decide))
          have hId_29 : yMI S d_29 h0 := yMI.ag hId_1 hSh hm_h0 hk_h0 hgad_29 hfad_29 (by decide) (by decide)
          have hgd_29 : yAg S [9, 41, 69] d d_29 := yAg.tr hgd_1 hgad_29 (by first | decide | exact fun _ h => h)
          have hPod_29 : yPo S d_29 := hpad_29 hPod_1
          refine lv_pop hx hb dX9_office_61 rfl ?_
          refine lv_iconst (v := 0) hx hb dX9_office_62 (by decide) ?_
          have hCC_30 := yMI.c hId_29
          have F_31 := fnlt (rfl : (p1 : Int32).toInt = (p1 : Int32).toInt) (by decide +kernel : (0 : Int32).toInt = 0) c_2
          have F_32 := fnlt (by decide +kernel : (1440 : Int32).toInt = 1440) (rfl : (p1 : Int32).toInt = (p1 : Int32).toInt) c_9
          have F_33 := fnlt (rfl : (p2 : Int32).toInt = (p2 : Int32).toInt) (by decide +kernel : (0 : Int32).toInt = 0) c_17
          have F_34 := flt (by decide +kernel : (1440 : Int32).toInt = 1440) (rfl : (p2 : Int32).toInt = (p2 : Int32).toInt) c_26
          have F_35 := fne (by decide +kernel : (1 : Int32).toInt = 1) (by decide +kernel : (0 : Int32).toInt = 0) c_27
          exact W.zret (v := 0) (ty := .boolean) hx hb hr rfl (fun t ht hW => ⟨⟨0, d_29, rfl, ⟨hgd_29, (fun _ => hPod_29), hfd_29, ⟨hId_29, Or.inl ⟨by have h0_ : (0 : Int32).toInt = 0 := (by decide +kernel); omega, by omega, (zPf.tr (zPf.eq (hsd_1 _ (by rw [(ySh.f9_11 hSh h0 hm_h0 hk_h0).2]; decide)).2.2.2.2) (zPf.eq (hgad_29 _ (by rw [(ySh.f9_11 hSh h0 hm_h0 hk_h0).2]; decide)).2.2.2.2))⟩⟩⟩, by rw [ht]; exact hP, hD⟩, hS.F ht⟩) hS.2.2 dX9_office_63
        · refine lv_iload hx hb dX9_office_27 (lv_at hl 4 rfl) ?_
          refine lv_if_lt (tgt := 39) hx hb dX9_office_29 (by decide) (fun c_36 => ?_) (fun c_36 => ?_)
          · refine lv_iconst (v := 1) hx hb dX9_office_39 (by decide) ?_
            refine lv_goto (tgt := 48) hx hb dX9_office_40 (by decide) ?_
            refine lv_istore (lv' := [(5, .int 1), (0, .ref h0), (1, .int p0), (2, .int p1), (3, .int p2), (4, .int p3)]) hx hb dX9_office_48 hl (by decide) rfl (fun ls hl => ?_)
            refine lv_iload hx hb dX9_office_50 (lv_at hl 0 rfl) ?_
            refine lv_if_eq (tgt := 64) hx hb dX9_office_52 (by decide) (fun c_37 => absurd c_37 (by decide +kernel)) (fun c_37 => ?_)
            refine lv_aload_n hx hb dX9_office_55 rfl (lv_at hl 1 rfl) ?_
            refine lv_iload hx hb dX9_office_56 (lv_at hl 0 rfl) ?_
            refine yVwi (As := [.int 1]) (rest := []) C0 (g_X9_no l G S d_1 h0 1 hSh hPod_1 hm_h0 hk_h0 (by decide +kernel)) ok_X9_no (mW177 : Cond.methodLink RX9 168 yX9_no ∈ wsT) ⟨Nat.le_of_ble_eq_true rfl, Nat.le_of_ble_eq_true rfl⟩ hP hD hS hA hK hN hm_h0 hk_h0 (by decide) rfl rfl rfl hl.1 rfl (Nat.le_of_ble_eq_true rfl) ⟨Nat.le_of_ble_eq_true rfl, Nat.le_of_ble_eq_true rfl⟩ dX9_office_58 (fun r_38 d_39 H locs hr_38 hP hD hS => ?_)
            obtain ⟨hgad_39, hpad_39, hfad_39, hxd_39⟩ := hr_38
            have hfd_39 : yK [38] d d_39 h0 := yK.tr hfd_1 hfad_39 (by decide)
            have hE0d_39 : (d_39.1 h0 0).toInt = (d_1.1 h0 0).toInt := congrArg Int32.toInt (hfad_39 0 (by decide))
            have hE1d_39 : (d_39.1 h0 1).toInt = (d_1.1 h0 1).toInt := congrArg Int32.toInt (hfad_39 1 (by decide))
            have hE2d_39 : (d_39.1 h0 2).toInt = (d_1.1 h0 2).toInt := congrArg Int32.toInt (hfad_39 2 (by decide))
            have hE3d_39 : (d_39.1 h0 3).toInt = (d_1.1 h0 3).toInt := congrArg Int32.toInt (hfad_39 3 (by decide))
            have hE63d_39 : (d_39.1 h0 63).toInt = (d_1.1 h0 63).toInt := congrArg Int32.toInt (hfad_39 63 (by decide))
            have hId_39 : yMI S d_39 h0 := yMI.ag hId_1 hSh hm_h0 hk_h0 hgad_39 hfad_39 (by decide) (by decide)
            have hgd_39 : yAg S [9, 41, 69] d d_39 := yAg.tr hgd_1 hgad_39 (by first | decide | exact fun _ h => h)
            have hPod_39 : yPo S d_39 := hpad_39 hPod_1
            refine lv_pop hx hb dX9_office_61 rfl ?_
            refine lv_iconst (v := 0) hx hb dX9_office_62 (by decide) ?_
            have hCC_40 := yMI.c hId_39
            have F_41 := fnlt (rfl : (p1 : Int32).toInt = (p1 : Int32).toInt) (by decide +kernel : (0 : Int32).toInt = 0) c_2
            have F_42 := fnlt (by decide +kernel : (1440 : Int32).toInt = 1440) (rfl : (p1 : Int32).toInt = (p1 : Int32).toInt) c_9
            have F_43 := fnlt (rfl : (p2 : Int32).toInt = (p2 : Int32).toInt) (by decide +kernel : (0 : Int32).toInt = 0) c_17
            have F_44 := fnlt (by decide +kernel : (1440 : Int32).toInt = 1440) (rfl : (p2 : Int32).toInt = (p2 : Int32).toInt) c_26
            have F_45 := flt (rfl : (p3 : Int32).toInt = (p3 : Int32).toInt) (by decide +kernel : (0 : Int32).toInt = 0) c_36
            have F_46 := fne (by decide +kernel : (1 : Int32).toInt = 1) (by decide +kernel : (0 : Int32).toInt = 0) c_37
            exact W.zret (v := 0) (ty := .boolean) hx hb hr rfl (fun t ht hW => ⟨⟨0, d_39, rfl, ⟨hgd_39, (fun _ => hPod_39), hfd_39, ⟨hId_39, Or.inl ⟨by have h0_ : (0 : Int32).toInt = 0 := (by decide +kernel); omega, by omega, (zPf.tr (zPf.eq (hsd_1 _ (by rw [(ySh.f9_11 hSh h0 hm_h0 hk_h0).2]; decide)).2.2.2.2) (zPf.eq (hgad_39 _ (by rw [(ySh.f9_11 hSh h0 hm_h0 hk_h0).2]; decide)).2.2.2.2))⟩⟩⟩, by rw [ht]; exact hP, hD⟩, hS.F ht⟩) hS.2.2 dX9_office_63
          · refine lv_iload hx hb dX9_office_32 (lv_at hl 4 rfl) ?_
            refine lv_ldc (v := 100000) hx hb hown (htl (.constant RX9 218 (100000)) mW529) dX9_office_34 ?_
            refine lv_icmp_le (tgt := 43) hx hb dX9_office_36 (by decide) (fun c_47 => ?_) (fun c_47 => ?_)
            · refine lv_aload_n hx hb dX9_office_43 rfl (lv_at hl 0 rfl) ?_
              refine lv_iload_n hx hb dX9_office_44 rfl (lv_at hl 1 rfl) ?_
              refine yVri (As := [.int p0]) (rest := []) C0 (g_X9_portWhy l G S d_1 h0 p0 hSh hm_h0 hk_h0) ok_X9_portWhy (mW387 : Cond.methodLink RX9 165 yX9_portWhy ∈ wsT) ⟨Nat.le_of_ble_eq_true rfl, Nat.le_of_ble_eq_true rfl⟩ hP hD hK hN hm_h0 hk_h0 (by decide) rfl rfl rfl hl.1 rfl (Nat.le_of_ble_eq_true rfl) ⟨Nat.le_of_ble_eq_true rfl, Nat.le_of_ble_eq_true rfl⟩ dX9_office_45 (fun r_48 hr_48 => ?_)
              refine lv_istore (lv' := [(5, .int r_48), (0, .ref h0), (1, .int p0), (2, .int p1), (3, .int p2), (4, .int p3)]) hx hb dX9_office_48 hl (by decide) rfl (fun ls hl => ?_)
              refine lv_iload hx hb dX9_office_50 (lv_at hl 0 rfl) ?_
              refine lv_if_eq (tgt := 64) hx hb dX9_office_52 (by decide) (fun c_49 => ?_) (fun c_49 => ?_)
              · refine lv_aload_n hx hb dX9_office_64 rfl (lv_at hl 1 rfl) ?_
                refine yget (ci := 9) (k := 11) (v := .ref (S.2.2.1 h0 11)) (C := RX9) (T := TX9) (N := 67) C0 hK hP hm_h0 hk_h0 (by decide) rfl inlX9 (by decide) mW116 (fun _ h9 => h9) rfl dX9_office_65 ?_
                obtain ⟨hmy_50, hky_50⟩ := ySh.f9_11 hSh _ hm_h0 hk_h0
                refine lv_bipush (v := 12) hx hb dX9_office_68 (by decide) ?_
                refine lv_iload_n hx hb dX9_office_70 rfl (lv_at hl 2 rfl) ?_
                refine lv_imul hx hb dX9_office_71 ?_
                refine lv_topi (fun z_51 ez_51 => ?_)
                refine lv_iconst (v := 4) hx hb dX9_office_72 (by decide) ?_
                refine lv_iadd hx hb dX9_office_73 ?_
                refine lv_topi (fun z_52 ez_52 => ?_)
                refine lv_iload_n hx hb dX9_office_74 rfl (lv_at hl 3 rfl) ?_
                refine lv_i2l hx hb dX9_office_75 rfl ?_
                refine lv_topl (fun z_53 ez_53 => ?_)
                have hCC_54 := yMI.c hId_1
                have F_55 := fnlt (rfl : (p1 : Int32).toInt = (p1 : Int32).toInt) (by decide +kernel : (0 : Int32).toInt = 0) c_2
                have F_56 := fnlt (by decide +kernel : (1440 : Int32).toInt = 1440) (rfl : (p1 : Int32).toInt = (p1 : Int32).toInt) c_9
                have F_57 := fnlt (rfl : (p2 : Int32).toInt = (p2 : Int32).toInt) (by decide +kernel : (0 : Int32).toInt = 0) c_17
                have F_58 := fnlt (by decide +kernel : (1440 : Int32).toInt = 1440) (rfl : (p2 : Int32).toInt = (p2 : Int32).toInt) c_26
                have F_59 := fnlt (rfl : (p3 : Int32).toInt = (p3 : Int32).toInt) (by decide +kernel : (0 : Int32).toInt = 0) c_36
                have F_60 := fle (rfl : (p3 : Int32).toInt = (p3 : Int32).toInt) (by decide +kernel : (100000 : Int32).toInt = 100000) c_47
                have F_61 := feq (rfl : (r_48 : Int32).toInt = (r_48 : Int32).toInt) (by decide +kernel : (0 : Int32).toInt = 0) c_49
                have T_63 : (z_51 : Int32).toInt = 12 * (p0 : Int32).toInt := tmul ez_51 (by decide +kernel : (12 : Int32).toInt = 12) (rfl : (p0 : Int32).toInt = (p0 : Int32).toInt) (by omega) (by omega)
                have T_62 : (z_52 : Int32).toInt = (z_51 : Int32).toInt + 4 := tadd ez_52 (rfl : (z_51 : Int32).toInt = (z_51 : Int32).toInt) (by decide +kernel : (4 : Int32).toInt = 4) (by omega) (by omega)
                refine yastJ C0 hK hP hD hS hmy_50 hky_50 (by decide) rfl 4 rfl (xinT 96 rfl (by omega) (by omega)) dX9_office_76 (fun H locs hP hD hS => ?_)
                obtain ⟨d_64, ed_64⟩ : ∃ z : yD, z = ye d_1 (S.2.2.1 h0 11) (z_52 : Int32).toNatClampNeg z_53 := ⟨_, rfl⟩
                rw [← ed_64] at hP hD
                have hgd_64 : yAg S [9, 41, 69] d d_64 := by rw [ed_64]; exact yAg.e hgd_1 (by rw [hky_50]; decide)
                have hsd_64 : yAg S [41] d_1 d_64 := by rw [ed_64]; exact yAg.e yAg.rf (by rw [hky_50]; decide)
                have hPod_64 : yPo S d_64 := by rw [ed_64]; exact hPod_1
                have hfd_64 : yK [38] d d_64 h0 := yK.ag hfd_1 (show yAg S [41] d_1 d_64 from by rw [ed_64]; exact yAg.e yAg.rf (by rw [hky_50]; decide)) (by rw [hk_h0]; decide)
                have T_65 : (z_53 : Int64).toInt = (p1 : Int32).toInt := by rw [ez_53, Int32.toInt_toInt64]
                have hId_64 : yMI S d_64 h0 := by rw [ed_64]; exact yMI.w11 hId_1 hSh hm_h0 hk_h0 (yBp.up (yMI.bp_ hId_1) (fun p hp e => by have e_ : (z_52 : Int32).toInt.toNat = 12 * p + 1 := e; refine ⟨?_, ?_⟩ <;> omega) (fun p hp e => by have e_ : (z_52 : Int32).toInt.toNat = 12 * p + 2 := e; refine ⟨?_, ?_⟩ <;> omega) (fun p hp e => by have e_ : (z_52 : Int32).toInt.toNat = 12 * p + 6 := e; refine ⟨?_, ?_⟩ <;> omega))
                have hE0d_64 : (d_64.1 h0 0).toInt = (d_1.1 h0 0).toInt := congrArg Int32.toInt ((yK.ag (F := []) yK.rf (show yAg S [41] d_1 d_64 from by rw [ed_64]; exact yAg.e yAg.rf (by rw [hky_50]; decide)) (by rw [hk_h0]; decide)) 0 (by decide))
                have hE1d_64 : (d_64.1 h0 1).toInt = (d_1.1 h0 1).toInt := congrArg Int32.toInt ((yK.ag (F := []) yK.rf (show yAg S [41] d_1 d_64 from by rw [ed_64]; exact yAg.e yAg.rf (by rw [hky_50]; decide)) (by rw [hk_h0]; decide)) 1 (by decide))
                have hE2d_64 : (d_64.1 h0 2).toInt = (d_1.1 h0 2).toInt := congrArg Int32.toInt ((yK.ag (F := []) yK.rf (show yAg S [41] d_1 d_64 from by rw [ed_64]; exact yAg.e yAg.rf (by rw [hky_50]; decide)) (by rw [hk_h0]; decide)) 2 (by decide))
                have hE3d_64 : (d_64.1 h0 3).toInt = (d_1.1 h0 3).toInt := congrArg Int32.toInt ((yK.ag (F := []) yK.rf (show yAg S [41] d_1 d_64 from by rw [ed_64]; exact yAg.e yAg.rf (by rw [hky_50]; decide)) (by rw [hk_h0]; decide)) 3 (by decide))
                have hE63d_64 : (d_64.1 h0 63).toInt = (d_1.1 h0 63).toInt := congrArg Int32.toInt ((yK.ag (F := []) yK.rf (show yAg S [41] d_1 d_64 from by rw [ed_64]; exact yAg.e yAg.rf (by rw [hky_50]; decide)) (by rw [hk_h0]; decide)) 63 (by decide))
                refine lv_aload_n hx hb dX9_office_77 rfl (lv_at hl 1 rfl) ?_
                refine yget (ci := 9) (k := 11) (v := .ref (S.2.2.1 h0 11)) (C := RX9) (T := TX9) (N := 67) C0 hK hP hm_h0 hk_h0 (by decide) rfl inlX9 (by decide) mW116 (fun _ h9 => h9) rfl dX9_office_78 ?_
                refine lv_bipush (v := 12) hx hb dX9_office_81 (by decide) ?_
                refine lv_iload_n hx hb dX9_office_83 rfl (lv_at hl 2 rfl) ?_
                refine lv_imul hx hb dX9_office_84 ?_
                refine lv_topi (fun z_66 ez_66 => ?_)
                refine lv_iconst (v := 5) hx hb dX9_office_85 (by decide) ?_
                refine lv_iadd hx hb dX9_office_86 ?_
                refine lv_topi (fun z_67 ez_67 => ?_)
                refine lv_iload_n hx hb dX9_office_87 rfl (lv_at hl 4 rfl) ?_
                refine lv_i2l hx hb dX9_office_88 rfl ?_
                refine lv_topl (fun z_68 ez_68 => ?_)
                have hCC_69 := yMI.c hId_64
                have T_71 : (z_66 : Int32).toInt = 12 * (p0 : Int32).toInt := tmul ez_66 (by decide +kernel : (12 : Int32).toInt = 12) (rfl : (p0 : Int32).toInt = (p0 : Int32).toInt) (by omega) (by omega)
                have T_70 : (z_67 : Int32).toInt = (z_66 : Int32).toInt + 5 := tadd ez_67 (rfl : (z_66 : Int32).toInt = (z_66 : Int32).toInt) (by decide +kernel : (5 : Int32).toInt = 5) (by omega) (by omega)
                refine yastJ C0 hK hP hD hS hmy_50 hky_50 (by decide) rfl 4 rfl (xinT 96 rfl (by omega) (by omega)) dX9_office_89 (fun H locs hP hD hS => ?_)
                obtain ⟨d_72, ed_72⟩ : ∃ z : yD, z = ye d_64 (S.2.2.1 h0 11) (z_67 : Int32).toNatClampNeg z_68 := ⟨_, rfl⟩
                rw [← ed_72] at hP hD
                have hgd_72 : yAg S [9, 41, 69] d d_72 := by rw [ed_72]; exact yAg.e hgd_64 (by rw [hky_50]; decide)
                have hsd_72 : yAg S [41] d_64 d_72 := by rw [ed_72]; exact yAg.e yAg.rf (by rw [hky_50]; decide)
                have hPod_72 : yPo S d_72 := by rw [ed_72]; exact hPod_64
                have hfd_72 : yK [38] d d_72 h0 := yK.ag hfd_64 (show yAg S [41] d_64 d_72 from by rw [ed_72]; exact yAg.e yAg.rf (by rw [hky_50]; decide)) (by rw [hk_h0]; decide)
                have T_73 : (z_68 : Int64).toInt = (p2 : Int32).toInt := by rw [ez_68, Int32.toInt_toInt64]
                have hId_72 : yMI S d_72 h0 := by rw [ed_72]; exact yMI.w11 hId_64 hSh hm_h0 hk_h0 (yBp.up (yMI.bp_ hId_64) (fun p hp e => by have e_ : (z_67 : Int32).toInt.toNat = 12 * p + 1 := e; refine ⟨?_, ?_⟩ <;> omega) (fun p hp e => by have e_ : (z_67 : Int32).toInt.toNat = 12 * p + 2 := e; refine ⟨?_, ?_⟩ <;> omega) (fun p hp e => by have e_ : (z_67 : Int32).toInt.toNat = 12 * p + 6 := e; refine ⟨?_, ?_⟩ <;> omega))
                have hE0d_72 : (d_72.1 h0 0).toInt = (d_64.1 h0 0).toInt := congrArg Int32.toInt ((yK.ag (F := []) yK.rf (show yAg S [41] d_64 d_72 from by rw [ed_72]; exact yAg.e yAg.rf (by rw [hky_50]; decide)) (by rw [hk_h0]; decide)) 0 (by decide))
                have hE1d_72 : (d_72.1 h0 1).toInt = (d_64.1 h0 1).toInt := congrArg Int32.toInt ((yK.ag (F := []) yK.rf (show yAg S [41] d_64 d_72 from by rw [ed_72]; exact yAg.e yAg.rf (by rw [hky_50]; decide)) (by rw [hk_h0]; decide)) 1 (by decide))
                have hE2d_72 : (d_72.1 h0 2).toInt = (d_64.1 h0 2).toInt := congrArg Int32.toInt ((yK.ag (F := []) yK.rf (show yAg S [41] d_64 d_72 from by rw [ed_72]; exact yAg.e yAg.rf (by rw [hky_50]; decide)) (by rw [hk_h0]; decide)) 2 (by decide))
                have hE3d_72 : (d_72.1 h0 3).toInt = (d_64.1 h0 3).toInt := congrArg Int32.toInt ((yK.ag (F := []) yK.rf (show yAg S [41] d_64 d_72 from by rw [ed_72]; exact yAg.e yAg.rf (by rw [hky_50]; decide)) (by rw [hk_h0]; decide)) 3 (by decide))
                have hE63d_72 : (d_72.1 h0 63).toInt = (d_64.1 h0 63).toInt := congrArg Int32.toInt ((yK.ag (F := []) yK.rf (show yAg S [41] d_64 d_72 from by rw [ed_72]; exact yAg.e yAg.rf (by rw [hky_50]; decide)) (by rw [hk_h0]; decide)) 63 (by decide))
                refine lv_aload_n hx hb dX9_office_90 rfl (lv_at hl 1 rfl) ?_
                refine yget (ci := 9) (k := 11) (v := .ref (S.2.2.1 h0 11)) (C := RX9) (T := TX9) (N := 67) C0 hK hP hm_h0 hk_h0 (by decide) rfl inlX9 (by decide) mW116 (fun _ h9 => h9) rfl dX9_office_91 ?_
                refine lv_bipush (v := 12) hx hb dX9_office_94 (by decide) ?_
                refine lv_iload_n hx hb dX9_office_96 rfl (lv_at hl 2 rfl) ?_
                refine lv_imul hx hb dX9_office_97 ?_
                refine lv_topi (fun z_74 ez_74 => ?_)
                refine lv_bipush (v := 6) hx hb dX9_office_98 (by decide) ?_
                refine lv_iadd hx hb dX9_office_100 ?_
                refine lv_topi (fun z_75 ez_75 => ?_)
                refine lv_iload hx hb dX9_office_101 (lv_at hl 5 rfl) ?_
                refine lv_i2l hx hb dX9_office_103 rfl ?_
                refine lv_topl (fun z_76 ez_76 => ?_)
                have hCC_77 := yMI.c hId_72
                have T_79 : (z_74 : Int32).toInt = 12 * (p0 : Int32).toInt := tmul ez_74 (by decide +kernel : (12 : Int32).toInt = 12) (rfl : (p0 : Int32).toInt = (p0 : Int32).toInt) (by omega) (by omega)
                have T_78 : (z_75 : Int32).toInt = (z_74 : Int32).toInt + 6 := tadd ez_75 (rfl : (z_74 : Int32).toInt = (z_74 : Int32).toInt) (by decide +kernel : (6 : Int32).toInt = 6) (by omega) (by omega)
                refine yastJ C0 hK hP hD hS hmy_50 hky_50 (by decide) rfl 4 rfl (xinT 96 rfl (by omega) (by omega)) dX9_office_104 (fun H locs hP hD hS => ?_)
                obtain ⟨d_80, ed_80⟩ : ∃ z : yD, z = ye d_72 (S.2.2.1 h0 11) (z_75 : Int32).toNatClampNeg z_76 := ⟨_, rfl⟩
                rw [← ed_80] at hP hD
                have hgd_80 : yAg S [9, 41, 69] d d_80 := by rw [ed_80]; exact yAg.e hgd_72 (by rw [hky_50]; decide)
                have hsd_80 : yAg S [41] d_72 d_80 := by rw [ed_80]; exact yAg.e yAg.rf (by rw [hky_50]; decide)
                have hPod_80 : yPo S d_80 := by rw [ed_80]; exact hPod_72
                have hfd_80 : yK [38] d d_80 h0 := yK.ag hfd_72 (show yAg S [41] d_72 d_80 from by rw [ed_80]; exact yAg.e yAg.rf (by rw [hky_50]; decide)) (by rw [hk_h0]; decide)
                have T_81 : (z_76 : Int64).toInt = (p3 : Int32).toInt := by rw [ez_76, Int32.toInt_toInt64]
                have hId_80 : yMI S d_80 h0 := by rw [ed_80]; exact yMI.w11 hId_72 hSh hm_h0 hk_h0 (yBp.up (yMI.bp_ hId_72) (fun p hp e => by have e_ : (z_75 : Int32).toInt.toNat = 12 * p + 1 := e; refine ⟨?_, ?_⟩ <;> omega) (fun p hp e => by have e_ : (z_75 : Int32).toInt.toNat = 12 * p + 2 := e; refine ⟨?_, ?_⟩ <;> omega) (fun p hp e => by have e_ : (z_75 : Int32).toInt.toNat = 12 * p + 6 := e; refine ⟨?_, ?_⟩ <;> omega))
                have hE0d_80 : (d_80.1 h0 0).toInt = (d_72.1 h0 0).toInt := congrArg Int32.toInt ((yK.ag (F := []) yK.rf (show yAg S [41] d_72 d_80 from by rw [ed_80]; exact yAg.e yAg.rf (by rw [hky_50]; decide)) (by rw [hk_h0]; decide)) 0 (by decide))
                have hE1d_80 : (d_80.1 h0 1).toInt = (d_72.1 h0 1).toInt := congrArg Int32.toInt ((yK.ag (F := []) yK.rf (show yAg S [41] d_72 d_80 from by rw [ed_80]; exact yAg.e yAg.rf (by rw [hky_50]; decide)) (by rw [hk_h0]; decide)) 1 (by decide))
                have hE2d_80 : (d_80.1 h0 2).toInt = (d_72.1 h0 2).toInt := congrArg Int32.toInt ((yK.ag (F := []) yK.rf (show yAg S [41] d_72 d_80 from by rw [ed_80]; exact yAg.e yAg.rf (by rw [hky_50]; decide)) (by rw [hk_h0]; decide)) 2 (by decide))
                have hE3d_80 : (d_80.1 h0 3).toInt = (d_72.1 h0 3).toInt := congrArg Int32.toInt ((yK.ag (F := []) yK.rf (show yAg S [41] d_72 d_80 from by rw [ed_80]; exact yAg.e yAg.rf (by rw [hky_50]; decide)) (by rw [hk_h0]; decide)) 3 (by decide))
                have hE63d_80 : (d_80.1 h0 63).toInt = (d_72.1 h0 63).toInt := congrArg Int32.toInt ((yK.ag (F := []) yK.rf (show yAg S [41] d_72 d_80 from by rw [ed_80]; exact yAg.e yAg.rf (by rw [hky_50]; decide)) (by rw [hk_h0]; decide)) 63 (by decide))
                refine lv_iconst (v := 1) hx hb dX9_office_105 (by decide) ?_
                have hrf_82 : d_1.2.2.2.2 (S.2.2.1 h0 11) = d.2.2.2.2 (S.2.2.1 h0 11) := (hsd_1 _ (by rw [(ySh.f9_11 hSh h0 hm_h0 hk_h0).2]; decide)).2.2.2.2
                have hrf_82a : yOI S d_1 h0 (p0 : Int32).toInt.toNat = yOI S d h0 (p0 : Int32).toInt.toNat := by unfold yOI; rw [hrf_82]
                have hrf_82b : yOf S d_1 h0 (p0 : Int32).toInt.toNat 2 = yOf S d h0 (p0 : Int32).toInt.toNat 2 := by unfold yOf; rw [hrf_82]
                have hCC_83 := yMI.c hId_80
                exact W.zret (v := 1) (ty := .boolean) hx hb hr rfl (fun t ht hW => ⟨⟨1, d_80, rfl, ⟨hgd_80, (fun _ => hPod_80), hfd_80, ⟨hId_80, Or.inr ⟨by have h0_ : (1 : Int32).toInt = 1 := (by decide +kernel); omega, by omega, (zPf.tr (zPf.tr (zPf.tr (zPf.eq (hsd_1 _ (by rw [(ySh.f9_11 hSh h0 hm_h0 hk_h0).2]; decide)).2.2.2.2) (zPf.up ed_64 (fun q => by have e_ : (z_52 : Int32).toInt.toNat = (z_52 : Int32).toNatClampNeg := rfl; omega))) (zPf.up ed_72 (fun q => by have e_ : (z_67 : Int32).toInt.toNat = (z_67 : Int32).toNatClampNeg := rfl; omega))) (zPf.up ed_80 (fun q => by have e_ : (z_75 : Int32).toInt.toNat = (z_75 : Int32).toNatClampNeg := rfl; omega)))⟩⟩⟩, by rw [ht]; exact hP, hD⟩, hS.F ht⟩) hS.2.2 dX9_office_106
              · refine lv_aload_n hx hb dX9_office_55 rfl (lv_at hl 1 rfl) ?_
                refine lv_iload hx hb dX9_office_56 (lv_at hl 0 rfl) ?_
                have F_84 := fnlt (rfl : (p1 : Int32).toInt = (p1 : Int32).toInt) (by decide +kernel : (0 : Int32).toInt = 0) c_2
                have F_85 := fnlt (by decide +kernel : (1440 : Int32).toInt = 1440) (rfl : (p1 : Int32).toInt = (p1 : Int32).toInt) c_9
                have F_86 := fnlt (rfl : (p2 : Int32).toInt = (p2 : Int32).toInt) (by decide +kernel : (0 : Int32).toInt = 0) c_17
                have F_87 := fnlt (by decide +kernel : (1440 : Int32).toInt = 1440) (rfl : (p2 : Int32).toInt = (p2 : Int32).toInt) c_26
                have F_88 := fnlt (rfl : (p3 : Int32).toInt = (p3 : Int32).toInt) (by decide +kernel : (0 : Int32).toInt = 0) c_36
                have F_89 := fle (rfl : (p3 : Int32).toInt = (p3 : Int32).toInt) (by decide +kernel : (100000 : Int32).toInt = 100000) c_47
                have F_90 := fne (rfl : (r_48 : Int32).toInt = (r_48 : Int32).toInt) (by decide +kernel : (0 : Int32).toInt = 0) c_49
                refine yVwi (As := [.int r_48]) (rest := []) C0 (g_X9_no l G S d_1 h0 r_48 hSh hPod_1 hm_h0 hk_h0 (by refine ⟨?_, ?_⟩ <;> omega)) ok_X9_no (mW177 : Cond.methodLink RX9 168 yX9_no ∈ wsT) ⟨Nat.le_of_ble_eq_true rfl, Nat.le_of_ble_eq_true rfl⟩ hP hD hS hA hK hN hm_h0 hk_h0 (by decide) rfl rfl rfl hl.1 rfl (Nat.le_of_ble_eq_true rfl) ⟨Nat.le_of_ble_eq_true rfl, Nat.le_of_ble_eq_true rfl⟩ dX9_office_58 (fun r_91 d_92 H locs hr_91 hP hD hS => ?_)
                obtain ⟨hgad_92, hpad_92, hfad_92, hxd_92⟩ := hr_91
                have hfd_92 : yK [38] d d_92 h0 := yK.tr hfd_1 hfad_92 (by decide)
                have hE0d_92 : (d_92.1 h0 0).toInt = (d_1.1 h0 0).toInt := congrArg Int32.toInt (hfad_92 0 (by decide))
                have hE1d_92 : (d_92.1 h0 1).toInt = (d_1.1 h0 1).toInt := congrArg Int32.toInt (hfad_92 1 (by decide))
                have hE2d_92 : (d_92.1 h0 2).toInt = (d_1.1 h0 2).toInt := congrArg Int32.toInt (hfad_92 2 (by decide))
                have hE3d_92 : (d_92.1 h0 3).toInt = (d_1.1 h0 3).toInt := congrArg Int32.toInt (hfad_92 3 (by decide))
                have hE63d_92 : (d_92.1 h0 63).toInt = (d_1.1 h0 63).toInt := congrArg Int32.toInt (hfad_92 63 (by decide))
                have hId_92 : yMI S d_92 h0 := yMI.ag hId_1 hSh hm_h0 hk_h0 hgad_92 hfad_92 (by decide) (by decide)
                have hgd_92 : yAg S [9, 41, 69] d d_92 := yAg.tr hgd_1 hgad_92 (by first | decide | exact fun _ h => h)
                have hPod_92 : yPo S d_92 := hpad_92 hPod_1
                refine lv_pop hx hb dX9_office_61 rfl ?_
                refine lv_iconst (v := 0) hx hb dX9_office_62 (by decide) ?_
                have hrf_93 : d_1.2.2.2.2 (S.2.2.1 h0 11) = d.2.2.2.2 (S.2.2.1 h0 11) := (hsd_1 _ (by rw [(ySh.f9_11 hSh h0 hm_h0 hk_h0).2]; decide)).2.2.2.2
                have hrf_93a : yOI S d_1 h0 (p0 : Int32).toInt.toNat = yOI S d h0 (p0 : Int32).toInt.toNat := by unfold yOI; rw [hrf_93]
                have hrf_93b : yOf S d_1 h0 (p0 : Int32).toInt.toNat 2 = yOf S d h0 (p0 : Int32).toInt.toNat 2 := by unfold yOf; rw [hrf_93]
                have hCC_94 := yMI.c hId_92
                exact W.zret (v := 0) (ty := .boolean) hx hb hr rfl (fun t ht hW => ⟨⟨0, d_92, rfl, ⟨hgd_92, (fun _ => hPod_92), hfd_92, ⟨hId_92, Or.inl ⟨by have h0_ : (0 : Int32).toInt = 0 := (by decide +kernel); omega, by omega, (zPf.tr (zPf.eq (hsd_1 _ (by rw [(ySh.f9_11 hSh h0 hm_h0 hk_h0).2]; decide)).2.2.2.2) (zPf.eq (hgad_92 _ (by rw [(ySh.f9_11 hSh h0 hm_h0 hk_h0).2]; decide)).2.2.2.2))⟩⟩⟩, by rw [ht]; exact hP, hD⟩, hS.F ht⟩) hS.2.2 dX9_office_63
            · refine lv_iconst (v := 1) hx hb dX9_office_39 (by decide) ?_
              refine lv_goto (tgt := 48) hx hb dX9_office_40 (by decide) ?_
              refine lv_istore (lv' := [(5, .int 1), (0, .ref h0), (1, .int p0), (2, .int p1), (3, .int p2), (4, .int p3)]) hx hb dX9_office_48 hl (by decide) rfl (fun ls hl => ?_)
              refine lv_iload hx hb dX9_office_50 (lv_at hl 0 rfl) ?_
              refine lv_if_eq (tgt := 64) hx hb dX9_office_52 (by decide) (fun c_95 => absurd c_95 (by decide +kernel)) (fun c_95 => ?_)
              refine lv_aload_n hx hb dX9_office_55 rfl (lv_at hl 1 rfl) ?_
              refine lv_iload hx hb dX9_office_56 (lv_at hl 0 rfl) ?_
              refine yVwi (As := [.int 1]) (rest := []) C0 (g_X9_no l G S d_1 h0 1 hSh hPod_1 hm_h0 hk_h0 (by decide +kernel)) ok_X9_no (mW177 : Cond.methodLink RX9 168 yX9_no ∈ wsT) ⟨Nat.le_of_ble_eq_true rfl, Nat.le_of_ble_eq_true rfl⟩ hP hD hS hA hK hN hm_h0 hk_h0 (by decide) rfl rfl rfl hl.1 rfl (Nat.le_of_ble_eq_true rfl) ⟨Nat.le_of_ble_eq_true rfl, Nat.le_of_ble_eq_true rfl⟩ dX9_office_58 (fun r_96 d_97 H locs hr_96 hP hD hS => ?_)
              obtain ⟨hgad_97, hpad_97, hfad_97, hxd_97⟩ := hr_96
              have hfd_97 : yK [38] d d_97 h0 := yK.tr hfd_1 hfad_97 (by decide)
              have hE0d_97 : (d_97.1 h0 0).toInt = (d_1.1 h0 0).toInt := congrArg Int32.toInt (hfad_97 0 (by decide))
              have hE1d_97 : (d_97.1 h0 1).toInt = (d_1.1 h0 1).toInt := congrArg Int32.toInt (hfad_97 1 (by decide))
              have hE2d_97 : (d_97.1 h0 2).toInt = (d_1.1 h0 2).toInt := congrArg Int32.toInt (hfad_97 2 (by decide))
              have hE3d_97 : (d_97.1 h0 3).toInt = (d_1.1 h0 3).toInt := congrArg Int32.toInt (hfad_97 3 (by decide))
              have hE63d_97 : (d_97.1 h0 63).toInt = (d_1.1 h0 63).toInt := congrArg Int32.toInt (hfad_97 63 (by decide))
              have hId_97 : yMI S d_97 h0 := yMI.ag hId_1 hSh hm_h0 hk_h0 hgad_97 hfad_97 (by decide) (by decide)
              have hgd_97 : yAg S [9, 41, 69] d d_97 := yAg.tr hgd_1 hgad_97 (by first | decide | exact fun _ h => h)
              have hPod_97 : yPo S d_97 := hpad_97 hPod_1
              refine lv_pop hx hb dX9_office_61 rfl ?_
              refine lv_iconst (v := 0) hx hb dX9_office_62 (by decide) ?_
              have hCC_98 := yMI.c hId_97
              have F_99 := fnlt (rfl : (p1 : Int32).toInt = (p1 : Int32).toInt) (by decide +kernel : (0 : Int32).toInt = 0) c_2
              have F_100 := fnlt (by decide +kernel : (1440 : Int32).toInt = 1440) (rfl : (p1 : Int32).toInt = (p1 : Int32).toInt) c_9
              have F_101 := fnlt (rfl : (p2 : Int32).toInt = (p2 : Int32).toInt) (by decide +kernel : (0 : Int32).toInt = 0) c_17
              have F_102 := fnlt (by decide +kernel : (1440 : Int32).toInt = 1440) (rfl : (p2 : Int32).toInt = (p2 : Int32).toInt) c_26
              have F_103 := fnlt (rfl : (p3 : Int32).toInt = (p3 : Int32).toInt) (by decide +kernel : (0 : Int32).toInt = 0) c_36
              have F_104 := fnle (rfl : (p3 : Int32).toInt = (p3 : Int32).toInt) (by decide +kernel : (100000 : Int32).toInt = 100000) c_47
              have F_105 := fne (by decide +kernel : (1 : Int32).toInt = 1) (by decide +kernel : (0 : Int32).toInt = 0) c_95
              exact W.zret (v := 0) (ty := .boolean) hx hb hr rfl (fun t ht hW => ⟨⟨0, d_97, rfl, ⟨hgd_97, (fun _ => hPod_97), hfd_97, ⟨hId_97, Or.inl ⟨by have h0_ : (0 : Int32).toInt = 0 := (by decide +kernel); omega, by omega, (zPf.tr (zPf.eq (hsd_1 _ (by rw [(ySh.f9_11 hSh h0 hm_h0 hk_h0).2]; decide)).2.2.2.2) (zPf.eq (hgad_97 _ (by rw [(ySh.f9_11 hSh h0 hm_h0 hk_h0).2]; decide)).2.2.2.2))⟩⟩⟩, by rw [ht]; exact hP, hD⟩, hS.F ht⟩) hS.2.2 dX9_office_63
theorem dX9_rate_0 : decode cX9_rate 0 = .ok (.aload_n 0, 1) := by decide +kernel
theorem dX9_rate_1 : decode cX9_rate 1 = .ok (.iconst 0, 1) := by decide +kernel
theorem dX9_rate_2 : decode cX9_rate 2 = .ok (.putfield 147, 3) := by decide +kernel
theorem dX9_rate_5 : decode cX9_rate 5 = .ok (.lload_n 2, 1) := by decide +kernel
theorem dX9_rate_6 : decode cX9_rate 6 = .ok (.lconst 0, 1) := by decide +kernel
theorem dX9_rate_7 : decode cX9_rate 7 = .ok (.lcmp, 1) := by decide +kernel
theorem dX9_rate_8 : decode cX9_rate 8 = .ok (.ifCond .lt 27, 3) := by decide +kernel
theorem dX9_rate_11 : decode cX9_rate 11 = .ok (.lload_n 2, 1) := by decide +kernel
theorem dX9_rate_12 : decode cX9_rate 12 = .ok (.ldc2_w 221, 3) := by decide +kernel
theorem dX9_rate_15 : decode cX9_rate 15 = .ok (.lcmp, 1) := by decide +kernel
theorem dX9_rate_16 : decode cX9_rate 16 = .ok (.ifCond .gt 19, 3) := by decide +kernel
theorem dX9_rate_19 : decode cX9_rate 19 = .ok (.lload 4, 2) := by decide +kernel
theorem dX9_rate_21 : decode cX9_rate 21 = .ok (.lconst 0, 1) := by decide +kernel
theorem dX9_rate_22 : decode cX9_rate 22 = .ok (.lcmp, 1) := by decide +kernel
theorem dX9_rate_23 : decode cX9_rate 23 = .ok (.ifCond .lt 12, 3) := by decide +kernel
theorem dX9_rate_26 : decode cX9_rate 26 = .ok (.lload 4, 2) := by decide +kernel
theorem dX9_rate_28 : decode cX9_rate 28 = .ok (.ldc2_w 221, 3) := by decide +kernel
theorem dX9_rate_31 : decode cX9_rate 31 = .ok (.lcmp, 1) := by decide +kernel
theorem dX9_rate_32 : decode cX9_rate 32 = .ok (.ifCond .le 7, 3) := by decide +kernel
theorem dX9_rate_35 : decode cX9_rate 35 = .ok (.iconst 1, 1) := by decide +kernel
theorem dX9_rate_36 : decode cX9_rate 36 = .ok (.goto 8, 3) := by decide +kernel
theorem dX9_rate_39 : decode cX9_rate 39 = .ok (.aload_n 0, 1) := by decide +kernel
theorem dX9_rate_40 : decode cX9_rate 40 = .ok (.iload_n 1, 1) := by decide +kernel
theorem dX9_rate_41 : decode cX9_rate 41 = .ok (.invokevirtual 165, 3) := by decide +kernel
theorem dX9_rate_44 : decode cX9_rate 44 = .ok (.istore 6, 2) := by decide +kernel
theorem dX9_rate_46 : decode cX9_rate 46 = .ok (.iload 6, 2) := by decide +kernel
theorem dX9_rate_48 : decode cX9_rate 48 = .ok (.ifCond .eq 12, 3) := by decide +kernel
theorem dX9_rate_51 : decode cX9_rate 51 = .ok (.aload_n 0, 1) := by decide +kernel
theorem dX9_rate_52 : decode cX9_rate 52 = .ok (.iload 6, 2) := by decide +kernel
theorem dX9_rate_54 : decode cX9_rate 54 = .ok (.invokevirtual 168, 3) := by decide +kernel
theorem dX9_rate_57 : decode cX9_rate 57 = .ok (.pop, 1) := by decide +kernel
theorem dX9_rate_58 : decode cX9_rate 58 = .ok (.iconst 0, 1) := by decide +kernel
theorem dX9_rate_59 : decode cX9_rate 59 = .ok (.ireturn, 1) := by decide +kernel
theorem dX9_rate_60 : decode cX9_rate 60 = .ok (.aload_n 0, 1) := by decide +kernel
theorem dX9_rate_61 : decode cX9_rate 61 = .ok (.getfield 36, 3) := by decide +kernel
theorem dX9_rate_64 : decode cX9_rate 64 = .ok (.bipush 12, 2) := by decide +kernel
theorem dX9_rate_66 : decode cX9_rate 66 = .ok (.iload_n 1, 1) := by decide +kernel
theorem dX9_rate_67 : decode cX9_rate 67 = .ok (.imul, 1) := by decide +kernel
theorem dX9_rate_68 : decode cX9_rate 68 = .ok (.bipush 8, 2) := by decide +kernel
theorem dX9_rate_70 : decode cX9_rate 70 = .ok (.iadd, 1) := by decide +kernel
theorem dX9_rate_71 : decode cX9_rate 71 = .ok (.lload_n 2, 1) := by decide +kernel
theorem dX9_rate_72 : decode cX9_rate 72 = .ok (.lastore, 1) := by decide +kernel
theorem dX9_rate_73 : decode cX9_rate 73 = .ok (.aload_n 0, 1) := by decide +kernel
theorem dX9_rate_74 : decode cX9_rate 74 = .ok (.getfield 36, 3) := by decide +kernel
theorem dX9_rate_77 : decode cX9_rate 77 = .ok (.bipush 12, 2) := by decide +kernel
theorem dX9_rate_79 : decode cX9_rate 79 = .ok (.iload_n 1, 1) := by decide +kernel
theorem dX9_rate_80 : decode cX9_rate 80 = .ok (.imul, 1) := by decide +kernel
theorem dX9_rate_81 : decode cX9_rate 81 = .ok (.bipush 9, 2) := by decide +kernel
theorem dX9_rate_83 : decode cX9_rate 83 = .ok (.iadd, 1) := by decide +kernel
theorem dX9_rate_84 : decode cX9_rate 84 = .ok (.lload 4, 2) := by decide +kernel
theorem dX9_rate_86 : decode cX9_rate 86 = .ok (.lastore, 1) := by decide +kernel
theorem dX9_rate_87 : decode cX9_rate 87 = .ok (.iconst 1, 1) := by decide +kernel
theorem dX9_rate_88 : decode cX9_rate 88 = .ok (.ireturn, 1) := by decide +kernel
set_option maxHeartbeats 4000000 in
set_option maxRecDepth 100000 in
theorem g_X9_rate (l : Launch) (G : xG) (S : yS) (d : yD) (h0 : Nat) (p0 : Int32) (p1 : Int64) (p2 : Int64) (hSh : ySh S) (hPo : yPo S d) (hm_h0 : h0 ∈ S.1) (hk_h0 : S.2.1 h0 = 9) (hI : yMI S d h0) : xWi l G yX9_rate cX9_rate 7 (some .boolean) 2 42 0 0 [.ref h0, .int p0, .long p1, .long p2] (yW G S d) (fun r (u : yD) => yAg S [9, 41, 69] d u ∧ (yPo S d → yPo S u) ∧ yK [38] d u h0 ∧ (yMI S u h0 ∧ ((r.toInt = 0 ∧ ¬ (0 ≤ p0.toInt ∧ p0.toInt ≤ 7 ∧ yOI S d h0 p0.toInt.toNat = 1 ∧ 0 ≤ p1.toInt ∧ p1.toInt ≤ 1000000000 ∧ 0 ≤ p2.toInt ∧ p2.toInt ≤ 1000000000) ∧ zPf S d u h0 (fun _ => False)) ∨ (r.toInt = 1 ∧ (0 ≤ p0.toInt ∧ p0.toInt ≤ 7 ∧ yOI S d h0 p0.toInt.toNat = 1 ∧ 0 ≤ p1.toInt ∧ p1.toInt ≤ 1000000000 ∧ 0 ≤ p2.toInt ∧ p2.toInt ≤ 1000000000) ∧ zPf S d u h0 (fun _ => False))))) (fun u => yW G S u) := by
  intro sz
  refine xstart (by decide) (Nat.le_of_ble_eq_true rfl) (fun p e s m args below meth c ls C0 hr hlocks hin hsz hP hK hD hN hl => ?_)
  obtain ⟨hx, hb, hml, hown, htl⟩ := id C0
  subst hsz
  have hD := hD.self (sz := s.heap.size)
  generalize hAe : va_A (yW G S d) s.heap.size = A at hD ⊢
  have hA : ∀ q : Nat, s.heap.size ≤ q → A q := fun q h => by rw [← hAe]; exact Or.inr h
  have hS : va_S A s.heap s.heap [] := va_S.rf
  have hg0 : yAg S [9, 41, 69] d d := yAg.rf
  have hl : lv_has ls 7 [(0, .ref h0), (1, .int p0), (2, .long p1), (4, .long p2)] := hl
  refine lv_aload_n hx hb dX9_rate_0 rfl (lv_at hl 0 rfl) ?_
  refine lv_iconst (v := 0) hx hb dX9_rate_1 (by decide) ?_
  refine yputI (ci := 9) (k := 38) (ty := .int) (C := RX9) (T := TX9) (N := 67) C0 hK hP hD hS hm_h0 hk_h0 (by decide) rfl inlX9 tyX9 tyX9_ok nmX9 (by decide) mW175 (fun _ h9 => h9) rfl (by decide +kernel) rfl rfl (Nat.le_of_ble_eq_true rfl) ysi_9_38 dX9_rate_2 (fun H locs hP hD hS => ?_)
  obtain ⟨d_1, ed_1⟩ : ∃ z : yD, z = yi d h0 38 0 := ⟨_, rfl⟩
  rw [← ed_1] at hP hD
  have hgd_1 : yAg S [9, 41, 69] d d_1 := by rw [ed_1]; exact yAg.i hg0 (by rw [hk_h0]; decide)
  have hsd_1 : yAg S [9] d d_1 := by rw [ed_1]; exact yAg.i yAg.rf (by rw [hk_h0]; decide)
  have hPod_1 : yPo S d_1 := by rw [ed_1]; exact yPo.i hPo hk_h0 (Or.inl rfl)
  have hfd_1 : yK [38] d d_1 h0 := by rw [ed_1]; exact yK.i yK.rf (by decide)
  have hId_1 : yMI S d_1 h0 := yMI.ag hI hSh hm_h0 hk_h0 (show yAg S [9] d d_1 from by rw [ed_1]; exact yAg.i yAg.rf (by rw [hk_h0]; decide)) (show yK [38] d d_1 h0 from by rw [ed_1]; exact yK.i yK.rf (by decide)) (by decide) (by decide)
  have hE0d_1 : (d_1.1 h0 0).toInt = (d.1 h0 0).toInt := congrArg Int32.toInt ((show yK [38] d d_1 h0 from by rw [ed_1]; exact yK.i yK.rf (by decide)) 0 (by decide))
  have hE1d_1 : (d_1.1 h0 1).toInt = (d.1 h0 1).toInt := congrArg Int32.toInt ((show yK [38] d d_1 h0 from by rw [ed_1]; exact yK.i yK.rf (by decide)) 1 (by decide))
  have hE2d_1 : (d_1.1 h0 2).toInt = (d.1 h0 2).toInt := congrArg Int32.toInt ((show yK [38] d d_1 h0 from by rw [ed_1]; exact yK.i yK.rf (by decide)) 2 (by decide))
  have hE3d_1 : (d_1.1 h0 3).toInt = (d.1 h0 3).toInt := congrArg Int32.toInt ((show yK [38] d d_1 h0 from by rw [ed_1]; exact yK.i yK.rf (by decide)) 3 (by decide))
  have hE63d_1 : (d_1.1 h0 63).toInt = (d.1 h0 63).toInt := congrArg Int32.toInt ((show yK [38] d d_1 h0 from by rw [ed_1]; exact yK.i yK.rf (by decide)) 63 (by decide))
  refine lv_lload_n hx hb dX9_rate_5 rfl (lv_at hl 2 rfl) ?_
  refine lv_lconst (v := 0) hx hb dX9_rate_6 (by decide) ?_
  refine W.lcmp hx hb dX9_rate_7 ?_
  refine lv_topi (fun z_2 ez_2 => ?_)
  refine lv_if_lt (tgt := 35) hx hb dX9_rate_8 (by decide) (fun c_3 => ?_) (fun c_3 => ?_)
  · refine lv_iconst (v := 1) hx hb dX9_rate_35 (by decide) ?_
    refine lv_goto (tgt := 44) hx hb dX9_rate_36 (by decide) ?_
    refine lv_istore (lv' := [(6, .int 1), (0, .ref h0), (1, .int p0), (2, .long p1), (4, .long p2)]) hx hb dX9_rate_44 hl (by decide) rfl (fun ls hl => ?_)
    refine lv_iload hx hb dX9_rate_46 (lv_at hl 0 rfl) ?_
    refine lv_if_eq (tgt := 60) hx hb dX9_rate_48 (by decide) (fun c_4 => absurd c_4 (by decide +kernel)) (fun c_4 => ?_)
    refine lv_aload_n hx hb dX9_rate_51 rfl (lv_at hl 1 rfl) ?_
    refine lv_iload hx hb dX9_rate_52 (lv_at hl 0 rfl) ?_
    refine yVwi (As := [.int 1]) (rest := []) C0 (g_X9_no l G S d_1 h0 1 hSh hPod_1 hm_h0 hk_h0 (by decide +kernel)) ok_X9_no (mW177 : Cond.methodLink RX9 168 yX9_no ∈ wsT) ⟨Nat.le_of_ble_eq_true rfl, Nat.le_of_ble_eq_true rfl⟩ hP hD hS hA hK hN hm_h0 hk_h0 (by decide) rfl rfl rfl hl.1 rfl (Nat.le_of_ble_eq_true rfl) ⟨Nat.le_of_ble_eq_true rfl, Nat.le_of_ble_eq_true rfl⟩ dX9_rate_54 (fun r_5 d_6 H locs hr_5 hP hD hS => ?_)
    obtain ⟨hgad_6, hpad_6, hfad_6, hxd_6⟩ := hr_5
    have hfd_6 : yK [38] d d_6 h0 := yK.tr hfd_1 hfad_6 (by decide)
    have hE0d_6 : (d_6.1 h0 0).toInt = (d_1.1 h0 0).toInt := congrArg Int32.toInt (hfad_6 0 (by decide))
    have hE1d_6 : (d_6.1 h0 1).toInt = (d_1.1 h0 1).toInt := congrArg Int32.toInt (hfad_6 1 (by decide))
    have hE2d_6 : (d_6.1 h0 2).toInt = (d_1.1 h0 2).toInt := congrArg Int32.toInt (hfad_6 2 (by decide))
    have hE3d_6 : (d_6.1 h0 3).toInt = (d_1.1 h0 3).toInt := congrArg Int32.toInt (hfad_6 3 (by decide))
    have hE63d_6 : (d_6.1 h0 63).toInt = (d_1.1 h0 63).toInt := congrArg Int32.toInt (hfad_6 63 (by decide))
    have hId_6 : yMI S d_6 h0 := yMI.ag hId_1 hSh hm_h0 hk_h0 hgad_6 hfad_6 (by decide) (by decide)
    have hgd_6 : yAg S [9, 41, 69] d d_6 := yAg.tr hgd_1 hgad_6 (by first | decide | exact fun _ h => h)
    have hPod_6 : yPo S d_6 := hpad_6 hPod_1
    refine lv_pop hx hb dX9_rate_57 rfl ?_
    refine lv_iconst (v := 0) hx hb dX9_rate_58 (by decide) ?_
    have hCC_7 := yMI.c hId_6
    have F_8 := fne (by decide +kernel : (1 : Int32).toInt = 1) (by decide +kernel : (0 : Int32).toInt = 0) c_4
    have T_9 : (0 : Int64).toInt = 0 := by decide +kernel
    have F_10 := jlt ez_2 c_3
    exact W.zret (v := 0) (ty := .boolean) hx hb hr rfl (fun t ht hW => ⟨⟨0, d_6, rfl, ⟨hgd_6, (fun _ => hPod_6), hfd_6, ⟨hId_6, Or.inl ⟨by have h0_ : (0 : Int32).toInt = 0 := (by decide +kernel); omega, by omega, (zPf.tr (zPf.eq (hsd_1 _ (by rw [(ySh.f9_11 hSh h0 hm_h0 hk_h0).2]; decide)).2.2.2.2) (zPf.eq (hgad_6 _ (by rw [(ySh.f9_11 hSh h0 hm_h0 hk_h0).2]; decide)).2.2.2.2))⟩⟩⟩, by rw [ht]; exact hP, hD⟩, hS.F ht⟩) hS.2.2 dX9_rate_59
  · refine lv_lload_n hx hb dX9_rate_11 rfl (lv_at hl 2 rfl) ?_
    refine lv_ldc2 (v := 1000000000) hx hb hown (htl (.constantLong RX9 221 (1000000000)) mW551) dX9_rate_12 ?_
    refine W.lcmp hx hb dX9_rate_15 ?_
    refine lv_topi (fun z_11 ez_11 => ?_)
    refine lv_if_gt (tgt := 35) hx hb dX9_rate_16 (by decide) (fun c_12 => ?_) (fun c_12 => ?_)
    · refine lv_iconst (v := 1) hx hb dX9_rate_35 (by decide) ?_
      refine lv_goto (tgt := 44) hx hb dX9_rate_36 (by decide) ?_
      refine lv_istore (lv' := [(6, .int 1), (0, .ref h0), (1, .int p0), (2, .long p1), (4, .long p2)]) hx hb dX9_rate_44 hl (by decide) rfl (fun ls hl => ?_)
      refine lv_iload hx hb dX9_rate_46 (lv_at hl 0 rfl) ?_
      refine lv_if_eq (tgt := 60) hx hb dX9_rate_48 (by decide) (fun c_13 => absurd c_13 (by decide +kernel)) (fun c_13 => ?_)
      refine lv_aload_n hx hb dX9_rate_51 rfl (lv_at hl 1 rfl) ?_
      refine lv_iload hx hb dX9_rate_52 (lv_at hl 0 rfl) ?_
      refine yVwi (As := [.int 1]) (rest := []) C0 (g_X9_no l G S d_1 h0 1 hSh hPod_1 hm_h0 hk_h0 (by decide +kernel)) ok_X9_no (mW177 : Cond.methodLink RX9 168 yX9_no ∈ wsT) ⟨Nat.le_of_ble_eq_true rfl, Nat.le_of_ble_eq_true rfl⟩ hP hD hS hA hK hN hm_h0 hk_h0 (by decide) rfl rfl rfl hl.1 rfl (Nat.le_of_ble_eq_true rfl) ⟨Nat.le_of_ble_eq_true rfl, Nat.le_of_ble_eq_true rfl⟩ dX9_rate_54 (fun r_14 d_15 H locs hr_14 hP hD hS => ?_)
      obtain ⟨hgad_15, hpad_15, hfad_15, hxd_15⟩ := hr_14
      have hfd_15 : yK [38] d d_15 h0 := yK.tr hfd_1 hfad_15 (by decide)
      have hE0d_15 : (d_15.1 h0 0).toInt = (d_1.1 h0 0).toInt := congrArg Int32.toInt (hfad_15 0 (by decide))
      have hE1d_15 : (d_15.1 h0 1).toInt = (d_1.1 h0 1).toInt := congrArg Int32.toInt (hfad_15 1 (by decide))
      have hE2d_15 : (d_15.1 h0 2).toInt = (d_1.1 h0 2).toInt := congrArg Int32.toInt (hfad_15 2 (by decide))
      have hE3d_15 : (d_15.1 h0 3).toInt = (d_1.1 h0 3).toInt := congrArg Int32.toInt (hfad_15 3 (by decide))
      have hE63d_15 : (d_15.1 h0 63).toInt = (d_1.1 h0 63).toInt := congrArg Int32.toInt (hfad_15 63 (by decide))
      have hId_15 : yMI S d_15 h0 := yMI.ag hId_1 hSh hm_h0 hk_h0 hgad_15 hfad_15 (by decide) (by decide)
      have hgd_15 : yAg S [9, 41, 69] d d_15 := yAg.tr hgd_1 hgad_15 (by first | decide | exact fun _ h => h)
      have hPod_15 : yPo S d_15 := hpad_15 hPod_1
      refine lv_pop hx hb dX9_rate_57 rfl ?_
      refine lv_iconst (v := 0) hx hb dX9_rate_58 (by decide) ?_
      have hCC_16 := yMI.c hId_15
      have F_17 := fne (by decide +kernel : (1 : Int32).toInt = 1) (by decide +kernel : (0 : Int32).toInt = 0) c_13
      have T_18 : (0 : Int64).toInt = 0 := by decide +kernel
      have F_19 := jnlt ez_2 c_3
      have T_20 : (1000000000 : Int64).toInt = 1000000000 := by decide +kernel
      have F_21 := jgt ez_11 c_12
      exact W.zret (v := 0) (ty := .boolean) hx hb hr rfl (fun t ht hW => ⟨⟨0, d_15, rfl, ⟨hgd_15, (fun _ => hPod_15), hfd_15, ⟨hId_15, Or.inl ⟨by have h0_ : (0 : Int32).toInt = 0 := (by decide +kernel); omega, by omega, (zPf.tr (zPf.eq (hsd_1 _ (by rw [(ySh.f9_11 hSh h0 hm_h0 hk_h0).2]; decide)).2.2.2.2) (zPf.eq (hgad_15 _ (by rw [(ySh.f9_11 hSh h0 hm_h0 hk_h0).2]; decide)).2.2.2.2))⟩⟩⟩, by rw [ht]; exact hP, hD⟩, hS.F ht⟩) hS.2.2 dX9_rate_59
    · refine lv_lload hx hb dX9_rate_19 (lv_at hl 3 rfl) ?_
      refine lv_lconst (v := 0) hx hb dX9_rate_21 (by decide) ?_
      refine W.lcmp hx hb dX9_rate_22 ?_
      refine lv_topi (fun z_22 ez_22 => ?_)
      refine lv_if_lt (tgt := 35) hx hb dX9_rate_23 (by decide) (fun c_23 => ?_) (fun c_23 => ?_)
      · refine lv_iconst (v := 1) hx hb dX9_rate_35 (by decide) ?_
        refine lv_goto (tgt := 44) hx hb dX9_rate_36 (by decide) ?_
        refine lv_istore (lv' := [(6, .int 1), (0, .ref h0), (1, .int p0), (2, .long p1), (4, .long p2)]) hx hb dX9_rate_44 hl (by decide) rfl (fun ls hl => ?_)
        refine lv_iload hx hb dX9_rate_46 (lv_at hl 0 rfl) ?_
        refine lv_if_eq (tgt := 60) hx hb dX9_rate_48 (by decide) (fun c_24 => absurd c_24 (by decide +kernel)) (fun c_24 => ?_)
        refine lv_aload_n hx hb dX9_rate_51 rfl (lv_at hl 1 rfl) ?_
        refine lv_iload hx hb dX9_rate_52 (lv_at hl 0 rfl) ?_
        refine yVwi (As := [.int 1]) (rest := []) C0 (g_X9_no l G S d_1 h0 1 hSh hPod_1 hm_h0 hk_h0 (by decide +kernel)) ok_X9_no (mW177 : Cond.methodLink RX9 168 yX9_no ∈ wsT) ⟨Nat.le_of_ble_eq_true rfl, Nat.le_of_ble_eq_true rfl⟩ hP hD hS hA hK hN hm_h0 hk_h0 (by decide) rfl rfl rfl hl.1 rfl (Nat.le_of_ble_eq_true rfl) ⟨Nat.le_of_ble_eq_true rfl, Nat.le_of_ble_eq_true rfl⟩ dX9_rate_54 (fun r_25 d_26 H locs hr_25 hP hD hS => ?_)
        obtain ⟨hgad_26, hpad_26, hfad_26, hxd_26⟩ := hr_25
        have hfd_26 : yK [38] d d_26 h0 := yK.tr hfd_1 hfad_26 (by decide)
        have hE0d_26 : (d_26.1 h0 0).toInt = (d_1.1 h0 0).toInt := congrArg Int32.toInt (hfad_26 0 (by decide))
        have hE1d_26 : (d_26.1 h0 1).toInt = (d_1.1 h0 1).toInt := congrArg Int32.toInt (hfad_26 1 (by decide))
        have hE2d_26 : (d_26.1 h0 2).toInt = (d_1.1 h0 2).toInt := congrArg Int32.toInt (hfad_26 2 (by decide))
        have hE3d_26 : (d_26.1 h0 3).toInt = (d_1.1 h0 3).toInt := congrArg Int32.toInt (hfad_26 3 (by decide))
        have hE63d_26 : (d_26.1 h0 63).toInt = (d_1.1 h0 63).toInt := congrArg Int32.toInt (hfad_26 63 (by decide))
        have hId_26 : yMI S d_26 h0 := yMI.ag hId_1 hSh hm_h0 hk_h0 hgad_26 hfad_26 (by decide) (by decide)
        have hgd_26 : yAg S [9, 41, 69] d d_26 := yAg.tr hgd_1 hgad_26 (by first | decide | exact fun _ h => h)
        have hPod_26 : yPo S d_26 := hpad_26 hPod_1
        refine lv_pop hx hb dX9_rate_57 rfl ?_
        refine lv_iconst (v := 0) hx hb dX9_rate_58 (by decide) ?_
        have hCC_27 := yMI.c hId_26
        have F_28 := fne (by decide +kernel : (1 : Int32).toInt = 1) (by decide +kernel : (0 : Int32).toInt = 0) c_24
        have T_29 : (0 : Int64).toInt = 0 := by decide +kernel
        have F_30 := jnlt ez_2 c_3
        have T_31 : (1000000000 : Int64).toInt = 1000000000 := by decide +kernel
        have F_32 := jngt ez_11 c_12
        have F_34 := jlt ez_22 c_23
        exact W.zret (v := 0) (ty := .boolean) hx hb hr rfl (fun t ht hW => ⟨⟨0, d_26, rfl, ⟨hgd_26, (fun _ => hPod_26), hfd_26, ⟨hId_26, Or.inl ⟨by have h0_ : (0 : Int32).toInt = 0 := (by decide +kernel); omega, by omega, (zPf.tr (zPf.eq (hsd_1 _ (by rw [(ySh.f9_11 hSh h0 hm_h0 hk_h0).2]; decide)).2.2.2.2) (zPf.eq (hgad_26 _ (by rw [(ySh.f9_11 hSh h0 hm_h0 hk_h0).2]; decide)).2.2.2.2))⟩⟩⟩, by rw [ht]; exact hP, hD⟩, hS.F ht⟩) hS.2.2 dX9_rate_59
      · refine lv_lload hx hb dX9_rate_26 (lv_at hl 3 rfl) ?_
        refine lv_ldc2 (v := 1000000000) hx hb hown (htl (.constantLong RX9 221 (1000000000)) mW551) dX9_rate_28 ?_
        refine W.lcmp hx hb dX9_rate_31 ?_
        refine lv_topi (fun z_35 ez_35 => ?_)
        refine lv_if_le (tgt := 39) hx hb dX9_rate_32 (by decide) (fun c_36 => ?_) (fun c_36 => ?_)
        · refine lv_aload_n hx hb dX9_rate_39 rfl (lv_at hl 0 rfl) ?_
          refine lv_iload_n hx hb dX9_rate_40 rfl (lv_at hl 1 rfl) ?_
          refine yVri (As := [.int p0]) (rest := []) C0 (g_X9_portWhy l G S d_1 h0 p0 hSh hm_h0 hk_h0) ok_X9_portWhy (mW387 : Cond.methodLink RX9 165 yX9_portWhy ∈ wsT) ⟨Nat.le_of_ble_eq_true rfl, Nat.le_of_ble_eq_true rfl⟩ hP hD hK hN hm_h0 hk_h0 (by decide) rfl rfl rfl hl.1 rfl (Nat.le_of_ble_eq_true rfl) ⟨Nat.le_of_ble_eq_true rfl, Nat.le_of_ble_eq_true rfl⟩ dX9_rate_41 (fun r_37 hr_37 => ?_)
          refine lv_istore (lv' := [(6, .int r_37), (0, .ref h0), (1, .int p0), (2, .long p1), (4, .long p2)]) hx hb dX9_rate_44 hl (by decide) rfl (fun ls hl => ?_)
          refine lv_iload hx hb dX9_rate_46 (lv_at hl 0 rfl) ?_
          refine lv_if_eq (tgt := 60) hx hb dX9_rate_48 (by decide) (fun c_38 => ?_) (fun c_38 => ?_)
          · refine lv_aload_n hx hb dX9_rate_60 rfl (lv_at hl 1 rfl) ?_
            refine yget (ci := 9) (k := 11) (v := .ref (S.2.2.1 h0 11)) (C := RX9) (T := TX9) (N := 67) C0 hK hP hm_h0 hk_h0 (by decide) rfl inlX9 (by decide) mW116 (fun _ h9 => h9) rfl dX9_rate_61 ?_
            obtain ⟨hmy_39, hky_39⟩ := ySh.f9_11 hSh _ hm_h0 hk_h0
            refine lv_bipush (v := 12) hx hb dX9_rate_64 (by decide) ?_
            refine lv_iload_n hx hb dX9_rate_66 rfl (lv_at hl 2 rfl) ?_
            refine lv_imul hx hb dX9_rate_67 ?_
            refine lv_topi (fun z_40 ez_40 => ?_)
            refine lv_bipush (v := 8) hx hb dX9_rate_68 (by decide) ?_
            refine lv_iadd hx hb dX9_rate_70 ?_
            refine lv_topi (fun z_41 ez_41 => ?_)
            refine lv_lload_n hx hb dX9_rate_71 rfl (lv_at hl 3 rfl) ?_
            have hCC_42 := yMI.c hId_1
            have F_43 := feq (rfl : (r_37 : Int32).toInt = (r_37 : Int32).toInt) (by decide +kernel : (0 : Int32).toInt = 0) c_38
            have T_45 : (z_40 : Int32).toInt = 12 * (p0 : Int32).toInt := tmul ez_40 (by decide +kernel : (12 : Int32).toInt = 12) (rfl : (p0 : Int32).toInt = (p0 : Int32).toInt) (by omega) (by omega)
            have T_44 : (z_41 : Int32).toInt = (z_40 : Int32).toInt + 8 := tadd ez_41 (rfl : (z_40 : Int32).toInt = (z_40 : Int32).toInt) (by decide +kernel : (8 : Int32).toInt = 8) (by omega) (by omega)
            refine yastJ C0 hK hP hD hS hmy_39 hky_39 (by decide) rfl 4 rfl (xinT 96 rfl (by omega) (by omega)) dX9_rate_72 (fun H locs hP hD hS => ?_)
            obtain ⟨d_46, ed_46⟩ : ∃ z : yD, z = ye d_1 (S.2.2.1 h0 11) (z_41 : Int32).toNatClampNeg p1 := ⟨_, rfl⟩
            rw [← ed_46] at hP hD
            have hgd_46 : yAg S [9, 41, 69] d d_46 := by rw [ed_46]; exact yAg.e hgd_1 (by rw [hky_39]; decide)
            have hsd_46 : yAg S [41] d_1 d_46 := by rw [ed_46]; exact yAg.e yAg.rf (by rw [hky_39]; decide)
            have hPod_46 : yPo S d_46 := by rw [ed_46]; exact hPod_1
            have hfd_46 : yK [38] d d_46 h0 := yK.ag hfd_1 (show yAg S [41] d_1 d_46 from by rw [ed_46]; exact yAg.e yAg.rf (by rw [hky_39]; decide)) (by rw [hk_h0]; decide)
            have hId_46 : yMI S d_46 h0 := by rw [ed_46]; exact yMI.w11 hId_1 hSh hm_h0 hk_h0 (yBp.up (yMI.bp_ hId_1) (fun p hp e => by have e_ : (z_41 : Int32).toInt.toNat = 12 * p + 1 := e; refine ⟨?_, ?_⟩ <;> omega) (fun p hp e => by have e_ : (z_41 : Int32).toInt.toNat = 12 * p + 2 := e; refine ⟨?_, ?_⟩ <;> omega) (fun p hp e => by have e_ : (z_41 : Int32).toInt.toNat = 12 * p + 6 := e; refine ⟨?_, ?_⟩ <;> omega))
            have hE0d_46 : (d_46.1 h0 0).toInt = (d_1.1 h0 0).toInt := congrArg Int32.toInt ((yK.ag (F := []) yK.rf (show yAg S [41] d_1 d_46 from by rw [ed_46]; exact yAg.e yAg.rf (by rw [hky_39]; decide)) (by rw [hk_h0]; decide)) 0 (by decide))
            have hE1d_46 : (d_46.1 h0 1).toInt = (d_1.1 h0 1).toInt := congrArg Int32.toInt ((yK.ag (F := []) yK.rf (show yAg S [41] d_1 d_46 from by rw [ed_46]; exact yAg.e yAg.rf (by rw [hky_39]; decide)) (by rw [hk_h0]; decide)) 1 (by decide))
            have hE2d_46 : (d_46.1 h0 2).toInt = (d_1.1 h0 2).toInt := congrArg Int32.toInt ((yK.ag (F := []) yK.rf (show yAg S [41] d_1 d_46 from by rw [ed_46]; exact yAg.e yAg.rf (by rw [hky_39]; decide)) (by rw [hk_h0]; decide)) 2 (by decide))
            have hE3d_46 : (d_46.1 h0 3).toInt = (d_1.1 h0 3).toInt := congrArg Int32.toInt ((yK.ag (F := []) yK.rf (show yAg S [41] d_1 d_46 from by rw [ed_46]; exact yAg.e yAg.rf (by rw [hky_39]; decide)) (by rw [hk_h0]; decide)) 3 (by decide))
            have hE63d_46 : (d_46.1 h0 63).toInt = (d_1.1 h0 63).toInt := congrArg Int32.toInt ((yK.ag (F := []) yK.rf (show yAg S [41] d_1 d_46 from by rw [ed_46]; exact yAg.e yAg.rf (by rw [hky_39]; decide)) (by rw [hk_h0]; decide)) 63 (by decide))
            refine lv_aload_n hx hb dX9_rate_73 rfl (lv_at hl 1 rfl) ?_
            refine yget (ci := 9) (k := 11) (v := .ref (S.2.2.1 h0 11)) (C := RX9) (T := TX9) (N := 67) C0 hK hP hm_h0 hk_h0 (by decide) rfl inlX9 (by decide) mW116 (fun _ h9 => h9) rfl dX9_rate_74 ?_
            refine lv_bipush (v := 12) hx hb dX9_rate_77 (by decide) ?_
            refine lv_iload_n hx hb dX9_rate_79 rfl (lv_at hl 2 rfl) ?_
            refine lv_imul hx hb dX9_rate_80 ?_
            refine lv_topi (fun z_47 ez_47 => ?_)
            refine lv_bipush (v := 9) hx hb dX9_rate_81 (by decide) ?_
            refine lv_iadd hx hb dX9_rate_83 ?_
            refine lv_topi (fun z_48 ez_48 => ?_)
            refine lv_lload hx hb dX9_rate_84 (lv_at hl 4 rfl) ?_
            have hCC_49 := yMI.c hId_46
            have T_51 : (z_47 : Int32).toInt = 12 * (p0 : Int32).toInt := tmul ez_47 (by decide +kernel : (12 : Int32).toInt = 12) (rfl : (p0 : Int32).toInt = (p0 : Int32).toInt) (by omega) (by omega)
            have T_50 : (z_48 : Int32).toInt = (z_47 : Int32).toInt + 9 := tadd ez_48 (rfl : (z_47 : Int32).toInt = (z_47 : Int32).toInt) (by decide +kernel : (9 : Int32).toInt = 9) (by omega) (by omega)
            refine yastJ C0 hK hP hD hS hmy_39 hky_39 (by decide) rfl 4 rfl (xinT 96 rfl (by omega) (by omega)) dX9_rate_86 (fun H locs hP hD hS => ?_)
            obtain ⟨d_52, ed_52⟩ : ∃ z : yD, z = ye d_46 (S.2.2.1 h0 11) (z_48 : Int32).toNatClampNeg p2 := ⟨_, rfl⟩
            rw [← ed_52] at hP hD
            have hgd_52 : yAg S [9, 41, 69] d d_52 := by rw [ed_52]; exact yAg.e hgd_46 (by rw [hky_39]; decide)
            have hsd_52 : yAg S [41] d_46 d_52 := by rw [ed_52]; exact yAg.e yAg.rf (by rw [hky_39]; decide)
            have hPod_52 : yPo S d_52 := by rw [ed_52]; exact hPod_46
            have hfd_52 : yK [38] d d_52 h0 := yK.ag hfd_46 (show yAg S [41] d_46 d_52 from by rw [ed_52]; exact yAg.e yAg.rf (by rw [hky_39]; decide)) (by rw [hk_h0]; decide)
            have hId_52 : yMI S d_52 h0 := by rw [ed_52]; exact yMI.w11 hId_46 hSh hm_h0 hk_h0 (yBp.up (yMI.bp_ hId_46) (fun p hp e => by have e_ : (z_48 : Int32).toInt.toNat = 12 * p + 1 := e; refine ⟨?_, ?_⟩ <;> omega) (fun p hp e => by have e_ : (z_48 : Int32).toInt.toNat = 12 * p + 2 := e; refine ⟨?_, ?_⟩ <;> omega) (fun p hp e => by have e_ : (z_48 : Int32).toInt.toNat = 12 * p + 6 := e; refine ⟨?_, ?_⟩ <;> omega))
            have hE0d_52 : (d_52.1 h0 0).toInt = (d_46.1 h0 0).toInt := congrArg Int32.toInt ((yK.ag (F := []) yK.rf (show yAg S [41] d_46 d_52 from by rw [ed_52]; exact yAg.e yAg.rf (by rw [hky_39]; decide)) (by rw [hk_h0]; decide)) 0 (by decide))
            have hE1d_52 : (d_52.1 h0 1).toInt = (d_46.1 h0 1).toInt := congrArg Int32.toInt ((yK.ag (F := []) yK.rf (show yAg S [41] d_46 d_52 from by rw [ed_52]; exact yAg.e yAg.rf (by rw [hky_39]; decide)) (by rw [hk_h0]; decide)) 1 (by decide))
            have hE2d_52 : (d_52.1 h0 2).toInt = (d_46.1 h0 2).toInt := congrArg Int32.toInt ((yK.ag (F := []) yK.rf (show yAg S [41] d_46 d_52 from by rw [ed_52]; exact yAg.e yAg.rf (by rw [hky_39]; decide)) (by rw [hk_h0]; decide)) 2 (by decide))
            have hE3d_52 : (d_52.1 h0 3).toInt = (d_46.1 h0 3).toInt := congrArg Int32.toInt ((yK.ag (F := []) yK.rf (show yAg S [41] d_46 d_52 from by rw [ed_52]; exact yAg.e yAg.rf (by rw [hky_39]; decide)) (by rw [hk_h0]; decide)) 3 (by decide))
            have hE63d_52 : (d_52.1 h0 63).toInt = (d_46.1 h0 63).toInt := congrArg Int32.toInt ((yK.ag (F := []) yK.rf (show yAg S [41] d_46 d_52 from by rw [ed_52]; exact yAg.e yAg.rf (by rw [hky_39]; decide)) (by rw [hk_h0]; decide)) 63 (by decide))
            refine lv_iconst (v := 1) hx hb dX9_rate_87 (by decide) ?_
            have hrf_53 : d_1.2.2.2.2 (S.2.2.1 h0 11) = d.2.2.2.2 (S.2.2.1 h0 11) := (hsd_1 _ (by rw [(ySh.f9_11 hSh h0 hm_h0 hk_h0).2]; decide)).2.2.2.2
            have hrf_53a : yOI S d_1 h0 (p0 : Int32).toInt.toNat = yOI S d h0 (p0 : Int32).toInt.toNat := by unfold yOI; rw [hrf_53]
            have hrf_53b : yOf S d_1 h0 (p0 : Int32).toInt.toNat 2 = yOf S d h0 (p0 : Int32).toInt.toNat 2 := by unfold yOf; rw [hrf_53]
            have hCC_54 := yMI.c hId_52
            have T_55 : (0 : Int64).toInt = 0 := by decide +kernel
            have F_56 := jnlt ez_2 c_3
            have T_57 : (1000000000 : Int64).toInt = 1000000000 := by decide +kernel
            have F_58 := jngt ez_11 c_12
            have F_60 := jnlt ez_22 c_23
            have F_62 := jle ez_35 c_36
            exact W.zret (v := 1) (ty := .boolean) hx hb hr rfl (fun t ht hW => ⟨⟨1, d_52, rfl, ⟨hgd_52, (fun _ => hPod_52), hfd_52, ⟨hId_52, Or.inr ⟨by have h0_ : (1 : Int32).toInt = 1 := (by decide +kernel); omega, by omega, (zPf.tr (zPf.tr (zPf.eq (hsd_1 _ (by rw [(ySh.f9_11 hSh h0 hm_h0 hk_h0).2]; decide)).2.2.2.2) (zPf.up ed_46 (fun q => by have e_ : (z_41 : Int32).toInt.toNat = (z_41 : Int32).toNatClampNeg := rfl; omega))) (zPf.up ed_52 (fun q => by have e_ : (z_48 : Int32).toInt.toNat = (z_48 : Int32).toNatClampNeg := rfl; omega)))⟩⟩⟩, by rw [ht]; exact hP, hD⟩, hS.F ht⟩) hS.2.2 dX9_rate_88
          · refine lv_aload_n hx hb dX9_rate_51 rfl (lv_at hl 1 rfl) ?_
            refine lv_iload hx hb dX9_rate_52 (lv_at hl 0 rfl) ?_
            have F_63 := fne (rfl : (r_37 : Int32).toInt = (r_37 : Int32).toInt) (by decide +kernel : (0 : Int32).toInt = 0) c_38
            refine yVwi (As := [.int r_37]) (rest := []) C0 (g_X9_no l G S d_1 h0 r_37 hSh hPod_1 hm_h0 hk_h0 (by refine ⟨?_, ?_⟩ <;> omega)) ok_X9_no (mW177 : Cond.methodLink RX9 168 yX9_no ∈ wsT) ⟨Nat.le_of_ble_eq_true rfl, Nat.le_of_ble_eq_true rfl⟩ hP hD hS hA hK hN hm_h0 hk_h0 (by decide) rfl rfl rfl hl.1 rfl (Nat.le_of_ble_eq_true rfl) ⟨Nat.le_of_ble_eq_true rfl, Nat.le_of_ble_eq_true rfl⟩ dX9_rate_54 (fun r_64 d_65 H locs hr_64 hP hD hS => ?_)
            obtain ⟨hgad_65, hpad_65, hfad_65, hxd_65⟩ := hr_64
            have hfd_65 : yK [38] d d_65 h0 := yK.tr hfd_1 hfad_65 (by decide)
            have hE0d_65 : (d_65.1 h0 0).toInt = (d_1.1 h0 0).toInt := congrArg Int32.toInt (hfad_65 0 (by decide))
            have hE1d_65 : (d_65.1 h0 1).toInt = (d_1.1 h0 1).toInt := congrArg Int32.toInt (hfad_65 1 (by decide))
            have hE2d_65 : (d_65.1 h0 2).toInt = (d_1.1 h0 2).toInt := congrArg Int32.toInt (hfad_65 2 (by decide))
            have hE3d_65 : (d_65.1 h0 3).toInt = (d_1.1 h0 3).toInt := congrArg Int32.toInt (hfad_65 3 (by decide))
            have hE63d_65 : (d_65.1 h0 63).toInt = (d_1.1 h0 63).toInt := congrArg Int32.toInt (hfad_65 63 (by decide))
            have hId_65 : yMI S d_65 h0 := yMI.ag hId_1 hSh hm_h0 hk_h0 hgad_65 hfad_65 (by decide) (by decide)
            have hgd_65 : yAg S [9, 41, 69] d d_65 := yAg.tr hgd_1 hgad_65 (by first | decide | exact fun _ h => h)
            have hPod_65 : yPo S d_65 := hpad_65 hPod_1
            refine lv_pop hx hb dX9_rate_57 rfl ?_
            refine lv_iconst (v := 0) hx hb dX9_rate_58 (by decide) ?_
            have hrf_66 : d_1.2.2.2.2 (S.2.2.1 h0 11) = d.2.2.2.2 (S.2.2.1 h0 11) := (hsd_1 _ (by rw [(ySh.f9_11 hSh h0 hm_h0 hk_h0).2]; decide)).2.2.2.2
            have hrf_66a : yOI S d_1 h0 (p0 : Int32).toInt.toNat = yOI S d h0 (p0 : Int32).toInt.toNat := by unfold yOI; rw [hrf_66]
            have hrf_66b : yOf S d_1 h0 (p0 : Int32).toInt.toNat 2 = yOf S d h0 (p0 : Int32).toInt.toNat 2 := by unfold yOf; rw [hrf_66]
            have hCC_67 := yMI.c hId_65
            have T_68 : (0 : Int64).toInt = 0 := by decide +kernel
            have F_69 := jnlt ez_2 c_3
            have T_70 : (1000000000 : Int64).toInt = 1000000000 := by decide +kernel
            have F_71 := jngt ez_11 c_12
            have F_73 := jnlt ez_22 c_23
            have F_75 := jle ez_35 c_36
            exact W.zret (v := 0) (ty := .boolean) hx hb hr rfl (fun t ht hW => ⟨⟨0, d_65, rfl, ⟨hgd_65, (fun _ => hPod_65), hfd_65, ⟨hId_65, Or.inl ⟨by have h0_ : (0 : Int32).toInt = 0 := (by decide +kernel); omega, by omega, (zPf.tr (zPf.eq (hsd_1 _ (by rw [(ySh.f9_11 hSh h0 hm_h0 hk_h0).2]; decide)).2.2.2.2) (zPf.eq (hgad_65 _ (by rw [(ySh.f9_11 hSh h0 hm_h0 hk_h0).2]; decide)).2.2.2.2))⟩⟩⟩, by rw [ht]; exact hP, hD⟩, hS.F ht⟩) hS.2.2 dX9_rate_59
        · refine lv_iconst (v := 1) hx hb dX9_rate_35 (by decide) ?_
          refine lv_goto (tgt := 44) hx hb dX9_rate_36 (by decide) ?_
          refine lv_istore (lv' := [(6, .int 1), (0, .ref h0), (1, .int p0), (2, .long p1), (4, .long p2)]) hx hb dX9_rate_44 hl (by decide) rfl (fun ls hl => ?_)
          refine lv_iload hx hb dX9_rate_46 (lv_at hl 0 rfl) ?_
          refine lv_if_eq (tgt := 60) hx hb dX9_rate_48 (by decide) (fun c_76 => absurd c_76 (by decide +kernel)) (fun c_76 => ?_)
          refine lv_aload_n hx hb dX9_rate_51 rfl (lv_at hl 1 rfl) ?_
          refine lv_iload hx hb dX9_rate_52 (lv_at hl 0 rfl) ?_
          refine yVwi (As := [.int 1]) (rest := []) C0 (g_X9_no l G S d_1 h0 1 hSh hPod_1 hm_h0 hk_h0 (by decide +kernel)) ok_X9_no (mW177 : Cond.methodLink RX9 168 yX9_no ∈ wsT) ⟨Nat.le_of_ble_eq_true rfl, Nat.le_of_ble_eq_true rfl⟩ hP hD hS hA hK hN hm_h0 hk_h0 (by decide) rfl rfl rfl hl.1 rfl (Nat.le_of_ble_eq_true rfl) ⟨Nat.le_of_ble_eq_true rfl, Nat.le_of_ble_eq_true rfl⟩ dX9_rate_54 (fun r_77 d_78 H locs hr_77 hP hD hS => ?_)
          obtain ⟨hgad_78, hpad_78, hfad_78, hxd_78⟩ := hr_77
          have hfd_78 : yK [38] d d_78 h0 := yK.tr hfd_1 hfad_78 (by decide)
          have hE0d_78 : (d_78.1 h0 0).toInt = (d_1.1 h0 0).toInt := congrArg Int32.toInt (hfad_78 0 (by decide))
          have hE1d_78 : (d_78.1 h0 1).toInt = (d_1.1 h0 1).toInt := congrArg Int32.toInt (hfad_78 1 (by decide))
          have hE2d_78 : (d_78.1 h0 2).toInt = (d_1.1 h0 2).toInt := congrArg Int32.toInt (hfad_78 2 (by decide))
          have hE3d_78 : (d_78.1 h0 3).toInt = (d_1.1 h0 3).toInt := congrArg Int32.toInt (hfad_78 3 (by decide))
          have hE63d_78 : (d_78.1 h0 63).toInt = (d_1.1 h0 63).toInt := congrArg Int32.toInt (hfad_78 63 (by decide))
          have hId_78 : yMI S d_78 h0 := yMI.ag hId_1 hSh hm_h0 hk_h0 hgad_78 hfad_78 (by decide) (by decide)
          have hgd_78 : yAg S [9, 41, 69] d d_78 := yAg.tr hgd_1 hgad_78 (by first | decide | exact fun _ h => h)
          have hPod_78 : yPo S d_78 := hpad_78 hPod_1
          refine lv_pop hx hb dX9_rate_57 rfl ?_
          refine lv_iconst (v := 0) hx hb dX9_rate_58 (by decide) ?_
          have hCC_79 := yMI.c hId_78
          have F_80 := fne (by decide +kernel : (1 : Int32).toInt = 1) (by decide +kernel : (0 : Int32).toInt = 0) c_76
          have T_81 : (0 : Int64).toInt = 0 := by decide +kernel
          have F_82 := jnlt ez_2 c_3
          have T_83 : (1000000000 : Int64).toInt = 1000000000 := by decide +kernel
          have F_84 := jngt ez_11 c_12
          have F_86 := jnlt ez_22 c_23
          have F_88 := jnle ez_35 c_36
          exact W.zret (v := 0) (ty := .boolean) hx hb hr rfl (fun t ht hW => ⟨⟨0, d_78, rfl, ⟨hgd_78, (fun _ => hPod_78), hfd_78, ⟨hId_78, Or.inl ⟨by have h0_ : (0 : Int32).toInt = 0 := (by decide +kernel); omega, by omega, (zPf.tr (zPf.eq (hsd_1 _ (by rw [(ySh.f9_11 hSh h0 hm_h0 hk_h0).2]; decide)).2.2.2.2) (zPf.eq (hgad_78 _ (by rw [(ySh.f9_11 hSh h0 hm_h0 hk_h0).2]; decide)).2.2.2.2))⟩⟩⟩, by rw [ht]; exact hP, hD⟩, hS.F ht⟩) hS.2.2 dX9_rate_59
theorem dX9_weight_0 : decode cX9_weight 0 = .ok (.aload_n 0, 1) := by decide +kernel
theorem dX9_weight_1 : decode cX9_weight 1 = .ok (.iconst 0, 1) := by decide +kernel
theorem dX9_weight_2 : decode cX9_weight 2 = .ok (.putfield 147, 3) := by decide +kernel
theorem dX9_weight_5 : decode cX9_weight 5 = .ok (.iload_n 2, 1) := by decide +kernel
theorem dX9_weight_6 : decode cX9_weight 6 = .ok (.ifCond .lt 8, 3) := by decide +kernel
theorem dX9_weight_9 : decode cX9_weight 9 = .ok (.iload_n 2, 1) := by decide +kernel
theorem dX9_weight_10 : decode cX9_weight 10 = .ok (.iconst 1, 1) := by decide +kernel
theorem dX9_weight_11 : decode cX9_weight 11 = .ok (.if_icmp .le 7, 3) := by decide +kernel
theorem dX9_weight_14 : decode cX9_weight 14 = .ok (.iconst 1, 1) := by decide +kernel
theorem dX9_weight_15 : decode cX9_weight 15 = .ok (.goto 8, 3) := by decide +kernel
theorem dX9_weight_18 : decode cX9_weight 18 = .ok (.aload_n 0, 1) := by decide +kernel
theorem dX9_weight_19 : decode cX9_weight 19 = .ok (.iload_n 1, 1) := by decide +kernel
theorem dX9_weight_20 : decode cX9_weight 20 = .ok (.invokevirtual 165, 3) := by decide +kernel
theorem dX9_weight_23 : decode cX9_weight 23 = .ok (.istore_n 3, 1) := by decide +kernel
theorem dX9_weight_24 : decode cX9_weight 24 = .ok (.iload_n 3, 1) := by decide +kernel
theorem dX9_weight_25 : decode cX9_weight 25 = .ok (.ifCond .eq 10, 3) := by decide +kernel
theorem dX9_weight_28 : decode cX9_weight 28 = .ok (.aload_n 0, 1) := by decide +kernel
theorem dX9_weight_29 : decode cX9_weight 29 = .ok (.iload_n 3, 1) := by decide +kernel
theorem dX9_weight_30 : decode cX9_weight 30 = .ok (.invokevirtual 168, 3) := by decide +kernel
theorem dX9_weight_33 : decode cX9_weight 33 = .ok (.i2l, 1) := by decide +kernel
theorem dX9_weight_34 : decode cX9_weight 34 = .ok (.lreturn, 1) := by decide +kernel
theorem dX9_weight_35 : decode cX9_weight 35 = .ok (.iload_n 2, 1) := by decide +kernel
theorem dX9_weight_36 : decode cX9_weight 36 = .ok (.ifCond .ne 21, 3) := by decide +kernel
theorem dX9_weight_39 : decode cX9_weight 39 = .ok (.aload_n 0, 1) := by decide +kernel
theorem dX9_weight_40 : decode cX9_weight 40 = .ok (.getfield 36, 3) := by decide +kernel
theorem dX9_weight_43 : decode cX9_weight 43 = .ok (.bipush 12, 2) := by decide +kernel
theorem dX9_weight_45 : decode cX9_weight 45 = .ok (.iload_n 1, 1) := by decide +kernel
theorem dX9_weight_46 : decode cX9_weight 46 = .ok (.imul, 1) := by decide +kernel
theorem dX9_weight_47 : decode cX9_weight 47 = .ok (.iconst 3, 1) := by decide +kernel
theorem dX9_weight_48 : decode cX9_weight 48 = .ok (.iadd, 1) := by decide +kernel
theorem dX9_weight_49 : decode cX9_weight 49 = .ok (.laload, 1) := by decide +kernel
theorem dX9_weight_50 : decode cX9_weight 50 = .ok (.ldc2_w 338, 3) := by decide +kernel
theorem dX9_weight_53 : decode cX9_weight 53 = .ok (.ldiv, 1) := by decide +kernel
theorem dX9_weight_54 : decode cX9_weight 54 = .ok (.goto 18, 3) := by decide +kernel
theorem dX9_weight_57 : decode cX9_weight 57 = .ok (.aload_n 0, 1) := by decide +kernel
theorem dX9_weight_58 : decode cX9_weight 58 = .ok (.getfield 36, 3) := by decide +kernel
theorem dX9_weight_61 : decode cX9_weight 61 = .ok (.bipush 12, 2) := by decide +kernel
theorem dX9_weight_63 : decode cX9_weight 63 = .ok (.iload_n 1, 1) := by decide +kernel
theorem dX9_weight_64 : decode cX9_weight 64 = .ok (.imul, 1) := by decide +kernel
theorem dX9_weight_65 : decode cX9_weight 65 = .ok (.iconst 3, 1) := by decide +kernel
theorem dX9_weight_66 : decode cX9_weight 66 = .ok (.iadd, 1) := by decide +kernel
theorem dX9_weight_67 : decode cX9_weight 67 = .ok (.laload, 1) := by decide +kernel
theorem dX9_weight_68 : decode cX9_weight 68 = .ok (.ldc2_w 338, 3) := by decide +kernel
theorem dX9_weight_71 : decode cX9_weight 71 = .ok (.lrem, 1) := by decide +kernel
theorem dX9_weight_72 : decode cX9_weight 72 = .ok (.lreturn, 1) := by decide +kernel
set_option maxHeartbeats 4000000 in
set_option maxRecDepth 100000 in
theorem g_X9_weight (l : Launch) (G : xG) (S : yS) (d : yD) (h0 : Nat) (p0 : Int32) (p1 : Int32) (hSh : ySh S) (hPo : yPo S d) (hm_h0 : h0 ∈ S.1) (hk_h0 : S.2.1 h0 = 9) (hI : yMI S d h0) : xWl l G yX9_weight cX9_weight 4 (some .long) 2 42 0 0 [.ref h0, .int p0, .int p1] (yW G S d) (fun r (u : yD) => yAg S [9, 69] d u ∧ (yPo S d → yPo S u) ∧ yK [38] d u h0 ∧ (yMI S u h0 ∧ ((r = -1 ∧ ¬ (0 ≤ p0.toInt ∧ p0.toInt ≤ 7 ∧ yOI S d h0 p0.toInt.toNat = 1 ∧ 0 ≤ p1.toInt ∧ p1.toInt ≤ 1)) ∨ ((0 ≤ p0.toInt ∧ p0.toInt ≤ 7 ∧ yOI S d h0 p0.toInt.toNat = 1 ∧ 0 ≤ p1.toInt ∧ p1.toInt ≤ 1) ∧ (p1.toInt = 0 → r = d.2.2.2.2 (S.2.2.1 h0 11) (12 * p0.toInt.toNat + 3) / 1000) ∧ (p1.toInt = 1 → r = d.2.2.2.2 (S.2.2.1 h0 11) (12 * p0.toInt.toNat + 3) - d.2.2.2.2 (S.2.2.1 h0 11) (12 * p0.toInt.toNat + 3) / 1000 * 1000))))) (fun u => yW G S u) := by
  intro sz
  refine xstart (by decide) (Nat.le_of_ble_eq_true rfl) (fun p e s m args below meth c ls C0 hr hlocks hin hsz hP hK hD hN hl => ?_)
  obtain ⟨hx, hb, hml, hown, htl⟩ := id C0
  subst hsz
  have hD := hD.self (sz := s.heap.size)
  generalize hAe : va_A (yW G S d) s.heap.size = A at hD ⊢
  have hA : ∀ q : Nat, s.heap.size ≤ q → A q := fun q h => by rw [← hAe]; exact Or.inr h
  have hS : va_S A s.heap s.heap [] := va_S.rf
  have hg0 : yAg S [9, 69] d d := yAg.rf
  have hl : lv_has ls 4 [(0, .ref h0), (1, .int p0), (2, .int p1)] := hl
  refine lv_aload_n hx hb dX9_weight_0 rfl (lv_at hl 0 rfl) ?_
  refine lv_iconst (v := 0) hx hb dX9_weight_1 (by decide) ?_
  refine yputI (ci := 9) (k := 38) (ty := .int) (C := RX9) (T := TX9) (N := 67) C0 hK hP hD hS hm_h0 hk_h0 (by decide) rfl inlX9 tyX9 tyX9_ok nmX9 (by decide) mW175 (fun _ h9 => h9) rfl (by decide +kernel) rfl rfl (Nat.le_of_ble_eq_true rfl) ysi_9_38 dX9_weight_2 (fun H locs hP hD hS => ?_)
  obtain ⟨d_1, ed_1⟩ : ∃ z : yD, z = yi d h0 38 0 := ⟨_, rfl⟩
  rw [← ed_1] at hP hD
  have hgd_1 : yAg S [9, 69] d d_1 := by rw [ed_1]; exact yAg.i hg0 (by rw [hk_h0]; decide)
  have hsd_1 : yAg S [9] d d_1 := by rw [ed_1]; exact yAg.i yAg.rf (by rw [hk_h0]; decide)
  have hPod_1 : yPo S d_1 := by rw [ed_1]; exact yPo.i hPo hk_h0 (Or.inl rfl)
  have hfd_1 : yK [38] d d_1 h0 := by rw [ed_1]; exact yK.i yK.rf (by decide)
  have hId_1 : yMI S d_1 h0 := yMI.ag hI hSh hm_h0 hk_h0 (show yAg S [9] d d_1 from by rw [ed_1]; exact yAg.i yAg.rf (by rw [hk_h0]; decide)) (show yK [38] d d_1 h0 from by rw [ed_1]; exact yK.i yK.rf (by decide)) (by decide) (by decide)
  have hE0d_1 : (d_1.1 h0 0).toInt = (d.1 h0 0).toInt := congrArg Int32.toInt ((show yK [38] d d_1 h0 from by rw [ed_1]; exact yK.i yK.rf (by decide)) 0 (by decide))
  have hE1d_1 : (d_1.1 h0 1).toInt = (d.1 h0 1).toInt := congrArg Int32.toInt ((show yK [38] d d_1 h0 from by rw [ed_1]; exact yK.i yK.rf (by decide)) 1 (by decide))
  have hE2d_1 : (d_1.1 h0 2).toInt = (d.1 h0 2).toInt := congrArg Int32.toInt ((show yK [38] d d_1 h0 from by rw [ed_1]; exact yK.i yK.rf (by decide)) 2 (by decide))
  have hE3d_1 : (d_1.1 h0 3).toInt = (d.1 h0 3).toInt := congrArg Int32.toInt ((show yK [38] d d_1 h0 from by rw [ed_1]; exact yK.i yK.rf (by decide)) 3 (by decide))
  have hE63d_1 : (d_1.1 h0 63).toInt = (d.1 h0 63).toInt := congrArg Int32.toInt ((show yK [38] d d_1 h0 from by rw [ed_1]; exact yK.i yK.rf (by decide)) 63 (by decide))
  refine lv_iload_n hx hb dX9_weight_5 rfl (lv_at hl 2 rfl) ?_
  refine lv_if_lt (tgt := 14) hx hb dX9_weight_6 (by decide) (fun c_2 => ?_) (fun c_2 => ?_)
  · refine lv_iconst (v := 1) hx hb dX9_weight_14 (by decide) ?_
    refine lv_goto (tgt := 23) hx hb dX9_weight_15 (by decide) ?_
    refine lv_istore_n (lv' := [(3, .int 1), (0, .ref h0), (1, .int p0), (2, .int p1)]) hx hb dX9_weight_23 rfl hl (by decide) rfl (fun ls hl => ?_)
    refine lv_iload_n hx hb dX9_weight_24 rfl (lv_at hl 0 rfl) ?_
    refine lv_if_eq (tgt := 35) hx hb dX9_weight_25 (by decide) (fun c_3 => absurd c_3 (by decide +kernel)) (fun c_3 => ?_)
    refine lv_aload_n hx hb dX9_weight_28 rfl (lv_at hl 1 rfl) ?_
    refine lv_iload_n hx hb dX9_weight_29 rfl (lv_at hl 0 rfl) ?_
    refine yVwi (As := [.int 1]) (rest := []) C0 (g_X9_no l G S d_1 h0 1 hSh hPod_1 hm_h0 hk_h0 (by decide +kernel)) ok_X9_no (mW177 : Cond.methodLink RX9 168 yX9_no ∈ wsT) ⟨Nat.le_of_ble_eq_true rfl, Nat.le_of_ble_eq_true rfl⟩ hP hD hS hA hK hN hm_h0 hk_h0 (by decide) rfl rfl rfl hl.1 rfl (Nat.le_of_ble_eq_true rfl) ⟨Nat.le_of_ble_eq_true rfl, Nat.le_of_ble_eq_true rfl⟩ dX9_weight_30 (fun r_4 d_5 H locs hr_4 hP hD hS => ?_)
    obtain ⟨hgad_5, hpad_5, hfad_5, hxd_5⟩ := hr_4
    have hfd_5 : yK [38] d d_5 h0 := yK.tr hfd_1 hfad_5 (by decide)
    have hE0d_5 : (d_5.1 h0 0).toInt = (d_1.1 h0 0).toInt := congrArg Int32.toInt (hfad_5 0 (by decide))
    have hE1d_5 : (d_5.1 h0 1).toInt = (d_1.1 h0 1).toInt := congrArg Int32.toInt (hfad_5 1 (by decide))
    have hE2d_5 : (d_5.1 h0 2).toInt = (d_1.1 h0 2).toInt := congrArg Int32.toInt (hfad_5 2 (by decide))
    have hE3d_5 : (d_5.1 h0 3).toInt = (d_1.1 h0 3).toInt := congrArg Int32.toInt (hfad_5 3 (by decide))
    have hE63d_5 : (d_5.1 h0 63).toInt = (d_1.1 h0 63).toInt := congrArg Int32.toInt (hfad_5 63 (by decide))
    have hId_5 : yMI S d_5 h0 := yMI.ag hId_1 hSh hm_h0 hk_h0 hgad_5 hfad_5 (by decide) (by decide)
    have hgd_5 : yAg S [9, 69] d d_5 := yAg.tr hgd_1 hgad_5 (by first | decide | exact fun _ h => h)
    have hPod_5 : yPo S d_5 := hpad_5 hPod_1
    refine lv_i2l hx hb dX9_weight_33 rfl ?_
    refine lv_topl (fun z_6 ez_6 => ?_)
    have hCC_7 := yMI.c hId_5
    have F_8 := flt (rfl : (p1 : Int32).toInt = (p1 : Int32).toInt) (by decide +kernel : (0 : Int32).toInt = 0) c_2
    have F_9 := fne (by decide +kernel : (1 : Int32).toInt = 1) (by decide +kernel : (0 : Int32).toInt = 0) c_3
    exact W.lret (v := z_6) hx hb hr (fun t ht hW => ⟨⟨z_6, d_5, rfl, ⟨hgd_5, (fun _ => hPod_5), hfd_5, ⟨hId_5, Or.inl ⟨(by rw [ez_6, show (r_4 : Int32) = -1 from hxd_5]; decide +kernel), by omega⟩⟩⟩, by rw [ht]; exact hP, hD⟩, hS.F ht⟩) hS.2.2 dX9_weight_34
  · refine lv_iload_n hx hb dX9_weight_9 rfl (lv_at hl 2 rfl) ?_
    refine lv_iconst (v := 1) hx hb dX9_weight_10 (by decide) ?_
    refine lv_icmp_le (tgt := 18) hx hb dX9_weight_11 (by decide) (fun c_10 => ?_) (fun c_10 => ?_)
    · refine lv_aload_n hx hb dX9_weight_18 rfl (lv_at hl 0 rfl) ?_
      refine lv_iload_n hx hb dX9_weight_19 rfl (lv_at hl 1 rfl) ?_
      refine yVri (As := [.int p0]) (rest := []) C0 (g_X9_portWhy l G S d_1 h0 p0 hSh hm_h0 hk_h0) ok_X9_portWhy (mW387 : Cond.methodLink RX9 165 yX9_portWhy ∈ wsT) ⟨Nat.le_of_ble_eq_true rfl, Nat.le_of_ble_eq_true rfl⟩ hP hD hK hN hm_h0 hk_h0 (by decide) rfl rfl rfl hl.1 rfl (Nat.le_of_ble_eq_true rfl) ⟨Nat.le_of_ble_eq_true rfl, Nat.le_of_ble_eq_true rfl⟩ dX9_weight_20 (fun r_11 hr_11 => ?_)
      refine lv_istore_n (lv' := [(3, .int r_11), (0, .ref h0), (1, .int p0), (2, .int p1)]) hx hb dX9_weight_23 rfl hl (by decide) rfl (fun ls hl => ?_)
      refine lv_iload_n hx hb dX9_weight_24 rfl (lv_at hl 0 rfl) ?_
      refine lv_if_eq (tgt := 35) hx hb dX9_weight_25 (by decide) (fun c_12 => ?_) (fun c_12 => ?_)
      · refine lv_iload_n hx hb dX9_weight_35 rfl (lv_at hl 3 rfl) ?_
        refine lv_if_ne (tgt := 57) hx hb dX9_weight_36 (by decide) (fun c_13 => ?_) (fun c_13 => ?_)
        · refine lv_aload_n hx hb dX9_weight_57 rfl (lv_at hl 1 rfl) ?_
          refine yget (ci := 9) (k := 11) (v := .ref (S.2.2.1 h0 11)) (C := RX9) (T := TX9) (N := 67) C0 hK hP hm_h0 hk_h0 (by decide) rfl inlX9 (by decide) mW116 (fun _ h9 => h9) rfl dX9_weight_58 ?_
          obtain ⟨hmy_14, hky_14⟩ := ySh.f9_11 hSh _ hm_h0 hk_h0
          refine lv_bipush (v := 12) hx hb dX9_weight_61 (by decide) ?_
          refine lv_iload_n hx hb dX9_weight_63 rfl (lv_at hl 2 rfl) ?_
          refine lv_imul hx hb dX9_weight_64 ?_
          refine lv_topi (fun z_15 ez_15 => ?_)
          refine lv_iconst (v := 3) hx hb dX9_weight_65 (by decide) ?_
          refine lv_iadd hx hb dX9_weight_66 ?_
          refine lv_topi (fun z_16 ez_16 => ?_)
          have hCC_17 := yMI.c hId_1
          have F_18 := fnlt (rfl : (p1 : Int32).toInt = (p1 : Int32).toInt) (by decide +kernel : (0 : Int32).toInt = 0) c_2
          have F_19 := fle (rfl : (p1 : Int32).toInt = (p1 : Int32).toInt) (by decide +kernel : (1 : Int32).toInt = 1) c_10
          have F_20 := feq (rfl : (r_11 : Int32).toInt = (r_11 : Int32).toInt) (by decide +kernel : (0 : Int32).toInt = 0) c_12
          have F_21 := fne (rfl : (p1 : Int32).toInt = (p1 : Int32).toInt) (by decide +kernel : (0 : Int32).toInt = 0) c_13
          have T_23 : (z_15 : Int32).toInt = 12 * (p0 : Int32).toInt := tmul ez_15 (by decide +kernel : (12 : Int32).toInt = 12) (rfl : (p0 : Int32).toInt = (p0 : Int32).toInt) (by omega) (by omega)
          have T_22 : (z_16 : Int32).toInt = (z_15 : Int32).toInt + 3 := tadd ez_16 (rfl : (z_15 : Int32).toInt = (z_15 : Int32).toInt) (by decide +kernel : (3 : Int32).toInt = 3) (by omega) (by omega)
          refine yaldJ C0 hK hP hmy_14 hky_14 (by decide) rfl 4 rfl (xinT 96 rfl (by omega) (by omega)) dX9_weight_67 ?_
          refine lv_topl (fun z_24 ez_24 => ?_)
          refine lv_ldc2 (v := 1000) hx hb hown (htl (.constantLong RX9 338 (1000)) mW675) dX9_weight_68 ?_
          refine lv_lrem hx hb dX9_weight_71 (by decide) ?_
          refine lv_topl (fun z_25 ez_25 => ?_)
          have hrf_26 : d_1.2.2.2.2 (S.2.2.1 h0 11) = d.2.2.2.2 (S.2.2.1 h0 11) := (hsd_1 _ (by rw [(ySh.f9_11 hSh h0 hm_h0 hk_h0).2]; decide)).2.2.2.2
          have hrf_26a : yOI S d_1 h0 (p0 : Int32).toInt.toNat = yOI S d h0 (p0 : Int32).toInt.toNat := by unfold yOI; rw [hrf_26]
          have hrf_26b : yOf S d_1 h0 (p0 : Int32).toInt.toNat 2 = yOf S d h0 (p0 : Int32).toInt.toNat 2 := by unfold yOf; rw [hrf_26]
          have hzl_ : z_24 = d.2.2.2.2 (S.2.2.1 h0 11) (12 * p0.toInt.toNat + 3) := by rw [ez_24, show (z_16 : Int32).toNatClampNeg = 12 * p0.toInt.toNat + 3 from (show (z_16 : Int32).toInt.toNat = _ by omega)]; exact congrFun (hsd_1 _ (by rw [(ySh.f9_11 hSh h0 hm_h0 hk_h0).2]; decide)).2.2.2.2 _
          exact W.lret (v := z_25) hx hb hr (fun t ht hW => ⟨⟨z_25, d_1, rfl, ⟨hgd_1, (fun _ => hPod_1), hfd_1, ⟨hId_1, Or.inr ⟨by omega, (fun q => by omega), (fun q => by rw [ez_25, hzl_])⟩⟩⟩, by rw [ht]; exact hP, hD⟩, hS.F ht⟩) hS.2.2 dX9_weight_72
        · refine lv_aload_n hx hb dX9_weight_39 rfl (lv_at hl 1 rfl) ?_
          refine yget (ci := 9) (k := 11) (v := .ref (S.2.2.1 h0 11)) (C := RX9) (T := TX9) (N := 67) C0 hK hP hm_h0 hk_h0 (by decide) rfl inlX9 (by decide) mW116 (fun _ h9 => h9) rfl dX9_weight_40 ?_
          obtain ⟨hmy_27, hky_27⟩ := ySh.f9_11 hSh _ hm_h0 hk_h0
          refine lv_bipush (v := 12) hx hb dX9_weight_43 (by decide) ?_
          refine lv_iload_n hx hb dX9_weight_45 rfl (lv_at hl 2 rfl) ?_
          refine lv_imul hx hb dX9_weight_46 ?_
          refine lv_topi (fun z_28 ez_28 => ?_)
          refine lv_iconst (v := 3) hx hb dX9_weight_47 (by decide) ?_
          refine lv_iadd hx hb dX9_weight_48 ?_
          refine lv_topi (fun z_29 ez_29 => ?_)
          have hCC_30 := yMI.c hId_1
          have F_31 := fnlt (rfl : (p1 : Int32).toInt = (p1 : Int32).toInt) (by decide +kernel : (0 : Int32).toInt = 0) c_2
          have F_32 := fle (rfl : (p1 : Int32).toInt = (p1 : Int32).toInt) (by decide +kernel : (1 : Int32).toInt = 1) c_10
          have F_33 := feq (rfl : (r_11 : Int32).toInt = (r_11 : Int32).toInt) (by decide +kernel : (0 : Int32).toInt = 0) c_12
          have F_34 := feq (rfl : (p1 : Int32).toInt = (p1 : Int32).toInt) (by decide +kernel : (0 : Int32).toInt = 0) c_13
          have T_36 : (z_28 : Int32).toInt = 12 * (p0 : Int32).toInt := tmul ez_28 (by decide +kernel : (12 : Int32).toInt = 12) (rfl : (p0 : Int32).toInt = (p0 : Int32).toInt) (by omega) (by omega)
          have T_35 : (z_29 : Int32).toInt = (z_28 : Int32).toInt + 3 := tadd ez_29 (rfl : (z_28 : Int32).toInt = (z_28 : Int32).toInt) (by decide +kernel : (3 : Int32).toInt = 3) (by omega) (by omega)
          refine yaldJ C0 hK hP hmy_27 hky_27 (by decide) rfl 4 rfl (xinT 96 rfl (by omega) (by omega)) dX9_weight_49 ?_
          refine lv_topl (fun z_37 ez_37 => ?_)
          refine lv_ldc2 (v := 1000) hx hb hown (htl (.constantLong RX9 338 (1000)) mW675) dX9_weight_50 ?_
          refine lv_ldiv hx hb dX9_weight_53 (by decide) ?_
          refine lv_topl (fun z_38 ez_38 => ?_)
          refine lv_goto (tgt := 72) hx hb dX9_weight_54 (by decide) ?_
          have hrf_39 : d_1.2.2.2.2 (S.2.2.1 h0 11) = d.2.2.2.2 (S.2.2.1 h0 11) := (hsd_1 _ (by rw [(ySh.f9_11 hSh h0 hm_h0 hk_h0).2]; decide)).2.2.2.2
          have hrf_39a : yOI S d_1 h0 (p0 : Int32).toInt.toNat = yOI S d h0 (p0 : Int32).toInt.toNat := by unfold yOI; rw [hrf_39]
          have hrf_39b : yOf S d_1 h0 (p0 : Int32).toInt.toNat 2 = yOf S d h0 (p0 : Int32).toInt.toNat 2 := by unfold yOf; rw [hrf_39]
          have hzl_ : z_37 = d.2.2.2.2 (S.2.2.1 h0 11) (12 * p0.toInt.toNat + 3) := by rw [ez_37, show (z_29 : Int32).toNatClampNeg = 12 * p0.toInt.toNat + 3 from (show (z_29 : Int32).toInt.toNat = _ by omega)]; exact congrFun (hsd_1 _ (by rw [(ySh.f9_11 hSh h0 hm_h0 hk_h0).2]; decide)).2.2.2.2 _
          exact W.lret (v := z_38) hx hb hr (fun t ht hW => ⟨⟨z_38, d_1, rfl, ⟨hgd_1, (fun _ => hPod_1), hfd_1, ⟨hId_1, Or.inr ⟨by omega, (fun q => by rw [ez_38, hzl_]), (fun q => by omega)⟩⟩⟩, by rw [ht]; exact hP, hD⟩, hS.F ht⟩) hS.2.2 dX9_weight_72
      · refine lv_aload_n hx hb dX9_weight_28 rfl (lv_at hl 1 rfl) ?_
        refine lv_iload_n hx hb dX9_weight_29 rfl (lv_at hl 0 rfl) ?_
        have F_40 := fnlt (rfl : (p1 : Int32).toInt = (p1 : Int32).toInt) (by decide +kernel : (0 : Int32).toInt = 0) c_2
        have F_41 := fle (rfl : (p1 : Int32).toInt = (p1 : Int32).toInt) (by decide +kernel : (1 : Int32).toInt = 1) c_10
        have F_42 := fne (rfl : (r_11 : Int32).toInt = (r_11 : Int32).toInt) (by decide +kernel : (0 : Int32).toInt = 0) c_12
        refine yVwi (As := [.int r_11]) (rest := []) C0 (g_X9_no l G S d_1 h0 r_11 hSh hPod_1 hm_h0 hk_h0 (by refine ⟨?_, ?_⟩ <;> omega)) ok_X9_no (mW177 : Cond.methodLink RX9 168 yX9_no ∈ wsT) ⟨Nat.le_of_ble_eq_true rfl, Nat.le_of_ble_eq_true rfl⟩ hP hD hS hA hK hN hm_h0 hk_h0 (by decide) rfl rfl rfl hl.1 rfl (Nat.le_of_ble_eq_true rfl) ⟨Nat.le_of_ble_eq_true rfl, Nat.le_of_ble_eq_true rfl⟩ dX9_weight_30 (fun r_43 d_44 H locs hr_43 hP hD hS => ?_)
        obtain ⟨hgad_44, hpad_44, hfad_44, hxd_44⟩ := hr_43
        have hfd_44 : yK [38] d d_44 h0 := yK.tr hfd_1 hfad_44 (by decide)
        have hE0d_44 : (d_44.1 h0 0).toInt = (d_1.1 h0 0).toInt := congrArg Int32.toInt (hfad_44 0 (by decide))
        have hE1d_44 : (d_44.1 h0 1).toInt = (d_1.1 h0 1).toInt := congrArg Int32.toInt (hfad_44 1 (by decide))
        have hE2d_44 : (d_44.1 h0 2).toInt = (d_1.1 h0 2).toInt := congrArg Int32.toInt (hfad_44 2 (by decide))
        have hE3d_44 : (d_44.1 h0 3).toInt = (d_1.1 h0 3).toInt := congrArg Int32.toInt (hfad_44 3 (by decide))
        have hE63d_44 : (d_44.1 h0 63).toInt = (d_1.1 h0 63).toInt := congrArg Int32.toInt (hfad_44 63 (by decide))
        have hId_44 : yMI S d_44 h0 := yMI.ag hId_1 hSh hm_h0 hk_h0 hgad_44 hfad_44 (by decide) (by decide)
        have hgd_44 : yAg S [9, 69] d d_44 := yAg.tr hgd_1 hgad_44 (by first | decide | exact fun _ h => h)
        have hPod_44 : yPo S d_44 := hpad_44 hPod_1
        refine lv_i2l hx hb dX9_weight_33 rfl ?_
        refine lv_topl (fun z_45 ez_45 => ?_)
        have hrf_46 : d_1.2.2.2.2 (S.2.2.1 h0 11) = d.2.2.2.2 (S.2.2.1 h0 11) := (hsd_1 _ (by rw [(ySh.f9_11 hSh h0 hm_h0 hk_h0).2]; decide)).2.2.2.2
        have hrf_46a : yOI S d_1 h0 (p0 : Int32).toInt.toNat = yOI S d h0 (p0 : Int32).toInt.toNat := by unfold yOI; rw [hrf_46]
        have hrf_46b : yOf S d_1 h0 (p0 : Int32).toInt.toNat 2 = yOf S d h0 (p0 : Int32).toInt.toNat 2 := by unfold yOf; rw [hrf_46]
        have hCC_47 := yMI.c hId_44
        exact W.lret (v := z_45) hx hb hr (fun t ht hW => ⟨⟨z_45, d_44, rfl, ⟨hgd_44, (fun _ => hPod_44), hfd_44, ⟨hId_44, Or.inl ⟨(by rw [ez_45, show (r_43 : Int32) = -1 from hxd_44]; decide +kernel), by omega⟩⟩⟩, by rw [ht]; exact hP, hD⟩, hS.F ht⟩) hS.2.2 dX9_weight_34
    · refine lv_iconst (v := 1) hx hb dX9_weight_14 (by decide) ?_
      refine lv_goto (tgt := 23) hx hb dX9_weight_15 (by decide) ?_
      refine lv_istore_n (lv' := [(3, .int 1), (0, .ref h0), (1, .int p0), (2, .int p1)]) hx hb dX9_weight_23 rfl hl (by decide) rfl (fun ls hl => ?_)
      refine lv_iload_n hx hb dX9_weight_24 rfl (lv_at hl 0 rfl) ?_
      refine lv_if_eq (tgt := 35) hx hb dX9_weight_25 (by decide) (fun c_48 => absurd c_48 (by decide +kernel)) (fun c_48 => ?_)
      refine lv_aload_n hx hb dX9_weight_28 rfl (lv_at hl 1 rfl) ?_
      refine lv_iload_n hx hb dX9_weight_29 rfl (lv_at hl 0 rfl) ?_
      refine yVwi (As := [.int 1]) (rest := []) C0 (g_X9_no l G S d_1 h0 1 hSh hPod_1 hm_h0 hk_h0 (by decide +kernel)) ok_X9_no (mW177 : Cond.methodLink RX9 168 yX9_no ∈ wsT) ⟨Nat.le_of_ble_eq_true rfl, Nat.le_of_ble_eq_true rfl⟩ hP hD hS hA hK hN hm_h0 hk_h0 (by decide) rfl rfl rfl hl.1 rfl (Nat.le_of_ble_eq_true rfl) ⟨Nat.le_of_ble_eq_true rfl, Nat.le_of_ble_eq_true rfl⟩ dX9_weight_30 (fun r_49 d_50 H locs hr_49 hP hD hS => ?_)
      obtain ⟨hgad_50, hpad_50, hfad_50, hxd_50⟩ := hr_49
      have hfd_50 : yK [38] d d_50 h0 := yK.tr hfd_1 hfad_50 (by decide)
      have hE0d_50 : (d_50.1 h0 0).toInt = (d_1.1 h0 0).toInt := congrArg Int32.toInt (hfad_50 0 (by decide))
      have hE1d_50 : (d_50.1 h0 1).toInt = (d_1.1 h0 1).toInt := congrArg Int32.toInt (hfad_50 1 (by decide))
      have hE2d_50 : (d_50.1 h0 2).toInt = (d_1.1 h0 2).toInt := congrArg Int32.toInt (hfad_50 2 (by decide))
      have hE3d_50 : (d_50.1 h0 3).toInt = (d_1.1 h0 3).toInt := congrArg Int32.toInt (hfad_50 3 (by decide))
      have hE63d_50 : (d_50.1 h0 63).toInt = (d_1.1 h0 63).toInt := congrArg Int32.toInt (hfad_50 63 (by decide))
      have hId_50 : yMI S d_50 h0 := yMI.ag hId_1 hSh hm_h0 hk_h0 hgad_50 hfad_50 (by decide) (by decide)
      have hgd_50 : yAg S [9, 69] d d_50 := yAg.tr hgd_1 hgad_50 (by first | decide | exact fun _ h => h)
      have hPod_50 : yPo S d_50 := hpad_50 hPod_1
      refine lv_i2l hx hb dX9_weight_33 rfl ?_
      refine lv_topl (fun z_51 ez_51 => ?_)
      have hCC_52 := yMI.c hId_50
      have F_53 := fnlt (rfl : (p1 : Int32).toInt = (p1 : Int32).toInt) (by decide +kernel : (0 : Int32).toInt = 0) c_2
      have F_54 := fnle (rfl : (p1 : Int32).toInt = (p1 : Int32).toInt) (by decide +kernel : (1 : Int32).toInt = 1) c_10
      have F_55 := fne (by decide +kernel : (1 : Int32).toInt = 1) (by decide +kernel : (0 : Int32).toInt = 0) c_48
      exact W.lret (v := z_51) hx hb hr (fun t ht hW => ⟨⟨z_51, d_50, rfl, ⟨hgd_50, (fun _ => hPod_50), hfd_50, ⟨hId_50, Or.inl ⟨(by rw [ez_51, show (r_49 : Int32) = -1 from hxd_50]; decide +kernel), by omega⟩⟩⟩, by rw [ht]; exact hP, hD⟩, hS.F ht⟩) hS.2.2 dX9_weight_34
theorem dX9_together_0 : decode cX9_together 0 = .ok (.aload_n 0, 1) := by decide +kernel
theorem dX9_together_1 : decode cX9_together 1 = .ok (.iconst 0, 1) := by decide +kernel
theorem dX9_together_2 : decode cX9_together 2 = .ok (.putfield 147, 3) := by decide +kernel
theorem dX9_together_5 : decode cX9_together 5 = .ok (.iload_n 1, 1) := by decide +kernel
theorem dX9_together_6 : decode cX9_together 6 = .ok (.ifCond .lt 10, 3) := by decide +kernel
theorem dX9_together_9 : decode cX9_together 9 = .ok (.iload_n 1, 1) := by decide +kernel
theorem dX9_together_10 : decode cX9_together 10 = .ok (.sipush 255, 3) := by decide +kernel
theorem dX9_together_13 : decode cX9_together 13 = .ok (.if_icmp .le 7, 3) := by decide +kernel
theorem dX9_together_16 : decode cX9_together 16 = .ok (.iconst 1, 1) := by decide +kernel
theorem dX9_together_17 : decode cX9_together 17 = .ok (.goto 4, 3) := by decide +kernel
theorem dX9_together_20 : decode cX9_together 20 = .ok (.iconst 0, 1) := by decide +kernel
theorem dX9_together_21 : decode cX9_together 21 = .ok (.istore_n 2, 1) := by decide +kernel
theorem dX9_together_22 : decode cX9_together 22 = .ok (.iconst 0, 1) := by decide +kernel
theorem dX9_together_23 : decode cX9_together 23 = .ok (.istore_n 3, 1) := by decide +kernel
theorem dX9_together_24 : decode cX9_together 24 = .ok (.iload_n 2, 1) := by decide +kernel
theorem dX9_together_25 : decode cX9_together 25 = .ok (.ifCond .ne 34, 3) := by decide +kernel
theorem dX9_together_28 : decode cX9_together 28 = .ok (.iload_n 3, 1) := by decide +kernel
theorem dX9_together_29 : decode cX9_together 29 = .ok (.bipush 8, 2) := by decide +kernel
theorem dX9_together_31 : decode cX9_together 31 = .ok (.if_icmp .ge 28, 3) := by decide +kernel
theorem dX9_together_34 : decode cX9_together 34 = .ok (.iload_n 1, 1) := by decide +kernel
theorem dX9_together_35 : decode cX9_together 35 = .ok (.iload_n 3, 1) := by decide +kernel
theorem dX9_together_36 : decode cX9_together 36 = .ok (.ishr, 1) := by decide +kernel
theorem dX9_together_37 : decode cX9_together 37 = .ok (.iconst 1, 1) := by decide +kernel
theorem dX9_together_38 : decode cX9_together 38 = .ok (.iand, 1) := by decide +kernel
theorem dX9_together_39 : decode cX9_together 39 = .ok (.iconst 1, 1) := by decide +kernel
theorem dX9_together_40 : decode cX9_together 40 = .ok (.if_icmp .ne 13, 3) := by decide +kernel
theorem dX9_together_43 : decode cX9_together 43 = .ok (.aload_n 0, 1) := by decide +kernel
theorem dX9_together_44 : decode cX9_together 44 = .ok (.iload_n 3, 1) := by decide +kernel
theorem dX9_together_45 : decode cX9_together 45 = .ok (.invokevirtual 157, 3) := by decide +kernel
theorem dX9_together_48 : decode cX9_together 48 = .ok (.ifCond .ne 5, 3) := by decide +kernel
theorem dX9_together_51 : decode cX9_together 51 = .ok (.iconst 2, 1) := by decide +kernel
theorem dX9_together_52 : decode cX9_together 52 = .ok (.istore_n 2, 1) := by decide +kernel
theorem dX9_together_53 : decode cX9_together 53 = .ok (.iinc 3 1, 3) := by decide +kernel
theorem dX9_together_56 : decode cX9_together 56 = .ok (.goto (-32), 3) := by decide +kernel
theorem dX9_together_59 : decode cX9_together 59 = .ok (.iload_n 2, 1) := by decide +kernel
theorem dX9_together_60 : decode cX9_together 60 = .ok (.ifCond .eq 11, 3) := by decide +kernel
theorem dX9_together_63 : decode cX9_together 63 = .ok (.aload_n 0, 1) := by decide +kernel
theorem dX9_together_64 : decode cX9_together 64 = .ok (.iload_n 2, 1) := by decide +kernel
theorem dX9_together_65 : decode cX9_together 65 = .ok (.invokevirtual 168, 3) := by decide +kernel
theorem dX9_together_68 : decode cX9_together 68 = .ok (.pop, 1) := by decide +kernel
theorem dX9_together_69 : decode cX9_together 69 = .ok (.iconst 0, 1) := by decide +kernel
theorem dX9_together_70 : decode cX9_together 70 = .ok (.ireturn, 1) := by decide +kernel
theorem dX9_together_71 : decode cX9_together 71 = .ok (.iconst 0, 1) := by decide +kernel
theorem dX9_together_72 : decode cX9_together 72 = .ok (.istore_n 3, 1) := by decide +kernel
theorem dX9_together_73 : decode cX9_together 73 = .ok (.iload_n 3, 1) := by decide +kernel
theorem dX9_together_74 : decode cX9_together 74 = .ok (.bipush 8, 2) := by decide +kernel
theorem dX9_together_76 : decode cX9_together 76 = .ok (.if_icmp .ge 38, 3) := by decide +kernel
theorem dX9_together_79 : decode cX9_together 79 = .ok (.aload_n 0, 1) := by decide +kernel
theorem dX9_together_80 : decode cX9_together 80 = .ok (.getfield 36, 3) := by decide +kernel
theorem dX9_together_83 : decode cX9_together 83 = .ok (.bipush 12, 2) := by decide +kernel
theorem dX9_together_85 : decode cX9_together 85 = .ok (.iload_n 3, 1) := by decide +kernel
theorem dX9_together_86 : decode cX9_together 86 = .ok (.imul, 1) := by decide +kernel
theorem dX9_together_87 : decode cX9_together 87 = .ok (.bipush 10, 2) := by decide +kernel
theorem dX9_together_89 : decode cX9_together 89 = .ok (.iadd, 1) := by decide +kernel
theorem dX9_together_90 : decode cX9_together 90 = .ok (.iload_n 1, 1) := by decide +kernel
theorem dX9_together_91 : decode cX9_together 91 = .ok (.iload_n 3, 1) := by decide +kernel
theorem dX9_together_92 : decode cX9_together 92 = .ok (.ishr, 1) := by decide +kernel
theorem dX9_together_93 : decode cX9_together 93 = .ok (.iconst 1, 1) := by decide +kernel
theorem dX9_together_94 : decode cX9_together 94 = .ok (.iand, 1) := by decide +kernel
theorem dX9_together_95 : decode cX9_together 95 = .ok (.iconst 1, 1) := by decide +kernel
theorem dX9_together_96 : decode cX9_together 96 = .ok (.if_icmp .ne 8, 3) := by decide +kernel
theorem dX9_together_99 : decode cX9_together 99 = .ok (.iload_n 1, 1) := by decide +kernel
theorem dX9_together_100 : decode cX9_together 100 = .ok (.i2l, 1) := by decide +kernel
theorem dX9_together_101 : decode cX9_together 101 = .ok (.goto 6, 3) := by decide +kernel
theorem dX9_together_104 : decode cX9_together 104 = .ok (.lconst 1, 1) := by decide +kernel
theorem dX9_together_105 : decode cX9_together 105 = .ok (.iload_n 3, 1) := by decide +kernel
theorem dX9_together_106 : decode cX9_together 106 = .ok (.lshl, 1) := by decide +kernel
theorem dX9_together_107 : decode cX9_together 107 = .ok (.lastore, 1) := by decide +kernel
theorem dX9_together_108 : decode cX9_together 108 = .ok (.iinc 3 1, 3) := by decide +kernel
theorem dX9_together_111 : decode cX9_together 111 = .ok (.goto (-38), 3) := by decide +kernel
theorem dX9_together_114 : decode cX9_together 114 = .ok (.iconst 1, 1) := by decide +kernel
theorem dX9_together_115 : decode cX9_together 115 = .ok (.ireturn, 1) := by decide +kernel
set_option maxHeartbeats 4000000 in
set_option maxRecDepth 100000 in
theorem g_X9_together (l : Launch) (G : xG) (S : yS) (d : yD) (h0 : Nat) (p0 : Int32) (hSh : ySh S) (hPo : yPo S d) (hm_h0 : h0 ∈ S.1) (hk_h0 : S.2.1 h0 = 9) (hI : yMI S d h0) : xWi l G yX9_together cX9_together 4 (some .boolean) 1 21 0 0 [.ref h0, .int p0] (yW G S d) (fun r (u : yD) => yAg S [9, 41, 69] d u ∧ (yPo S d → yPo S u) ∧ yK [38] d u h0 ∧ (yMI S u h0 ∧ ((r.toInt = 0 ∧ ¬ zTC p0 (fun j => yOI S d h0 (j).toInt.toNat = 1)) ∨ (r.toInt = 1 ∧ zTC p0 (fun j => yOI S d h0 (j).toInt.toNat = 1))) ∧ zPf S d u h0 (fun _ => False))) (fun u => yW G S u) := by
  intro sz
  refine xstart (by decide) (Nat.le_of_ble_eq_true rfl) (fun p e s m args below meth c ls C0 hr hlocks hin hsz hP hK hD hN hl => ?_)
  obtain ⟨hx, hb, hml, hown, htl⟩ := id C0
  subst hsz
  have hD := hD.self (sz := s.heap.size)
  generalize hAe : va_A (yW G S d) s.heap.size = A at hD ⊢
  have hA : ∀ q : Nat, s.heap.size ≤ q → A q := fun q h => by rw [← hAe]; exact Or.inr h
  have hS : va_S A s.heap s.heap [] := va_S.rf
  have hg0 : yAg S [9, 41, 69] d d := yAg.rf
  have hl : lv_has ls 4 [(0, .ref h0), (1, .int p0)] := hl
  refine lv_aload_n hx hb dX9_together_0 rfl (lv_at hl 0 rfl) ?_
  refine lv_iconst (v := 0) hx hb dX9_together_1 (by decide) ?_
  refine yputI (ci := 9) (k := 38) (ty := .int) (C := RX9) (T := TX9) (N := 67) C0 hK hP hD hS hm_h0 hk_h0 (by decide) rfl inlX9 tyX9 tyX9_ok nmX9 (by decide) mW175 (fun _ h9 => h9) rfl (by decide +kernel) rfl rfl (Nat.le_of_ble_eq_true rfl) ysi_9_38 dX9_together_2 (fun H locs hP hD hS => ?_)
  obtain ⟨d_1, ed_1⟩ : ∃ z : yD, z = yi d h0 38 0 := ⟨_, rfl⟩
  rw [← ed_1] at hP hD
  have hgd_1 : yAg S [9, 41, 69] d d_1 := by rw [ed_1]; exact yAg.i hg0 (by rw [hk_h0]; decide)
  have hsd_1 : yAg S [9] d d_1 := by rw [ed_1]; exact yAg.i yAg.rf (by rw [hk_h0]; decide)
  have hPod_1 : yPo S d_1 := by rw [ed_1]; exact yPo.i hPo hk_h0 (Or.inl rfl)
  have hfd_1 : yK [38] d d_1 h0 := by rw [ed_1]; exact yK.i yK.rf (by decide)
  have hId_1 : yMI S d_1 h0 := yMI.ag hI hSh hm_h0 hk_h0 (show yAg S [9] d d_1 from by rw [ed_1]; exact yAg.i yAg.rf (by rw [hk_h0]; decide)) (show yK [38] d d_1 h0 from by rw [ed_1]; exact yK.i yK.rf (by decide)) (by decide) (by decide)
  have hE0d_1 : (d_1.1 h0 0).toInt = (d.1 h0 0).toInt := congrArg Int32.toInt ((show yK [38] d d_1 h0 from by rw [ed_1]; exact yK.i yK.rf (by decide)) 0 (by decide))
  have hE1d_1 : (d_1.1 h0 1).toInt = (d.1 h0 1).toInt := congrArg Int32.toInt ((show yK [38] d d_1 h0 from by rw [ed_1]; exact yK.i yK.rf (by decide)) 1 (by decide))
  have hE2d_1 : (d_1.1 h0 2).toInt = (d.1 h0 2).toInt := congrArg Int32.toInt ((show yK [38] d d_1 h0 from by rw [ed_1]; exact yK.i yK.rf (by decide)) 2 (by decide))
  have hE3d_1 : (d_1.1 h0 3).toInt = (d.1 h0 3).toInt := congrArg Int32.toInt ((show yK [38] d d_1 h0 from by rw [ed_1]; exact yK.i yK.rf (by decide)) 3 (by decide))
  have hE63d_1 : (d_1.1 h0 63).toInt = (d.1 h0 63).toInt := congrArg Int32.toInt ((show yK [38] d d_1 h0 from by rw [ed_1]; exact yK.i yK.rf (by decide)) 63 (by decide))
  refine lv_iload_n hx hb dX9_together_5 rfl (lv_at hl 1 rfl) ?_
  refine lv_if_lt (tgt := 16) hx hb dX9_together_6 (by decide) (fun c_2 => ?_) (fun c_2 => ?_)
  · refine lv_iconst (v := 1) hx hb dX9_together_16 (by decide) ?_
    refine lv_goto (tgt := 21) hx hb dX9_together_17 (by decide) ?_
    refine lv_istore_n (lv' := [(2, .int 1), (0, .ref h0), (1, .int p0)]) hx hb dX9_together_21 rfl hl (by decide) rfl (fun ls hl => ?_)
    refine lv_iconst (v := 0) hx hb dX9_together_22 (by decide) ?_
    refine lv_istore_n (lv' := [(3, .int 0), (2, .int 1), (0, .ref h0), (1, .int p0)]) hx hb dX9_together_23 rfl hl (by decide) rfl (fun ls hl => ?_)
    have hCC_3 := yMI.c hId_1
    have F_4 := flt (rfl : (p0 : Int32).toInt = (p0 : Int32).toInt) (by decide +kernel : (0 : Int32).toInt = 0) c_2
    refine yloopR (σ := Int32 × Int32) (fun x => (2147483647 - (x.2 : Int32).toInt).toNat) 24 (fun x ls => (((0 ≤ (x.1 : Int32).toInt ∧ (x.1 : Int32).toInt ≤ 5 ∧ 0 ≤ (x.2 : Int32).toInt) ∧ zTg p0 (fun j => yOI S d h0 (j).toInt.toNat = 1) x.1 x.2)) ∧ lv_has ls 4 [(3, .int x.2), (2, .int x.1), (0, .ref h0), (1, .int p0)]) (fun x ls hl hnext_7 => ?_) (1, 0) ⟨⟨(show 0 ≤ (1 : Int32).toInt ∧ (1 : Int32).toInt ≤ 5 ∧ 0 ≤ (0 : Int32).toInt from by have hl0_ : (1 : Int32).toInt = 1 := (by decide +kernel); have hl1_ : (0 : Int32).toInt = 0 := (by decide +kernel); have hq0_ : (0 : Int32).toInt = 0 := (by decide +kernel); omega), (show zTg p0 (fun j => yOI S d h0 (j).toInt.toNat = 1) 1 0 from zTg.ini (by have hl0_ : (1 : Int32).toInt = 1 := (by decide +kernel); have hl1_ : (0 : Int32).toInt = 0 := (by decide +kernel); omega))⟩, lv_sub hl [0, 1, 2, 3] rfl⟩
    obtain ⟨v_5, v_6⟩ := x
    obtain ⟨hex_8, hl⟩ := hl
    have hex_8 : (((0 ≤ (v_5 : Int32).toInt ∧ (v_5 : Int32).toInt ≤ 5 ∧ 0 ≤ (v_6 : Int32).toInt) ∧ zTg p0 (fun j => yOI S d h0 (j).toInt.toNat = 1) v_5 v_6)) := hex_8
    have hl : lv_has ls 4 [(3, .int v_6), (2, .int v_5), (0, .ref h0), (1, .int p0)] := hl
    refine lv_iload_n hx hb dX9_together_24 rfl (lv_at hl 1 rfl) ?_
    refine lv_if_ne (tgt := 59) hx hb dX9_together_25 (by decide) (fun c_9 => ?_) (fun c_9 => ?_)
    · refine lv_iload_n hx hb dX9_together_59 rfl (lv_at hl 1 rfl) ?_
      refine lv_if_eq (tgt := 71) hx hb dX9_together_60 (by decide) (fun c_10 => absurd c_10 c_9) (fun c_10 => ?_)
      refine lv_aload_n hx hb dX9_together_63 rfl (lv_at hl 2 rfl) ?_
      refine lv_iload_n hx hb dX9_together_64 rfl (lv_at hl 1 rfl) ?_
      have F_11 := fne (rfl : (v_5 : Int32).toInt = (v_5 : Int32).toInt) (by decide +kernel : (0 : Int32).toInt = 0) c_9
      have F_12 := fne (rfl : (v_5 : Int32).toInt = (v_5 : Int32).toInt) (by decide +kernel : (0 : Int32).toInt = 0) c_10
      refine yVwi (As := [.int v_5]) (rest := []) C0 (g_X9_no l G S d_1 h0 v_5 hSh hPod_1 hm_h0 hk_h0 (by refine ⟨?_, ?_⟩ <;> omega)) ok_X9_no (mW177 : Cond.methodLink RX9 168 yX9_no ∈ wsT) ⟨Nat.le_of_ble_eq_true rfl, Nat.le_of_ble_eq_true rfl⟩ hP hD hS hA hK hN hm_h0 hk_h0 (by decide) rfl rfl rfl hl.1 rfl (Nat.le_of_ble_eq_true rfl) ⟨Nat.le_of_ble_eq_true rfl, Nat.le_of_ble_eq_true rfl⟩ dX9_together_65 (fun r_13 d_14 H locs hr_13 hP hD hS => ?_)
      obtain ⟨hgad_14, hpad_14, hfad_14, hxd_14⟩ := hr_13
      have hfd_14 : yK [38] d d_14 h0 := yK.tr hfd_1 hfad_14 (by decide)
      have hE0d_14 : (d_14.1 h0 0).toInt = (d_1.1 h0 0).toInt := congrArg Int32.toInt (hfad_14 0 (by decide))
      have hE1d_14 : (d_14.1 h0 1).toInt = (d_1.1 h0 1).toInt := congrArg Int32.toInt (hfad_14 1 (by decide))
      have hE2d_14 : (d_14.1 h0 2).toInt = (d_1.1 h0 2).toInt := congrArg Int32.toInt (hfad_14 2 (by decide))
      have hE3d_14 : (d_14.1 h0 3).toInt = (d_1.1 h0 3).toInt := congrArg Int32.toInt (hfad_14 3 (by decide))
      have hE63d_14 : (d_14.1 h0 63).toInt = (d_1.1 h0 63).toInt := congrArg Int32.toInt (hfad_14 63 (by decide))
      have hId_14 : yMI S d_14 h0 := yMI.ag hId_1 hSh hm_h0 hk_h0 hgad_14 hfad_14 (by decide) (by decide)
      have hgd_14 : yAg S [9, 41, 69] d d_14 := yAg.tr hgd_1 hgad_14 (by first | decide | exact fun _ h => h)
      have hPod_14 : yPo S d_14 := hpad_14 hPod_1
      refine lv_pop hx hb dX9_together_68 rfl ?_
      refine lv_iconst (v := 0) hx hb dX9_together_69 (by decide) ?_
      have hCC_15 := yMI.c hId_14
      have hz_ := zTg.fin hex_8.2 (Or.inr (by omega))
      exact W.zret (v := 0) (ty := .boolean) hx hb hr rfl (fun t ht hW => ⟨⟨0, d_14, rfl, ⟨hgd_14, (fun _ => hPod_14), hfd_14, ⟨hId_14, Or.inl ⟨by decide +kernel, hz_.elim (fun w => absurd w.1 (by omega)) (fun w => w.2)⟩, (zPf.tr (zPf.eq (hsd_1 _ (by rw [(ySh.f9_11 hSh h0 hm_h0 hk_h0).2]; decide)).2.2.2.2) (zPf.eq (hgad_14 _ (by rw [(ySh.f9_11 hSh h0 hm_h0 hk_h0).2]; decide)).2.2.2.2))⟩⟩, by rw [ht]; exact hP, hD⟩, hS.F ht⟩) hS.2.2 dX9_together_70
    · refine lv_iload_n hx hb dX9_together_28 rfl (lv_at hl 0 rfl) ?_
      refine lv_bipush (v := 8) hx hb dX9_together_29 (by decide) ?_
      refine lv_icmp_ge (tgt := 59) hx hb dX9_together_31 (by decide) (fun c_16 => ?_) (fun c_16 => ?_)
      · refine lv_iload_n hx hb dX9_together_59 rfl (lv_at hl 1 rfl) ?_
        refine lv_if_eq (tgt := 71) hx hb dX9_together_60 (by decide) (fun c_17 => ?_) (fun c_17 => absurd c_9 c_17)
        refine lv_iconst (v := 0) hx hb dX9_together_71 (by decide) ?_
        refine lv_istore_n (lv' := [(3, .int 0), (2, .int v_5), (0, .ref h0), (1, .int p0)]) hx hb dX9_together_72 rfl hl (by decide) rfl (fun ls hl => ?_)
        have F_18 := feq (rfl : (v_5 : Int32).toInt = (v_5 : Int32).toInt) (by decide +kernel : (0 : Int32).toInt = 0) c_9
        have F_19 := fle (by decide +kernel : (8 : Int32).toInt = 8) (rfl : (v_6 : Int32).toInt = (v_6 : Int32).toInt) c_16
        have F_20 := feq (rfl : (v_5 : Int32).toInt = (v_5 : Int32).toInt) (by decide +kernel : (0 : Int32).toInt = 0) c_17
        refine yloop (σ := Int32 × yD) (fun x => (2147483647 - (x.1 : Int32).toInt).toNat) 73 (fun x H locs ls => va_P G.1 xcl (yW G S x.2) H ∧ va_D A (yW G S x.2) ∧ va_S A s.heap H locs ∧ yAg S [9, 41, 69] d x.2 ∧ yPo S x.2 ∧ yK [38] d x.2 h0 ∧ yMI S x.2 h0 ∧ yAg S [41] d_1 x.2 ∧ yK [] d_1 x.2 h0 ∧ (zPf S d_1 x.2 h0 (fun _ => False) ∧ 0 ≤ (x.1 : Int32).toInt) ∧ lv_has ls 4 [(3, .int x.1), (0, .ref h0), (1, .int p0)]) (fun x H locs ls hI hnext_23 => ?_) (0, d_1) ⟨hP, hD, hS, hgd_1, hPod_1, hfd_1, hId_1, yAg.rf, yK.rf, ⟨zPf.eq rfl, (show 0 ≤ (0 : Int32).toInt by decide)⟩, lv_sub hl [0, 2, 3] rfl⟩
        obtain ⟨v_21, d_22⟩ := x
        obtain ⟨hP, hD, hS, hgd_22, hPod_22, hfd_22, hId_22, hLJd_22, hKJd_22, hex_24, hl⟩ := hI
        have hId_22 : yMI S d_22 h0 := hId_22
        have hex_24 : (zPf S d_1 d_22 h0 (fun _ => False) ∧ 0 ≤ (v_21 : Int32).toInt) := hex_24
        have hl : lv_has ls 4 [(3, .int v_21), (0, .ref h0), (1, .int p0)] := hl
        have hLJd_22 : yAg S [41] d_1 d_22 := hLJd_22
        have hKJd_22 : yK [] d_1 d_22 h0 := hKJd_22
        have hE0d_22 : (d_22.1 h0 0).toInt = (d_1.1 h0 0).toInt := congrArg Int32.toInt (hKJd_22 0 (by decide))
        have hE1d_22 : (d_22.1 h0 1).toInt = (d_1.1 h0 1).toInt := congrArg Int32.toInt (hKJd_22 1 (by decide))
        have hE2d_22 : (d_22.1 h0 2).toInt = (d_1.1 h0 2).toInt := congrArg Int32.toInt (hKJd_22 2 (by decide))
        have hE3d_22 : (d_22.1 h0 3).toInt = (d_1.1 h0 3).toInt := congrArg Int32.toInt (hKJd_22 3 (by decide))
        have hE63d_22 : (d_22.1 h0 63).toInt = (d_1.1 h0 63).toInt := congrArg Int32.toInt (hKJd_22 63 (by decide))
        have hxr_ := hex_24.2
        refine lv_iload_n hx hb dX9_together_73 rfl (lv_at hl 0 rfl) ?_
        refine lv_bipush (v := 8) hx hb dX9_together_74 (by decide) ?_
        refine lv_icmp_ge (tgt := 114) hx hb dX9_together_76 (by decide) (fun c_25 => ?_) (fun c_25 => ?_)
        · refine lv_iconst (v := 1) hx hb dX9_together_114 (by decide) ?_
          have hCC_26 := yMI.c hId_22
          have F_27 := fle (by decide +kernel : (8 : Int32).toInt = 8) (rfl : (v_21 : Int32).toInt = (v_21 : Int32).toInt) c_25
          have hz_ := zTg.fin hex_8.2 (Or.inl c_16)
          exact W.zret (v := 1) (ty := .boolean) hx hb hr rfl (fun t ht hW => ⟨⟨1, d_22, rfl, ⟨hgd_22, (fun _ => hPod_22), hfd_22, ⟨hId_22, Or.inr ⟨by decide +kernel, hz_.elim (fun w => w.2) (fun w => absurd (show (v_5 : Int32).toInt = 0 from by omega) w.1)⟩, zPf.tr (zPf.eq (hsd_1 _ (by rw [(ySh.f9_11 hSh h0 hm_h0 hk_h0).2]; decide)).2.2.2.2) hex_24.1⟩⟩, by rw [ht]; exact hP, hD⟩, hS.F ht⟩) hS.2.2 dX9_together_115
        · refine lv_aload_n hx hb dX9_together_79 rfl (lv_at hl 1 rfl) ?_
          refine yget (ci := 9) (k := 11) (v := .ref (S.2.2.1 h0 11)) (C := RX9) (T := TX9) (N := 67) C0 hK hP hm_h0 hk_h0 (by decide) rfl inlX9 (by decide) mW116 (fun _ h9 => h9) rfl dX9_together_80 ?_
          obtain ⟨hmy_28, hky_28⟩ := ySh.f9_11 hSh _ hm_h0 hk_h0
          refine lv_bipush (v := 12) hx hb dX9_together_83 (by decide) ?_
          refine lv_iload_n hx hb dX9_together_85 rfl (lv_at hl 0 rfl) ?_
          refine lv_imul hx hb dX9_together_86 ?_
          refine lv_topi (fun z_29 ez_29 => ?_)
          refine lv_bipush (v := 10) hx hb dX9_together_87 (by decide) ?_
          refine lv_iadd hx hb dX9_together_89 ?_
          refine lv_topi (fun z_30 ez_30 => ?_)
          refine lv_iload_n hx hb dX9_together_90 rfl (lv_at hl 2 rfl) ?_
          refine lv_iload_n hx hb dX9_together_91 rfl (lv_at hl 0 rfl) ?_
          refine lv_ishr hx hb dX9_together_92 ?_
          refine lv_topi (fun z_31 ez_31 => ?_)
          refine lv_iconst (v := 1) hx hb dX9_together_93 (by decide) ?_
          refine lv_iand hx hb dX9_together_94 ?_
          refine lv_topi (fun z_32 ez_32 => ?_)
          refine lv_iconst (v := 1) hx hb dX9_together_95 (by decide) ?_
          refine lv_icmp_ne (tgt := 104) hx hb dX9_together_96 (by decide) (fun c_33 => ?_) (fun c_33 => ?_)
          · refine lv_lconst (v := 1) hx hb dX9_together_104 (by decide) ?_
            refine lv_iload_n hx hb dX9_together_105 rfl (lv_at hl 0 rfl) ?_
            refine lv_lshl hx hb dX9_together_106 rfl ?_
            refine lv_topl (fun z_34 ez_34 => ?_)
            have hCC_35 := yMI.c hId_22
            have F_36 := fnle (by decide +kernel : (8 : Int32).toInt = 8) (rfl : (v_21 : Int32).toInt = (v_21 : Int32).toInt) c_25
            have F_38 := fne (rfl : (z_32 : Int32).toInt = (z_32 : Int32).toInt) (by decide +kernel : (1 : Int32).toInt = 1) c_33
            have T_40 : (z_29 : Int32).toInt = 12 * (v_21 : Int32).toInt := tmul ez_29 (by decide +kernel : (12 : Int32).toInt = 12) (rfl : (v_21 : Int32).toInt = (v_21 : Int32).toInt) (by omega) (by omega)
            have T_39 : (z_30 : Int32).toInt = (z_29 : Int32).toInt + 10 := tadd ez_30 (rfl : (z_29 : Int32).toInt = (z_29 : Int32).toInt) (by decide +kernel : (10 : Int32).toInt = 10) (by omega) (by omega)
            refine yastJ C0 hK hP hD hS hmy_28 hky_28 (by decide) rfl 4 rfl (xinT 96 rfl (by omega) (by omega)) dX9_together_107 (fun H locs hP hD hS => ?_)
            obtain ⟨d_41, ed_41⟩ : ∃ z : yD, z = ye d_22 (S.2.2.1 h0 11) (z_30 : Int32).toNatClampNeg z_34 := ⟨_, rfl⟩
            rw [← ed_41] at hP hD
            have hgd_41 : yAg S [9, 41, 69] d d_41 := by rw [ed_41]; exact yAg.e hgd_22 (by rw [hky_28]; decide)
            have hsd_41 : yAg S [41] d_22 d_41 := by rw [ed_41]; exact yAg.e yAg.rf (by rw [hky_28]; decide)
            have hPod_41 : yPo S d_41 := by rw [ed_41]; exact hPod_22
            have hfd_41 : yK [38] d d_41 h0 := yK.ag hfd_22 (show yAg S [41] d_22 d_41 from by rw [ed_41]; exact yAg.e yAg.rf (by rw [hky_28]; decide)) (by rw [hk_h0]; decide)
            have hL0d_41 : yAg S [41] d_1 d_41 := by rw [ed_41]; exact yAg.e hLJd_22 (by rw [hky_28]; decide)
            have hK0d_41 : yK [] d_1 d_41 h0 := yK.ag hKJd_22 (show yAg S [41] d_22 d_41 from by rw [ed_41]; exact yAg.e yAg.rf (by rw [hky_28]; decide)) (by rw [hk_h0]; decide)
            have hId_41 : yMI S d_41 h0 := by rw [ed_41]; exact yMI.w11 hId_22 hSh hm_h0 hk_h0 (yBp.up (yMI.bp_ hId_22) (fun p hp e => by have e_ : (z_30 : Int32).toInt.toNat = 12 * p + 1 := e; refine ⟨?_, ?_⟩ <;> omega) (fun p hp e => by have e_ : (z_30 : Int32).toInt.toNat = 12 * p + 2 := e; refine ⟨?_, ?_⟩ <;> omega) (fun p hp e => by have e_ : (z_30 : Int32).toInt.toNat = 12 * p + 6 := e; refine ⟨?_, ?_⟩ <;> omega))
            have hE0d_41 : (d_41.1 h0 0).toInt = (d_22.1 h0 0).toInt := congrArg Int32.toInt ((yK.ag (F := []) yK.rf (show yAg S [41] d_22 d_41 from by rw [ed_41]; exact yAg.e yAg.rf (by rw [hky_28]; decide)) (by rw [hk_h0]; decide)) 0 (by decide))
            have hE1d_41 : (d_41.1 h0 1).toInt = (d_22.1 h0 1).toInt := congrArg Int32.toInt ((yK.ag (F := []) yK.rf (show yAg S [41] d_22 d_41 from by rw [ed_41]; exact yAg.e yAg.rf (by rw [hky_28]; decide)) (by rw [hk_h0]; decide)) 1 (by decide))
            have hE2d_41 : (d_41.1 h0 2).toInt = (d_22.1 h0 2).toInt := congrArg Int32.toInt ((yK.ag (F := []) yK.rf (show yAg S [41] d_22 d_41 from by rw [ed_41]; exact yAg.e yAg.rf (by rw [hky_28]; decide)) (by rw [hk_h0]; decide)) 2 (by decide))
            have hE3d_41 : (d_41.1 h0 3).toInt = (d_22.1 h0 3).toInt := congrArg Int32.toInt ((yK.ag (F := []) yK.rf (show yAg S [41] d_22 d_41 from by rw [ed_41]; exact yAg.e yAg.rf (by rw [hky_28]; decide)) (by rw [hk_h0]; decide)) 3 (by decide))
            have hE63d_41 : (d_41.1 h0 63).toInt = (d_22.1 h0 63).toInt := congrArg Int32.toInt ((yK.ag (F := []) yK.rf (show yAg S [41] d_22 d_41 from by rw [ed_41]; exact yAg.e yAg.rf (by rw [hky_28]; decide)) (by rw [hk_h0]; decide)) 63 (by decide))
            refine lv_iinc (v := v_21 + 1) (lv' := [(3, .int (v_21 + 1)), (0, .ref h0), (1, .int p0)]) hx hb dX9_together_108 hl (k := 0) rfl rfl (by decide) rfl (fun ls hl => ?_)
            refine lv_goto (tgt := 73) hx hb dX9_together_111 (by decide) ?_
            have hCC_43 := yMI.c hId_41
            have T_44 : ((v_21 + 1) : Int32).toInt = (v_21 : Int32).toInt + 1 := tadd rfl (rfl : (v_21 : Int32).toInt = (v_21 : Int32).toInt) (by decide +kernel : (1 : Int32).toInt = 1) (by omega) (by omega)
            exact hnext_23 (v_21 + 1, d_41) _ _ ls (xup c_25) ⟨hP, hD, hS, hgd_41, hPod_41, hfd_41, hId_41, hL0d_41, hK0d_41, ⟨zPf.tr hex_24.1 (zPf.up ed_41 (fun q => by have e_ : (z_30 : Int32).toInt.toNat = (z_30 : Int32).toNatClampNeg := rfl; omega)), (show 0 ≤ (v_21 + 1 : Int32).toInt from by omega)⟩, lv_sub hl [0, 1, 2] rfl⟩
          · refine lv_iload_n hx hb dX9_together_99 rfl (lv_at hl 2 rfl) ?_
            refine lv_i2l hx hb dX9_together_100 rfl ?_
            refine lv_topl (fun z_45 ez_45 => ?_)
            refine lv_goto (tgt := 107) hx hb dX9_together_101 (by decide) ?_
            have hCC_46 := yMI.c hId_22
            have F_47 := fnle (by decide +kernel : (8 : Int32).toInt = 8) (rfl : (v_21 : Int32).toInt = (v_21 : Int32).toInt) c_25
            have F_49 := feq (rfl : (z_32 : Int32).toInt = (z_32 : Int32).toInt) (by decide +kernel : (1 : Int32).toInt = 1) c_33
            have T_51 : (z_29 : Int32).toInt = 12 * (v_21 : Int32).toInt := tmul ez_29 (by decide +kernel : (12 : Int32).toInt = 12) (rfl : (v_21 : Int32).toInt = (v_21 : Int32).toInt) (by omega) (by omega)
            have T_50 : (z_30 : Int32).toInt = (z_29 : Int32).toInt + 10 := tadd ez_30 (rfl : (z_29 : Int32).toInt = (z_29 : Int32).toInt) (by decide +kernel : (10 : Int32).toInt = 10) (by omega) (by omega)
            refine yastJ C0 hK hP hD hS hmy_28 hky_28 (by decide) rfl 4 rfl (xinT 96 rfl (by omega) (by omega)) dX9_together_107 (fun H locs hP hD hS => ?_)
            obtain ⟨d_52, ed_52⟩ : ∃ z : yD, z = ye d_22 (S.2.2.1 h0 11) (z_30 : Int32).toNatClampNeg z_45 := ⟨_, rfl⟩
            rw [← ed_52] at hP hD
            have hgd_52 : yAg S [9, 41, 69] d d_52 := by rw [ed_52]; exact yAg.e hgd_22 (by rw [hky_28]; decide)
            have hsd_52 : yAg S [41] d_22 d_52 := by rw [ed_52]; exact yAg.e yAg.rf (by rw [hky_28]; decide)
            have hPod_52 : yPo S d_52 := by rw [ed_52]; exact hPod_22
            have hfd_52 : yK [38] d d_52 h0 := yK.ag hfd_22 (show yAg S [41] d_22 d_52 from by rw [ed_52]; exact yAg.e yAg.rf (by rw [hky_28]; decide)) (by rw [hk_h0]; decide)
            have hL0d_52 : yAg S [41] d_1 d_52 := by rw [ed_52]; exact yAg.e hLJd_22 (by rw [hky_28]; decide)
            have hK0d_52 : yK [] d_1 d_52 h0 := yK.ag hKJd_22 (show yAg S [41] d_22 d_52 from by rw [ed_52]; exact yAg.e yAg.rf (by rw [hky_28]; decide)) (by rw [hk_h0]; decide)
            have T_53 : (z_45 : Int64).toInt = (p0 : Int32).toInt := by rw [ez_45, Int32.toInt_toInt64]
            have hId_52 : yMI S d_52 h0 := by rw [ed_52]; exact yMI.w11 hId_22 hSh hm_h0 hk_h0 (yBp.up (yMI.bp_ hId_22) (fun p hp e => by have e_ : (z_30 : Int32).toInt.toNat = 12 * p + 1 := e; refine ⟨?_, ?_⟩ <;> omega) (fun p hp e => by have e_ : (z_30 : Int32).toInt.toNat = 12 * p + 2 := e; refine ⟨?_, ?_⟩ <;> omega) (fun p hp e => by have e_ : (z_30 : Int32).toInt.toNat = 12 * p + 6 := e; refine ⟨?_, ?_⟩ <;> omega))
            have hE0d_52 : (d_52.1 h0 0).toInt = (d_22.1 h0 0).toInt := congrArg Int32.toInt ((yK.ag (F := []) yK.rf (show yAg S [41] d_22 d_52 from by rw [ed_52]; exact yAg.e yAg.rf (by rw [hky_28]; decide)) (by rw [hk_h0]; decide)) 0 (by decide))
            have hE1d_52 : (d_52.1 h0 1).toInt = (d_22.1 h0 1).toInt := congrArg Int32.toInt ((yK.ag (F := []) yK.rf (show yAg S [41] d_22 d_52 from by rw [ed_52]; exact yAg.e yAg.rf (by rw [hky_28]; decide)) (by rw [hk_h0]; decide)) 1 (by decide))
            have hE2d_52 : (d_52.1 h0 2).toInt = (d_22.1 h0 2).toInt := congrArg Int32.toInt ((yK.ag (F := []) yK.rf (show yAg S [41] d_22 d_52 from by rw [ed_52]; exact yAg.e yAg.rf (by rw [hky_28]; decide)) (by rw [hk_h0]; decide)) 2 (by decide))
            have hE3d_52 : (d_52.1 h0 3).toInt = (d_22.1 h0 3).toInt := congrArg Int32.toInt ((yK.ag (F := []) yK.rf (show yAg S [41] d_22 d_52 from by rw [ed_52]; exact yAg.e yAg.rf (by rw [hky_28]; decide)) (by rw [hk_h0]; decide)) 3 (by decide))
            have hE63d_52 : (d_52.1 h0 63).toInt = (d_22.1 h0 63).toInt := congrArg Int32.toInt ((yK.ag (F := []) yK.rf (show yAg S [41] d_22 d_52 from by rw [ed_52]; exact yAg.e yAg.rf (by rw [hky_28]; decide)) (by rw [hk_h0]; decide)) 63 (by decide))
            refine lv_iinc (v := v_21 + 1) (lv' := [(3, .int (v_21 + 1)), (0, .ref h0), (1, .int p0)]) hx hb dX9_together_108 hl (k := 0) rfl rfl (by decide) rfl (fun ls hl => ?_)
            refine lv_goto (tgt := 73) hx hb dX9_together_111 (by decide) ?_
            have hCC_55 := yMI.c hId_52
            have T_56 : ((v_21 + 1) : Int32).toInt = (v_21 : Int32).toInt + 1 := tadd rfl (rfl : (v_21 : Int32).toInt = (v_21 : Int32).toInt) (by decide +kernel : (1 : Int32).toInt = 1) (by omega) (by omega)
            exact hnext_23 (v_21 + 1, d_52) _ _ ls (xup c_25) ⟨hP, hD, hS, hgd_52, hPod_52, hfd_52, hId_52, hL0d_52, hK0d_52, ⟨zPf.tr hex_24.1 (zPf.up ed_52 (fun q => by have e_ : (z_30 : Int32).toInt.toNat = (z_30 : Int32).toNatClampNeg := rfl; omega)), (show 0 ≤ (v_21 + 1 : Int32).toInt from by omega)⟩, lv_sub hl [0, 1, 2] rfl⟩
      · refine lv_iload_n hx hb dX9_together_34 rfl (lv_at hl 3 rfl) ?_
        refine lv_iload_n hx hb dX9_together_35 rfl (lv_at hl 0 rfl) ?_
        refine lv_ishr hx hb dX9_together_36 ?_
        refine lv_topi (fun z_57 ez_57 => ?_)
        refine lv_iconst (v := 1) hx hb dX9_together_37 (by decide) ?_
        refine lv_iand hx hb dX9_together_38 ?_
        refine lv_topi (fun z_58 ez_58 => ?_)
        refine lv_iconst (v := 1) hx hb dX9_together_39 (by decide) ?_
        refine lv_icmp_ne (tgt := 53) hx hb dX9_together_40 (by decide) (fun c_59 => ?_) (fun c_59 => ?_)
        · refine lv_iinc (v := v_6 + 1) (lv' := [(3, .int (v_6 + 1)), (2, .int v_5), (0, .ref h0), (1, .int p0)]) hx hb dX9_together_53 hl (k := 0) rfl rfl (by decide) rfl (fun ls hl => ?_)
          refine lv_goto (tgt := 24) hx hb dX9_together_56 (by decide) ?_
          have hk0_ : 0 ≤ (v_6 : Int32).toInt := hex_8.2.1
          have F_61 := feq (rfl : (v_5 : Int32).toInt = (v_5 : Int32).toInt) (by decide +kernel : (0 : Int32).toInt = 0) c_9
          have F_62 := fnle (by decide +kernel : (8 : Int32).toInt = 8) (rfl : (v_6 : Int32).toInt = (v_6 : Int32).toInt) c_16
          have F_64 := fne (rfl : (z_58 : Int32).toInt = (z_58 : Int32).toInt) (by decide +kernel : (1 : Int32).toInt = 1) c_59
          have T_65 : ((v_6 + 1) : Int32).toInt = (v_6 : Int32).toInt + 1 := tadd rfl (rfl : (v_6 : Int32).toInt = (v_6 : Int32).toInt) (by decide +kernel : (1 : Int32).toInt = 1) (by omega) (by omega)
          exact hnext_7 (v_5, v_6 + 1) ls (xup c_16) ⟨⟨(show 0 ≤ (v_5 : Int32).toInt ∧ (v_5 : Int32).toInt ≤ 5 ∧ 0 ≤ (v_6 + 1 : Int32).toInt from by have hq0_ : (0 : Int32).toInt = 0 := (by decide +kernel); omega), zTg.no hex_8.2 c_16 (by omega) (fun q => c_59 (by rw [ez_58, ez_57]; exact q))⟩, (lv_sub hl [0, 1, 2, 3] rfl)⟩
        · refine lv_aload_n hx hb dX9_together_43 rfl (lv_at hl 2 rfl) ?_
          refine lv_iload_n hx hb dX9_together_44 rfl (lv_at hl 0 rfl) ?_
          refine yVri (As := [.int v_6]) (rest := []) C0 (g_X9_isOpen l G S d_1 h0 v_6 hSh hm_h0 hk_h0) ok_X9_isOpen (mW391 : Cond.methodLink RX9 157 yX9_isOpen ∈ wsT) ⟨Nat.le_of_ble_eq_true rfl, Nat.le_of_ble_eq_true rfl⟩ hP hD hK hN hm_h0 hk_h0 (by decide) rfl rfl rfl hl.1 rfl (Nat.le_of_ble_eq_true rfl) ⟨Nat.le_of_ble_eq_true rfl, Nat.le_of_ble_eq_true rfl⟩ dX9_together_45 (fun r_66 hr_66 => ?_)
          refine lv_if_ne (tgt := 53) hx hb dX9_together_48 (by decide) (fun c_67 => ?_) (fun c_67 => ?_)
          · refine lv_iinc (v := v_6 + 1) (lv' := [(3, .int (v_6 + 1)), (2, .int v_5), (0, .ref h0), (1, .int p0)]) hx hb dX9_together_53 hl (k := 0) rfl rfl (by decide) rfl (fun ls hl => ?_)
            refine lv_goto (tgt := 24) hx hb dX9_together_56 (by decide) ?_
            have hrf_69 : d_1.2.2.2.2 (S.2.2.1 h0 11) = d.2.2.2.2 (S.2.2.1 h0 11) := (hsd_1 _ (by rw [(ySh.f9_11 hSh h0 hm_h0 hk_h0).2]; decide)).2.2.2.2
            have hrf_69a : yOI S d_1 h0 (v_6 : Int32).toInt.toNat = yOI S d h0 (v_6 : Int32).toInt.toNat := by unfold yOI; rw [hrf_69]
            have hrf_69b : yOf S d_1 h0 (v_6 : Int32).toInt.toNat 2 = yOf S d h0 (v_6 : Int32).toInt.toNat 2 := by unfold yOf; rw [hrf_69]
            have hk0_ : 0 ≤ (v_6 : Int32).toInt := hex_8.2.1
            have F_70 := feq (rfl : (v_5 : Int32).toInt = (v_5 : Int32).toInt) (by decide +kernel : (0 : Int32).toInt = 0) c_9
            have F_71 := fnle (by decide +kernel : (8 : Int32).toInt = 8) (rfl : (v_6 : Int32).toInt = (v_6 : Int32).toInt) c_16
            have F_73 := feq (rfl : (z_58 : Int32).toInt = (z_58 : Int32).toInt) (by decide +kernel : (1 : Int32).toInt = 1) c_59
            have F_74 := fne (rfl : (r_66 : Int32).toInt = (r_66 : Int32).toInt) (by decide +kernel : (0 : Int32).toInt = 0) c_67
            have T_75 : ((v_6 + 1) : Int32).toInt = (v_6 : Int32).toInt + 1 := tadd rfl (rfl : (v_6 : Int32).toInt = (v_6 : Int32).toInt) (by decide +kernel : (1 : Int32).toInt = 1) (by omega) (by omega)
            exact hnext_7 (v_5, v_6 + 1) ls (xup c_16) ⟨⟨(show 0 ≤ (v_5 : Int32).toInt ∧ (v_5 : Int32).toInt ≤ 5 ∧ 0 ≤ (v_6 + 1 : Int32).toInt from by have hq0_ : (0 : Int32).toInt = 0 := (by decide +kernel); omega), zTg.yes hex_8.2 c_16 (by omega) (show zB p0 v_6 from by have h := c_59; rw [ez_58, ez_57] at h; exact h) (show ((v_5 : Int32).toInt = 0 ∧ yOI S d h0 ((v_6 : Int32)).toInt.toNat = 1) ∨ ((v_5 : Int32).toInt ≠ 0 ∧ ¬ yOI S d h0 ((v_6 : Int32)).toInt.toNat = 1) from by omega)⟩, (lv_sub hl [0, 1, 2, 3] rfl)⟩
          · refine lv_iconst (v := 2) hx hb dX9_together_51 (by decide) ?_
            refine lv_istore_n (lv' := [(2, .int 2), (3, .int v_6), (0, .ref h0), (1, .int p0)]) hx hb dX9_together_52 rfl hl (by decide) rfl (fun ls hl => ?_)
            refine lv_iinc (v := v_6 + 1) (lv' := [(3, .int (v_6 + 1)), (2, .int 2), (0, .ref h0), (1, .int p0)]) hx hb dX9_together_53 hl (k := 1) rfl rfl (by decide) rfl (fun ls hl => ?_)
            refine lv_goto (tgt := 24) hx hb dX9_together_56 (by decide) ?_
            have hrf_77 : d_1.2.2.2.2 (S.2.2.1 h0 11) = d.2.2.2.2 (S.2.2.1 h0 11) := (hsd_1 _ (by rw [(ySh.f9_11 hSh h0 hm_h0 hk_h0).2]; decide)).2.2.2.2
            have hrf_77a : yOI S d_1 h0 (v_6 : Int32).toInt.toNat = yOI S d h0 (v_6 : Int32).toInt.toNat := by unfold yOI; rw [hrf_77]
            have hrf_77b : yOf S d_1 h0 (v_6 : Int32).toInt.toNat 2 = yOf S d h0 (v_6 : Int32).toInt.toNat 2 := by unfold yOf; rw [hrf_77]
            have hk0_ : 0 ≤ (v_6 : Int32).toInt := hex_8.2.1
            have F_78 := feq (rfl : (v_5 : Int32).toInt = (v_5 : Int32).toInt) (by decide +kernel : (0 : Int32).toInt = 0) c_9
            have F_79 := fnle (by decide +kernel : (8 : Int32).toInt = 8) (rfl : (v_6 : Int32).toInt = (v_6 : Int32).toInt) c_16
            have F_81 := feq (rfl : (z_58 : Int32).toInt = (z_58 : Int32).toInt) (by decide +kernel : (1 : Int32).toInt = 1) c_59
            have F_82 := feq (rfl : (r_66 : Int32).toInt = (r_66 : Int32).toInt) (by decide +kernel : (0 : Int32).toInt = 0) c_67
            have T_83 : ((v_6 + 1) : Int32).toInt = (v_6 : Int32).toInt + 1 := tadd rfl (rfl : (v_6 : Int32).toInt = (v_6 : Int32).toInt) (by decide +kernel : (1 : Int32).toInt = 1) (by omega) (by omega)
            exact hnext_7 (2, v_6 + 1) ls (xup c_16) ⟨⟨(show 0 ≤ (2 : Int32).toInt ∧ (2 : Int32).toInt ≤ 5 ∧ 0 ≤ (v_6 + 1 : Int32).toInt from by have hl0_ : (2 : Int32).toInt = 2 := (by decide +kernel); have hq0_ : (0 : Int32).toInt = 0 := (by decide +kernel); omega), zTg.yes hex_8.2 c_16 (by omega) (show zB p0 v_6 from by have h := c_59; rw [ez_58, ez_57] at h; exact h) (show ((2 : Int32).toInt = 0 ∧ yOI S d h0 ((v_6 : Int32)).toInt.toNat = 1) ∨ ((2 : Int32).toInt ≠ 0 ∧ ¬ yOI S d h0 ((v_6 : Int32)).toInt.toNat = 1) from by have hl0_ : (2 : Int32).toInt = 2 := (by decide +kernel); omega)⟩, (lv_sub hl [0, 1, 2, 3] rfl)⟩
  · refine lv_iload_n hx hb dX9_together_9 rfl (lv_at hl 1 rfl) ?_
    refine lv_sipush (v := 255) hx hb dX9_together_10 (by decide) ?_
    refine lv_icmp_le (tgt := 20) hx hb dX9_together_13 (by decide) (fun c_84 => ?_) (fun c_84 => ?_)
    · refine lv_iconst (v := 0) hx hb dX9_together_20 (by decide) ?_
      refine lv_istore_n (lv' := [(2, .int 0), (0, .ref h0), (1, .int p0)]) hx hb dX9_together_21 rfl hl (by decide) rfl (fun ls hl => ?_)
      refine lv_iconst (v := 0) hx hb dX9_together_22 (by decide) ?_
      refine lv_istore_n (lv' := [(3, .int 0), (2, .int 0), (0, .ref h0), (1, .int p0)]) hx hb dX9_together_23 rfl hl (by decide) rfl (fun ls hl => ?_)
      have hCC_85 := yMI.c hId_1
      have F_86 := fnlt (rfl : (p0 : Int32).toInt = (p0 : Int32).toInt) (by decide +kernel : (0 : Int32).toInt = 0) c_2
      have F_87 := fle (rfl : (p0 : Int32).toInt = (p0 : Int32).toInt) (by decide +kernel : (255 : Int32).toInt = 255) c_84
      refine yloopR (σ := Int32 × Int32) (fun x => (2147483647 - (x.2 : Int32).toInt).toNat) 24 (fun x ls => (((0 ≤ (x.1 : Int32).toInt ∧ (x.1 : Int32).toInt ≤ 5 ∧ 0 ≤ (x.2 : Int32).toInt) ∧ zTg p0 (fun j => yOI S d h0 (j).toInt.toNat = 1) x.1 x.2)) ∧ lv_has ls 4 [(3, .int x.2), (2, .int x.1), (0, .ref h0), (1, .int p0)]) (fun x ls hl hnext_90 => ?_) (0, 0) ⟨⟨(show 0 ≤ (0 : Int32).toInt ∧ (0 : Int32).toInt ≤ 5 ∧ 0 ≤ (0 : Int32).toInt from by have hl0_ : (0 : Int32).toInt = 0 := (by decide +kernel); have hl1_ : (0 : Int32).toInt = 0 := (by decide +kernel); have hq0_ : (0 : Int32).toInt = 0 := (by decide +kernel); omega), (show zTg p0 (fun j => yOI S d h0 (j).toInt.toNat = 1) 0 0 from zTg.ini (by have hl0_ : (0 : Int32).toInt = 0 := (by decide +kernel); have hl1_ : (0 : Int32).toInt = 0 := (by decide +kernel); omega))⟩, lv_sub hl [0, 1, 2, 3] rfl⟩
      obtain ⟨v_88, v_89⟩ := x
      obtain ⟨hex_91, hl⟩ := hl
      have hex_91 : (((0 ≤ (v_88 : Int32).toInt ∧ (v_88 : Int32).toInt ≤ 5 ∧ 0 ≤ (v_89 : Int32).toInt) ∧ zTg p0 (fun j => yOI S d h0 (j).toInt.toNat = 1) v_88 v_89)) := hex_91
      have hl : lv_has ls 4 [(3, .int v_89), (2, .int v_88), (0, .ref h0), (1, .int p0)] := hl
      refine lv_iload_n hx hb dX9_together_24 rfl (lv_at hl 1 rfl) ?_
      refine lv_if_ne (tgt := 59) hx hb dX9_together_25 (by decide) (fun c_92 => ?_) (fun c_92 => ?_)
      · refine lv_iload_n hx hb dX9_together_59 rfl (lv_at hl 1 rfl) ?_
        refine lv_if_eq (tgt := 71) hx hb dX9_together_60 (by decide) (fun c_93 => absurd c_93 c_92) (fun c_93 => ?_)
        refine lv_aload_n hx hb dX9_together_63 rfl (lv_at hl 2 rfl) ?_
        refine lv_iload_n hx hb dX9_together_64 rfl (lv_at hl 1 rfl) ?_
        have F_94 := fne (rfl : (v_88 : Int32).toInt = (v_88 : Int32).toInt) (by decide +kernel : (0 : Int32).toInt = 0) c_92
        have F_95 := fne (rfl : (v_88 : Int32).toInt = (v_88 : Int32).toInt) (by decide +kernel : (0 : Int32).toInt = 0) c_93
        refine yVwi (As := [.int v_88]) (rest := []) C0 (g_X9_no l G S d_1 h0 v_88 hSh hPod_1 hm_h0 hk_h0 (by refine ⟨?_, ?_⟩ <;> omega)) ok_X9_no (mW177 : Cond.methodLink RX9 168 yX9_no ∈ wsT) ⟨Nat.le_of_ble_eq_true rfl, Nat.le_of_ble_eq_true rfl⟩ hP hD hS hA hK hN hm_h0 hk_h0 (by decide) rfl rfl rfl hl.1 rfl (Nat.le_of_ble_eq_true rfl) ⟨Nat.le_of_ble_eq_true rfl, Nat.le_of_ble_eq_true rfl⟩ dX9_together_65 (fun r_96 d_97 H locs hr_96 hP hD hS => ?_)
        obtain ⟨hgad_97, hpad_97, hfad_97, hxd_97⟩ := hr_96
        have hfd_97 : yK [38] d d_97 h0 := yK.tr hfd_1 hfad_97 (by decide)
        have hE0d_97 : (d_97.1 h0 0).toInt = (d_1.1 h0 0).toInt := congrArg Int32.toInt (hfad_97 0 (by decide))
        have hE1d_97 : (d_97.1 h0 1).toInt = (d_1.1 h0 1).toInt := congrArg Int32.toInt (hfad_97 1 (by decide))
        have hE2d_97 : (d_97.1 h0 2).toInt = (d_1.1 h0 2).toInt := congrArg Int32.toInt (hfad_97 2 (by decide))
        have hE3d_97 : (d_97.1 h0 3).toInt = (d_1.1 h0 3).toInt := congrArg Int32.toInt (hfad_97 3 (by decide))
        have hE63d_97 : (d_97.1 h0 63).toInt = (d_1.1 h0 63).toInt := congrArg Int32.toInt (hfad_97 63 (by decide))
        have hId_97 : yMI S d_97 h0 := yMI.ag hId_1 hSh hm_h0 hk_h0 hgad_97 hfad_97 (by decide) (by decide)
        have hgd_97 : yAg S [9, 41, 69] d d_97 := yAg.tr hgd_1 hgad_97 (by first | decide | exact fun _ h => h)
        have hPod_97 : yPo S d_97 := hpad_97 hPod_1
        refine lv_pop hx hb dX9_together_68 rfl ?_
        refine lv_iconst (v := 0) hx hb dX9_together_69 (by decide) ?_
        have hCC_98 := yMI.c hId_97
        have hz_ := zTg.fin hex_91.2 (Or.inr (by omega))
        exact W.zret (v := 0) (ty := .boolean) hx hb hr rfl (fun t ht hW => ⟨⟨0, d_97, rfl, ⟨hgd_97, (fun _ => hPod_97), hfd_97, ⟨hId_97, Or.inl ⟨by decide +kernel, hz_.elim (fun w => absurd w.1 (by omega)) (fun w => w.2)⟩, (zPf.tr (zPf.eq (hsd_1 _ (by rw [(ySh.f9_11 hSh h0 hm_h0 hk_h0).2]; decide)).2.2.2.2) (zPf.eq (hgad_97 _ (by rw [(ySh.f9_11 hSh h0 hm_h0 hk_h0).2]; decide)).2.2.2.2))⟩⟩, by rw [ht]; exact hP, hD⟩, hS.F ht⟩) hS.2.2 dX9_together_70
      · refine lv_iload_n hx hb dX9_together_28 rfl (lv_at hl 0 rfl) ?_
        refine lv_bipush (v := 8) hx hb dX9_together_29 (by decide) ?_
        refine lv_icmp_ge (tgt := 59) hx hb dX9_together_31 (by decide) (fun c_99 => ?_) (fun c_99 => ?_)
        · refine lv_iload_n hx hb dX9_together_59 rfl (lv_at hl 1 rfl) ?_
          refine lv_if_eq (tgt := 71) hx hb dX9_together_60 (by decide) (fun c_100 => ?_) (fun c_100 => absurd c_92 c_100)
          refine lv_iconst (v := 0) hx hb dX9_together_71 (by decide) ?_
          refine lv_istore_n (lv' := [(3, .int 0), (2, .int v_88), (0, .ref h0), (1, .int p0)]) hx hb dX9_together_72 rfl hl (by decide) rfl (fun ls hl => ?_)
          have F_101 := feq (rfl : (v_88 : Int32).toInt = (v_88 : Int32).toInt) (by decide +kernel : (0 : Int32).toInt = 0) c_92
          have F_102 := fle (by decide +kernel : (8 : Int32).toInt = 8) (rfl : (v_89 : Int32).toInt = (v_89 : Int32).toInt) c_99
          have F_103 := feq (rfl : (v_88 : Int32).toInt = (v_88 : Int32).toInt) (by decide +kernel : (0 : Int32).toInt = 0) c_100
          refine yloop (σ := Int32 × yD) (fun x => (2147483647 - (x.1 : Int32).toInt).toNat) 73 (fun x H locs ls => va_P G.1 xcl (yW G S x.2) H ∧ va_D A (yW G S x.2) ∧ va_S A s.heap H locs ∧ yAg S [9, 41, 69] d x.2 ∧ yPo S x.2 ∧ yK [38] d x.2 h0 ∧ yMI S x.2 h0 ∧ yAg S [41] d_1 x.2 ∧ yK [] d_1 x.2 h0 ∧ (zPf S d_1 x.2 h0 (fun _ => False) ∧ 0 ≤ (x.1 : Int32).toInt) ∧ lv_has ls 4 [(3, .int x.1), (0, .ref h0), (1, .int p0)]) (fun x H locs ls hI hnext_106 => ?_) (0, d_1) ⟨hP, hD, hS, hgd_1, hPod_1, hfd_1, hId_1, yAg.rf, yK.rf, ⟨zPf.eq rfl, (show 0 ≤ (0 : Int32).toInt by decide)⟩, lv_sub hl [0, 2, 3] rfl⟩
          obtain ⟨v_104, d_105⟩ := x
          obtain ⟨hP, hD, hS, hgd_105, hPod_105, hfd_105, hId_105, hLJd_105, hKJd_105, hex_107, hl⟩ := hI
          have hId_105 : yMI S d_105 h0 := hId_105
          have hex_107 : (zPf S d_1 d_105 h0 (fun _ => False) ∧ 0 ≤ (v_104 : Int32).toInt) := hex_107
          have hl : lv_has ls 4 [(3, .int v_104), (0, .ref h0), (1, .int p0)] := hl
          have hLJd_105 : yAg S [41] d_1 d_105 := hLJd_105
          have hKJd_105 : yK [] d_1 d_105 h0 := hKJd_105
          have hE0d_105 : (d_105.1 h0 0).toInt = (d_1.1 h0 0).toInt := congrArg Int32.toInt (hKJd_105 0 (by decide))
          have hE1d_105 : (d_105.1 h0 1).toInt = (d_1.1 h0 1).toInt := congrArg Int32.toInt (hKJd_105 1 (by decide))
          have hE2d_105 : (d_105.1 h0 2).toInt = (d_1.1 h0 2).toInt := congrArg Int32.toInt (hKJd_105 2 (by decide))
          have hE3d_105 : (d_105.1 h0 3).toInt = (d_1.1 h0 3).toInt := congrArg Int32.toInt (hKJd_105 3 (by decide))
          have hE63d_105 : (d_105.1 h0 63).toInt = (d_1.1 h0 63).toInt := congrArg Int32.toInt (hKJd_105 63 (by decide))
          have hxr_ := hex_107.2
          refine lv_iload_n hx hb dX9_together_73 rfl (lv_at hl 0 rfl) ?_
          refine lv_bipush (v := 8) hx hb dX9_together_74 (by decide) ?_
          refine lv_icmp_ge (tgt := 114) hx hb dX9_together_76 (by decide) (fun c_108 => ?_) (fun c_108 => ?_)
          · refine lv_iconst (v := 1) hx hb dX9_together_114 (by decide) ?_
            have hCC_109 := yMI.c hId_105
            have F_110 := fle (by decide +kernel : (8 : Int32).toInt = 8) (rfl : (v_104 : Int32).toInt = (v_104 : Int32).toInt) c_108
            have hz_ := zTg.fin hex_91.2 (Or.inl c_99)
            exact W.zret (v := 1) (ty := .boolean) hx hb hr rfl (fun t ht hW => ⟨⟨1, d_105, rfl, ⟨hgd_105, (fun _ => hPod_105), hfd_105, ⟨hId_105, Or.inr ⟨by decide +kernel, hz_.elim (fun w => w.2) (fun w => absurd (show (v_88 : Int32).toInt = 0 from by omega) w.1)⟩, zPf.tr (zPf.eq (hsd_1 _ (by rw [(ySh.f9_11 hSh h0 hm_h0 hk_h0).2]; decide)).2.2.2.2) hex_107.1⟩⟩, by rw [ht]; exact hP, hD⟩, hS.F ht⟩) hS.2.2 dX9_together_115
          · refine lv_aload_n hx hb dX9_together_79 rfl (lv_at hl 1 rfl) ?_
            refine yget (ci := 9) (k := 11) (v := .ref (S.2.2.1 h0 11)) (C := RX9) (T := TX9) (N := 67) C0 hK hP hm_h0 hk_h0 (by decide) rfl inlX9 (by decide) mW116 (fun _ h9 => h9) rfl dX9_together_80 ?_
            obtain ⟨hmy_111, hky_111⟩ := ySh.f9_11 hSh _ hm_h0 hk_h0
            refine lv_bipush (v := 12) hx hb dX9_together_83 (by decide) ?_
            refine lv_iload_n hx hb dX9_together_85 rfl (lv_at hl 0 rfl) ?_
            refine lv_imul hx hb dX9_together_86 ?_
            refine lv_topi (fun z_112 ez_112 => ?_)
            refine lv_bipush (v := 10) hx hb dX9_together_87 (by decide) ?_
            refine lv_iadd hx hb dX9_together_89 ?_
            refine lv_topi (fun z_113 ez_113 => ?_)
            refine lv_iload_n hx hb dX9_together_90 rfl (lv_at hl 2 rfl) ?_
            refine lv_iload_n hx hb dX9_together_91 rfl (lv_at hl 0 rfl) ?_
            refine lv_ishr hx hb dX9_together_92 ?_
            refine lv_topi (fun z_114 ez_114 => ?_)
            refine lv_iconst (v := 1) hx hb dX9_together_93 (by decide) ?_
            refine lv_iand hx hb dX9_together_94 ?_
            refine lv_topi (fun z_115 ez_115 => ?_)
            refine lv_iconst (v := 1) hx hb dX9_together_95 (by decide) ?_
            refine lv_icmp_ne (tgt := 104) hx hb dX9_together_96 (by decide) (fun c_116 => ?_) (fun c_116 => ?_)
            · refine lv_lconst (v := 1) hx hb dX9_together_104 (by decide) ?_
              refine lv_iload_n hx hb dX9_together_105 rfl (lv_at hl 0 rfl) ?_
              refine lv_lshl hx hb dX9_together_106 rfl ?_
              refine lv_topl (fun z_117 ez_117 => ?_)
              have hCC_118 := yMI.c hId_105
              have F_119 := fnle (by decide +kernel : (8 : Int32).toInt = 8) (rfl : (v_104 : Int32).toInt = (v_104 : Int32).toInt) c_108
              have F_121 := fne (rfl : (z_115 : Int32).toInt = (z_115 : Int32).toInt) (by decide +kernel : (1 : Int32).toInt = 1) c_116
              have T_123 : (z_112 : Int32).toInt = 12 * (v_104 : Int32).toInt := tmul ez_112 (by decide +kernel : (12 : Int32).toInt = 12) (rfl : (v_104 : Int32).toInt = (v_104 : Int32).toInt) (by omega) (by omega)
              have T_122 : (z_113 : Int32).toInt = (z_112 : Int32).toInt + 10 := tadd ez_113 (rfl : (z_112 : Int32).toInt = (z_112 : Int32).toInt) (by decide +kernel : (10 : Int32).toInt = 10) (by omega) (by omega)
              refine yastJ C0 hK hP hD hS hmy_111 hky_111 (by decide) rfl 4 rfl (xinT 96 rfl (by omega) (by omega)) dX9_together_107 (fun H locs hP hD hS => ?_)
              obtain ⟨d_124, ed_124⟩ : ∃ z : yD, z = ye d_105 (S.2.2.1 h0 11) (z_113 : Int32).toNatClampNeg z_117 := ⟨_, rfl⟩
              rw [← ed_124] at hP hD
              have hgd_124 : yAg S [9, 41, 69] d d_124 := by rw [ed_124]; exact yAg.e hgd_105 (by rw [hky_111]; decide)
              have hsd_124 : yAg S [41] d_105 d_124 := by rw [ed_124]; exact yAg.e yAg.rf (by rw [hky_111]; decide)
              have hPod_124 : yPo S d_124 := by rw [ed_124]; exact hPod_105
              have hfd_124 : yK [38] d d_124 h0 := yK.ag hfd_105 (show yAg S [41] d_105 d_124 from by rw [ed_124]; exact yAg.e yAg.rf (by rw [hky_111]; decide)) (by rw [hk_h0]; decide)
              have hL0d_124 : yAg S [41] d_1 d_124 := by rw [ed_124]; exact yAg.e hLJd_105 (by rw [hky_111]; decide)
              have hK0d_124 : yK [] d_1 d_124 h0 := yK.ag hKJd_105 (show yAg S [41] d_105 d_124 from by rw [ed_124]; exact yAg.e yAg.rf (by rw [hky_111]; decide)) (by rw [hk_h0]; decide)
              have hId_124 : yMI S d_124 h0 := by rw [ed_124]; exact yMI.w11 hId_105 hSh hm_h0 hk_h0 (yBp.up (yMI.bp_ hId_105) (fun p hp e => by have e_ : (z_113 : Int32).toInt.toNat = 12 * p + 1 := e; refine ⟨?_, ?_⟩ <;> omega) (fun p hp e => by have e_ : (z_113 : Int32).toInt.toNat = 12 * p + 2 := e; refine ⟨?_, ?_⟩ <;> omega) (fun p hp e => by have e_ : (z_113 : Int32).toInt.toNat = 12 * p + 6 := e; refine ⟨?_, ?_⟩ <;> omega))
              have hE0d_124 : (d_124.1 h0 0).toInt = (d_105.1 h0 0).toInt := congrArg Int32.toInt ((yK.ag (F := []) yK.rf (show yAg S [41] d_105 d_124 from by rw [ed_124]; exact yAg.e yAg.rf (by rw [hky_111]; decide)) (by rw [hk_h0]; decide)) 0 (by decide))
              have hE1d_124 : (d_124.1 h0 1).toInt = (d_105.1 h0 1).toInt := congrArg Int32.toInt ((yK.ag (F := []) yK.rf (show yAg S [41] d_105 d_124 from by rw [ed_124]; exact yAg.e yAg.rf (by rw [hky_111]; decide)) (by rw [hk_h0]; decide)) 1 (by decide))
              have hE2d_124 : (d_124.1 h0 2).toInt = (d_105.1 h0 2).toInt := congrArg Int32.toInt ((yK.ag (F := []) yK.rf (show yAg S [41] d_105 d_124 from by rw [ed_124]; exact yAg.e yAg.rf (by rw [hky_111]; decide)) (by rw [hk_h0]; decide)) 2 (by decide))
              have hE3d_124 : (d_124.1 h0 3).toInt = (d_105.1 h0 3).toInt := congrArg Int32.toInt ((yK.ag (F := []) yK.rf (show yAg S [41] d_105 d_124 from by rw [ed_124]; exact yAg.e yAg.rf (by rw [hky_111]; decide)) (by rw [hk_h0]; decide)) 3 (by decide))
              have hE63d_124 : (d_124.1 h0 63).toInt = (d_105.1 h0 63).toInt := congrArg Int32.toInt ((yK.ag (F := []) yK.rf (show yAg S [41] d_105 d_124 from by rw [ed_124]; exact yAg.e yAg.rf (by rw [hky_111]; decide)) (by rw [hk_h0]; decide)) 63 (by decide))
              refine lv_iinc (v := v_104 + 1) (lv' := [(3, .int (v_104 + 1)), (0, .ref h0), (1, .int p0)]) hx hb dX9_together_108 hl (k := 0) rfl rfl (by decide) rfl (fun ls hl => ?_)
              refine lv_goto (tgt := 73) hx hb dX9_together_111 (by decide) ?_
              have hCC_126 := yMI.c hId_124
              have T_127 : ((v_104 + 1) : Int32).toInt = (v_104 : Int32).toInt + 1 := tadd rfl (rfl : (v_104 : Int32).toInt = (v_104 : Int32).toInt) (by decide +kernel : (1 : Int32).toInt = 1) (by omega) (by omega)
              exact hnext_106 (v_104 + 1, d_124) _ _ ls (xup c_108) ⟨hP, hD, hS, hgd_124, hPod_124, hfd_124, hId_124, hL0d_124, hK0d_124, ⟨zPf.tr hex_107.1 (zPf.up ed_124 (fun q => by have e_ : (z_113 : Int32).toInt.toNat = (z_113 : Int32).toNatClampNeg := rfl; omega)), (show 0 ≤ (v_104 + 1 : Int32).toInt from by omega)⟩, lv_sub hl [0, 1, 2] rfl⟩
            · refine lv_iload_n hx hb dX9_together_99 rfl (lv_at hl 2 rfl) ?_
              refine lv_i2l hx hb dX9_together_100 rfl ?_
              refine lv_topl (fun z_128 ez_128 => ?_)
              refine lv_goto (tgt := 107) hx hb dX9_together_101 (by decide) ?_
              have hCC_129 := yMI.c hId_105
              have F_130 := fnle (by decide +kernel : (8 : Int32).toInt = 8) (rfl : (v_104 : Int32).toInt = (v_104 : Int32).toInt) c_108
              have F_132 := feq (rfl : (z_115 : Int32).toInt = (z_115 : Int32).toInt) (by decide +kernel : (1 : Int32).toInt = 1) c_116
              have T_134 : (z_112 : Int32).toInt = 12 * (v_104 : Int32).toInt := tmul ez_112 (by decide +kernel : (12 : Int32).toInt = 12) (rfl : (v_104 : Int32).toInt = (v_104 : Int32).toInt) (by omega) (by omega)
              have T_133 : (z_113 : Int32).toInt = (z_112 : Int32).toInt + 10 := tadd ez_113 (rfl : (z_112 : Int32).toInt = (z_112 : Int32).toInt) (by decide +kernel : (10 : Int32).toInt = 10) (by omega) (by omega)
              refine yastJ C0 hK hP hD hS hmy_111 hky_111 (by decide) rfl 4 rfl (xinT 96 rfl (by omega) (by omega)) dX9_together_107 (fun H locs hP hD hS => ?_)
              obtain ⟨d_135, ed_135⟩ : ∃ z : yD, z = ye d_105 (S.2.2.1 h0 11) (z_113 : Int32).toNatClampNeg z_128 := ⟨_, rfl⟩
              rw [← ed_135] at hP hD
              have hgd_135 : yAg S [9, 41, 69] d d_135 := by rw [ed_135]; exact yAg.e hgd_105 (by rw [hky_111]; decide)
              have hsd_135 : yAg S [41] d_105 d_135 := by rw [ed_135]; exact yAg.e yAg.rf (by rw [hky_111]; decide)
              have hPod_135 : yPo S d_135 := by rw [ed_135]; exact hPod_105
              have hfd_135 : yK [38] d d_135 h0 := yK.ag hfd_105 (show yAg S [41] d_105 d_135 from by rw [ed_135]; exact yAg.e yAg.rf (by rw [hky_111]; decide)) (by rw [hk_h0]; decide)
              have hL0d_135 : yAg S [41] d_1 d_135 := by rw [ed_135]; exact yAg.e hLJd_105 (by rw [hky_111]; decide)
              have hK0d_135 : yK [] d_1 d_135 h0 := yK.ag hKJd_105 (show yAg S [41] d_105 d_135 from by rw [ed_135]; exact yAg.e yAg.rf (by rw [hky_111]; decide)) (by rw [hk_h0]; decide)
              have T_136 : (z_128 : Int64).toInt = (p0 : Int32).toInt := by rw [ez_128, Int32.toInt_toInt64]
              have hId_135 : yMI S d_135 h0 := by rw [ed_135]; exact yMI.w11 hId_105 hSh hm_h0 hk_h0 (yBp.up (yMI.bp_ hId_105) (fun p hp e => by have e_ : (z_113 : Int32).toInt.toNat = 12 * p + 1 := e; refine ⟨?_, ?_⟩ <;> omega) (fun p hp e => by have e_ : (z_113 : Int32).toInt.toNat = 12 * p + 2 := e; refine ⟨?_, ?_⟩ <;> omega) (fun p hp e => by have e_ : (z_113 : Int32).toInt.toNat = 12 * p + 6 := e; refine ⟨?_, ?_⟩ <;> omega))
              have hE0d_135 : (d_135.1 h0 0).toInt = (d_105.1 h0 0).toInt := congrArg Int32.toInt ((yK.ag (F := []) yK.rf (show yAg S [41] d_105 d_135 from by rw [ed_135]; exact yAg.e yAg.rf (by rw [hky_111]; decide)) (by rw [hk_h0]; decide)) 0 (by decide))
              have hE1d_135 : (d_135.1 h0 1).toInt = (d_105.1 h0 1).toInt := congrArg Int32.toInt ((yK.ag (F := []) yK.rf (show yAg S [41] d_105 d_135 from by rw [ed_135]; exact yAg.e yAg.rf (by rw [hky_111]; decide)) (by rw [hk_h0]; decide)) 1 (by decide))
              have hE2d_135 : (d_135.1 h0 2).toInt = (d_105.1 h0 2).toInt := congrArg Int32.toInt ((yK.ag (F := []) yK.rf (show yAg S [41] d_105 d_135 from by rw [ed_135]; exact yAg.e yAg.rf (by rw [hky_111]; decide)) (by rw [hk_h0]; decide)) 2 (by decide))
              have hE3d_135 : (d_135.1 h0 3).toInt = (d_105.1 h0 3).toInt := congrArg Int32.toInt ((yK.ag (F := []) yK.rf (show yAg S [41] d_105 d_135 from by rw [ed_135]; exact yAg.e yAg.rf (by rw [hky_111]; decide)) (by rw [hk_h0]; decide)) 3 (by decide))
              have hE63d_135 : (d_135.1 h0 63).toInt = (d_105.1 h0 63).toInt := congrArg Int32.toInt ((yK.ag (F := []) yK.rf (show yAg S [41] d_105 d_135 from by rw [ed_135]; exact yAg.e yAg.rf (by rw [hky_111]; decide)) (by rw [hk_h0]; decide)) 63 (by decide))
              refine lv_iinc (v := v_104 + 1) (lv' := [(3, .int (v_104 + 1)), (0, .ref h0), (1, .int p0)]) hx hb dX9_together_108 hl (k := 0) rfl rfl (by decide) rfl (fun ls hl => ?_)
              refine lv_goto (tgt := 73) hx hb dX9_together_111 (by decide) ?_
              have hCC_138 := yMI.c hId_135
              have T_139 : ((v_104 + 1) : Int32).toInt = (v_104 : Int32).toInt + 1 := tadd rfl (rfl : (v_104 : Int32).toInt = (v_104 : Int32).toInt) (by decide +kernel : (1 : Int32).toInt = 1) (by omega) (by omega)
              exact hnext_106 (v_104 + 1, d_135) _ _ ls (xup c_108) ⟨hP, hD, hS, hgd_135, hPod_135, hfd_135, hId_135, hL0d_135, hK0d_135, ⟨zPf.tr hex_107.1 (zPf.up ed_135 (fun q => by have e_ : (z_113 : Int32).toInt.toNat = (z_113 : Int32).toNatClampNeg := rfl; omega)), (show 0 ≤ (v_104 + 1 : Int32).toInt from by omega)⟩, lv_sub hl [0, 1, 2] rfl⟩
        · refine lv_iload_n hx hb dX9_together_34 rfl (lv_at hl 3 rfl) ?_
          refine lv_iload_n hx hb dX9_together_35 rfl (lv_at hl 0 rfl) ?_
          refine lv_ishr hx hb dX9_together_36 ?_
          refine lv_topi (fun z_140 ez_140 => ?_)
          refine lv_iconst (v := 1) hx hb dX9_together_37 (by decide) ?_
          refine lv_iand hx hb dX9_together_38 ?_
          refine lv_topi (fun z_141 ez_141 => ?_)
          refine lv_iconst (v := 1) hx hb dX9_together_39 (by decide) ?_
          refine lv_icmp_ne (tgt := 53) hx hb dX9_together_40 (by decide) (fun c_142 => ?_) (fun c_142 => ?_)
          · refine lv_iinc (v := v_89 + 1) (lv' := [(3, .int (v_89 + 1)), (2, .int v_88), (0, .ref h0), (1, .int p0)]) hx hb dX9_together_53 hl (k := 0) rfl rfl (by decide) rfl (fun ls hl => ?_)
            refine lv_goto (tgt := 24) hx hb dX9_together_56 (by decide) ?_
            have hk0_ : 0 ≤ (v_89 : Int32).toInt := hex_91.2.1
            have F_144 := feq (rfl : (v_88 : Int32).toInt = (v_88 : Int32).toInt) (by decide +kernel : (0 : Int32).toInt = 0) c_92
            have F_145 := fnle (by decide +kernel : (8 : Int32).toInt = 8) (rfl : (v_89 : Int32).toInt = (v_89 : Int32).toInt) c_99
            have F_147 := fne (rfl : (z_141 : Int32).toInt = (z_141 : Int32).toInt) (by decide +kernel : (1 : Int32).toInt = 1) c_142
            have T_148 : ((v_89 + 1) : Int32).toInt = (v_89 : Int32).toInt + 1 := tadd rfl (rfl : (v_89 : Int32).toInt = (v_89 : Int32).toInt) (by decide +kernel : (1 : Int32).toInt = 1) (by omega) (by omega)
            exact hnext_90 (v_88, v_89 + 1) ls (xup c_99) ⟨⟨(show 0 ≤ (v_88 : Int32).toInt ∧ (v_88 : Int32).toInt ≤ 5 ∧ 0 ≤ (v_89 + 1 : Int32).toInt from by have hq0_ : (0 : Int32).toInt = 0 := (by decide +kernel); omega), zTg.no hex_91.2 c_99 (by omega) (fun q => c_142 (by rw [ez_141, ez_140]; exact q))⟩, (lv_sub hl [0, 1, 2, 3] rfl)⟩
          · refine lv_aload_n hx hb dX9_together_43 rfl (lv_at hl 2 rfl) ?_
            refine lv_iload_n hx hb dX9_together_44 rfl (lv_at hl 0 rfl) ?_
            refine yVri (As := [.int v_89]) (rest := []) C0 (g_X9_isOpen l G S d_1 h0 v_89 hSh hm_h0 hk_h0) ok_X9_isOpen (mW391 : Cond.methodLink RX9 157 yX9_isOpen ∈ wsT) ⟨Nat.le_of_ble_eq_true rfl, Nat.le_of_ble_eq_true rfl⟩ hP hD hK hN hm_h0 hk_h0 (by decide) rfl rfl rfl hl.1 rfl (Nat.le_of_ble_eq_true rfl) ⟨Nat.le_of_ble_eq_true rfl, Nat.le_of_ble_eq_true rfl⟩ dX9_together_45 (fun r_149 hr_149 => ?_)
            refine lv_if_ne (tgt := 53) hx hb dX9_together_48 (by decide) (fun c_150 => ?_) (fun c_150 => ?_)
            · refine lv_iinc (v := v_89 + 1) (lv' := [(3, .int (v_89 + 1)), (2, .int v_88), (0, .ref h0), (1, .int p0)]) hx hb dX9_together_53 hl (k := 0) rfl rfl (by decide) rfl (fun ls hl => ?_)
              refine lv_goto (tgt := 24) hx hb dX9_together_56 (by decide) ?_
              have hrf_152 : d_1.2.2.2.2 (S.2.2.1 h0 11) = d.2.2.2.2 (S.2.2.1 h0 11) := (hsd_1 _ (by rw [(ySh.f9_11 hSh h0 hm_h0 hk_h0).2]; decide)).2.2.2.2
              have hrf_152a : yOI S d_1 h0 (v_89 : Int32).toInt.toNat = yOI S d h0 (v_89 : Int32).toInt.toNat := by unfold yOI; rw [hrf_152]
              have hrf_152b : yOf S d_1 h0 (v_89 : Int32).toInt.toNat 2 = yOf S d h0 (v_89 : Int32).toInt.toNat 2 := by unfold yOf; rw [hrf_152]
              have hk0_ : 0 ≤ (v_89 : Int32).toInt := hex_91.2.1
              have F_153 := feq (rfl : (v_88 : Int32).toInt = (v_88 : Int32).toInt) (by decide +kernel : (0 : Int32).toInt = 0) c_92
              have F_154 := fnle (by decide +kernel : (8 : Int32).toInt = 8) (rfl : (v_89 : Int32).toInt = (v_89 : Int32).toInt) c_99
              have F_156 := feq (rfl : (z_141 : Int32).toInt = (z_141 : Int32).toInt) (by decide +kernel : (1 : Int32).toInt = 1) c_142
              have F_157 := fne (rfl : (r_149 : Int32).toInt = (r_149 : Int32).toInt) (by decide +kernel : (0 : Int32).toInt = 0) c_150
              have T_158 : ((v_89 + 1) : Int32).toInt = (v_89 : Int32).toInt + 1 := tadd rfl (rfl : (v_89 : Int32).toInt = (v_89 : Int32).toInt) (by decide +kernel : (1 : Int32).toInt = 1) (by omega) (by omega)
              exact hnext_90 (v_88, v_89 + 1) ls (xup c_99) ⟨⟨(show 0 ≤ (v_88 : Int32).toInt ∧ (v_88 : Int32).toInt ≤ 5 ∧ 0 ≤ (v_89 + 1 : Int32).toInt from by have hq0_ : (0 : Int32).toInt = 0 := (by decide +kernel); omega), zTg.yes hex_91.2 c_99 (by omega) (show zB p0 v_89 from by have h := c_142; rw [ez_141, ez_140] at h; exact h) (show ((v_88 : Int32).toInt = 0 ∧ yOI S d h0 ((v_89 : Int32)).toInt.toNat = 1) ∨ ((v_88 : Int32).toInt ≠ 0 ∧ ¬ yOI S d h0 ((v_89 : Int32)).toInt.toNat = 1) from by omega)⟩, (lv_sub hl [0, 1, 2, 3] rfl)⟩
            · refine lv_iconst (v := 2) hx hb dX9_together_51 (by decide) ?_
              refine lv_istore_n (lv' := [(2, .int 2), (3, .int v_89), (0, .ref h0), (1, .int p0)]) hx hb dX9_together_52 rfl hl (by decide) rfl (fun ls hl => ?_)
              refine lv_iinc (v := v_89 + 1) (lv' := [(3, .int (v_89 + 1)), (2, .int 2), (0, .ref h0), (1, .int p0)]) hx hb dX9_together_53 hl (k := 1) rfl rfl (by decide) rfl (fun ls hl => ?_)
              refine lv_goto (tgt := 24) hx hb dX9_together_56 (by decide) ?_
              have hrf_160 : d_1.2.2.2.2 (S.2.2.1 h0 11) = d.2.2.2.2 (S.2.2.1 h0 11) := (hsd_1 _ (by rw [(ySh.f9_11 hSh h0 hm_h0 hk_h0).2]; decide)).2.2.2.2
              have hrf_160a : yOI S d_1 h0 (v_89 : Int32).toInt.toNat = yOI S d h0 (v_89 : Int32).toInt.toNat := by unfold yOI; rw [hrf_160]
              have hrf_160b : yOf S d_1 h0 (v_89 : Int32).toInt.toNat 2 = yOf S d h0 (v_89 : Int32).toInt.toNat 2 := by unfold yOf; rw [hrf_160]
              have hk0_ : 0 ≤ (v_89 : Int32).toInt := hex_91.2.1
              have F_161 := feq (rfl : (v_88 : Int32).toInt = (v_88 : Int32).toInt) (by decide +kernel : (0 : Int32).toInt = 0) c_92
              have F_162 := fnle (by decide +kernel : (8 : Int32).toInt = 8) (rfl : (v_89 : Int32).toInt = (v_89 : Int32).toInt) c_99
              have F_164 := feq (rfl : (z_141 : Int32).toInt = (z_141 : Int32).toInt) (by decide +kernel : (1 : Int32).toInt = 1) c_142
              have F_165 := feq (rfl : (r_149 : Int32).toInt = (r_149 : Int32).toInt) (by decide +kernel : (0 : Int32).toInt = 0) c_150
              have T_166 : ((v_89 + 1) : Int32).toInt = (v_89 : Int32).toInt + 1 := tadd rfl (rfl : (v_89 : Int32).toInt = (v_89 : Int32).toInt) (by decide +kernel : (1 : Int32).toInt = 1) (by omega) (by omega)
              exact hnext_90 (2, v_89 + 1) ls (xup c_99) ⟨⟨(show 0 ≤ (2 : Int32).toInt ∧ (2 : Int32).toInt ≤ 5 ∧ 0 ≤ (v_89 + 1 : Int32).toInt from by have hl0_ : (2 : Int32).toInt = 2 := (by decide +kernel); have hq0_ : (0 : Int32).toInt = 0 := (by decide +kernel); omega), zTg.yes hex_91.2 c_99 (by omega) (show zB p0 v_89 from by have h := c_142; rw [ez_141, ez_140] at h; exact h) (show ((2 : Int32).toInt = 0 ∧ yOI S d h0 ((v_89 : Int32)).toInt.toNat = 1) ∨ ((2 : Int32).toInt ≠ 0 ∧ ¬ yOI S d h0 ((v_89 : Int32)).toInt.toNat = 1) from by have hl0_ : (2 : Int32).toInt = 2 := (by decide +kernel); omega)⟩, (lv_sub hl [0, 1, 2, 3] rfl)⟩
    · refine lv_iconst (v := 1) hx hb dX9_together_16 (by decide) ?_
      refine lv_goto (tgt := 21) hx hb dX9_together_17 (by decide) ?_
      refine lv_istore_n (lv' := [(2, .int 1), (0, .ref h0), (1, .int p0)]) hx hb dX9_together_21 rfl hl (by decide) rfl (fun ls hl => ?_)
      refine lv_iconst (v := 0) hx hb dX9_together_22 (by decide) ?_
      refine lv_istore_n (lv' := [(3, .int 0), (2, .int 1), (0, .ref h0), (1, .int p0)]) hx hb dX9_together_23 rfl hl (by decide) rfl (fun ls hl => ?_)
      have hCC_167 := yMI.c hId_1
      have F_168 := fnlt (rfl : (p0 : Int32).toInt = (p0 : Int32).toInt) (by decide +kernel : (0 : Int32).toInt = 0) c_2
      have F_169 := fnle (rfl : (p0 : Int32).toInt = (p0 : Int32).toInt) (by decide +kernel : (255 : Int32).toInt = 255) c_84
      refine yloopR (σ := Int32 × Int32) (fun x => (2147483647 - (x.2 : Int32).toInt).toNat) 24 (fun x ls => (((0 ≤ (x.1 : Int32).toInt ∧ (x.1 : Int32).toInt ≤ 5 ∧ 0 ≤ (x.2 : Int32).toInt) ∧ zTg p0 (fun j => yOI S d h0 (j).toInt.toNat = 1) x.1 x.2)) ∧ lv_has ls 4 [(3, .int x.2), (2, .int x.1), (0, .ref h0), (1, .int p0)]) (fun x ls hl hnext_172 => ?_) (1, 0) ⟨⟨(show 0 ≤ (1 : Int32).toInt ∧ (1 : Int32).toInt ≤ 5 ∧ 0 ≤ (0 : Int32).toInt from by have hl0_ : (1 : Int32).toInt = 1 := (by decide +kernel); have hl1_ : (0 : Int32).toInt = 0 := (by decide +kernel); have hq0_ : (0 : Int32).toInt = 0 := (by decide +kernel); omega), (show zTg p0 (fun j => yOI S d h0 (j).toInt.toNat = 1) 1 0 from zTg.ini (by have hl0_ : (1 : Int32).toInt = 1 := (by decide +kernel); have hl1_ : (0 : Int32).toInt = 0 := (by decide +kernel); omega))⟩, lv_sub hl [0, 1, 2, 3] rfl⟩
      obtain ⟨v_170, v_171⟩ := x
      obtain ⟨hex_173, hl⟩ := hl
      have hex_173 : (((0 ≤ (v_170 : Int32).toInt ∧ (v_170 : Int32).toInt ≤ 5 ∧ 0 ≤ (v_171 : Int32).toInt) ∧ zTg p0 (fun j => yOI S d h0 (j).toInt.toNat = 1) v_170 v_171)) := hex_173
      have hl : lv_has ls 4 [(3, .int v_171), (2, .int v_170), (0, .ref h0), (1, .int p0)] := hl
      refine lv_iload_n hx hb dX9_together_24 rfl (lv_at hl 1 rfl) ?_
      refine lv_if_ne (tgt := 59) hx hb dX9_together_25 (by decide) (fun c_174 => ?_) (fun c_174 => ?_)
      · refine lv_iload_n hx hb dX9_together_59 rfl (lv_at hl 1 rfl) ?_
        refine lv_if_eq (tgt := 71) hx hb dX9_together_60 (by decide) (fun c_175 => absurd c_175 c_174) (fun c_175 => ?_)
        refine lv_aload_n hx hb dX9_together_63 rfl (lv_at hl 2 rfl) ?_
        refine lv_iload_n hx hb dX9_together_64 rfl (lv_at hl 1 rfl) ?_
        have F_176 := fne (rfl : (v_170 : Int32).toInt = (v_170 : Int32).toInt) (by decide +kernel : (0 : Int32).toInt = 0) c_174
        have F_177 := fne (rfl : (v_170 : Int32).toInt = (v_170 : Int32).toInt) (by decide +kernel : (0 : Int32).toInt = 0) c_175
        refine yVwi (As := [.int v_170]) (rest := []) C0 (g_X9_no l G S d_1 h0 v_170 hSh hPod_1 hm_h0 hk_h0 (by refine ⟨?_, ?_⟩ <;> omega)) ok_X9_no (mW177 : Cond.methodLink RX9 168 yX9_no ∈ wsT) ⟨Nat.le_of_ble_eq_true rfl, Nat.le_of_ble_eq_true rfl⟩ hP hD hS hA hK hN hm_h0 hk_h0 (by decide) rfl rfl rfl hl.1 rfl (Nat.le_of_ble_eq_true rfl) ⟨Nat.le_of_ble_eq_true rfl, Nat.le_of_ble_eq_true rfl⟩ dX9_together_65 (fun r_178 d_179 H locs hr_178 hP hD hS => ?_)
        obtain ⟨hgad_179, hpad_179, hfad_179, hxd_179⟩ := hr_178
        have hfd_179 : yK [38] d d_179 h0 := yK.tr hfd_1 hfad_179 (by decide)
        have hE0d_179 : (d_179.1 h0 0).toInt = (d_1.1 h0 0).toInt := congrArg Int32.toInt (hfad_179 0 (by decide))
        have hE1d_179 : (d_179.1 h0 1).toInt = (d_1.1 h0 1).toInt := congrArg Int32.toInt (hfad_179 1 (by decide))
        have hE2d_179 : (d_179.1 h0 2).toInt = (d_1.1 h0 2).toInt := congrArg Int32.toInt (hfad_179 2 (by decide))
        have hE3d_179 : (d_179.1 h0 3).toInt = (d_1.1 h0 3).toInt := congrArg Int32.toInt (hfad_179 3 (by decide))
        have hE63d_179 : (d_179.1 h0 63).toInt = (d_1.1 h0 63).toInt := congrArg Int32.toInt (hfad_179 63 (by decide))
        have hId_179 : yMI S d_179 h0 := yMI.ag hId_1 hSh hm_h0 hk_h0 hgad_179 hfad_179 (by decide) (by decide)
        have hgd_179 : yAg S [9, 41, 69] d d_179 := yAg.tr hgd_1 hgad_179 (by first | decide | exact fun _ h => h)
        have hPod_179 : yPo S d_179 := hpad_179 hPod_1
        refine lv_pop hx hb dX9_together_68 rfl ?_
        refine lv_iconst (v := 0) hx hb dX9_together_69 (by decide) ?_
        have hCC_180 := yMI.c hId_179
        have hz_ := zTg.fin hex_173.2 (Or.inr (by omega))
        exact W.zret (v := 0) (ty := .boolean) hx hb hr rfl (fun t ht hW => ⟨⟨0, d_179, rfl, ⟨hgd_179, (fun _ => hPod_179), hfd_179, ⟨hId_179, Or.inl ⟨by decide +kernel, hz_.elim (fun w => absurd w.1 (by omega)) (fun w => w.2)⟩, (zPf.tr (zPf.eq (hsd_1 _ (by rw [(ySh.f9_11 hSh h0 hm_h0 hk_h0).2]; decide)).2.2.2.2) (zPf.eq (hgad_179 _ (by rw [(ySh.f9_11 hSh h0 hm_h0 hk_h0).2]; decide)).2.2.2.2))⟩⟩, by rw [ht]; exact hP, hD⟩, hS.F ht⟩) hS.2.2 dX9_together_70
      · refine lv_iload_n hx hb dX9_together_28 rfl (lv_at hl 0 rfl) ?_
        refine lv_bipush (v := 8) hx hb dX9_together_29 (by decide) ?_
        refine lv_icmp_ge (tgt := 59) hx hb dX9_together_31 (by decide) (fun c_181 => ?_) (fun c_181 => ?_)
        · refine lv_iload_n hx hb dX9_together_59 rfl (lv_at hl 1 rfl) ?_
          refine lv_if_eq (tgt := 71) hx hb dX9_together_60 (by decide) (fun c_182 => ?_) (fun c_182 => absurd c_174 c_182)
          refine lv_iconst (v := 0) hx hb dX9_together_71 (by decide) ?_
          refine lv_istore_n (lv' := [(3, .int 0), (2, .int v_170), (0, .ref h0), (1, .int p0)]) hx hb dX9_together_72 rfl hl (by decide) rfl (fun ls hl => ?_)
          have F_183 := feq (rfl : (v_170 : Int32).toInt = (v_170 : Int32).toInt) (by decide +kernel : (0 : Int32).toInt = 0) c_174
          have F_184 := fle (by decide +kernel : (8 : Int32).toInt = 8) (rfl : (v_171 : Int32).toInt = (v_171 : Int32).toInt) c_181
          have F_185 := feq (rfl : (v_170 : Int32).toInt = (v_170 : Int32).toInt) (by decide +kernel : (0 : Int32).toInt = 0) c_182
          refine yloop (σ := Int32 × yD) (fun x => (2147483647 - (x.1 : Int32).toInt).toNat) 73 (fun x H locs ls => va_P G.1 xcl (yW G S x.2) H ∧ va_D A (yW G S x.2) ∧ va_S A s.heap H locs ∧ yAg S [9, 41, 69] d x.2 ∧ yPo S x.2 ∧ yK [38] d x.2 h0 ∧ yMI S x.2 h0 ∧ yAg S [41] d_1 x.2 ∧ yK [] d_1 x.2 h0 ∧ (zPf S d_1 x.2 h0 (fun _ => False) ∧ 0 ≤ (x.1 : Int32).toInt) ∧ lv_has ls 4 [(3, .int x.1), (0, .ref h0), (1, .int p0)]) (fun x H locs ls hI hnext_188 => ?_) (0, d_1) ⟨hP, hD, hS, hgd_1, hPod_1, hfd_1, hId_1, yAg.rf, yK.rf, ⟨zPf.eq rfl, (show 0 ≤ (0 : Int32).toInt by decide)⟩, lv_sub hl [0, 2, 3] rfl⟩
          obtain ⟨v_186, d_187⟩ := x
          obtain ⟨hP, hD, hS, hgd_187, hPod_187, hfd_187, hId_187, hLJd_187, hKJd_187, hex_189, hl⟩ := hI
          have hId_187 : yMI S d_187 h0 := hId_187
          have hex_189 : (zPf S d_1 d_187 h0 (fun _ => False) ∧ 0 ≤ (v_186 : Int32).toInt) := hex_189
          have hl : lv_has ls 4 [(3, .int v_186), (0, .ref h0), (1, .int p0)] := hl
          have hLJd_187 : yAg S [41] d_1 d_187 := hLJd_187
          have hKJd_187 : yK [] d_1 d_187 h0 := hKJd_187
          have hE0d_187 : (d_187.1 h0 0).toInt = (d_1.1 h0 0).toInt := congrArg Int32.toInt (hKJd_187 0 (by decide))
          have hE1d_187 : (d_187.1 h0 1).toInt = (d_1.1 h0 1).toInt := congrArg Int32.toInt (hKJd_187 1 (by decide))
          have hE2d_187 : (d_187.1 h0 2).toInt = (d_1.1 h0 2).toInt := congrArg Int32.toInt (hKJd_187 2 (by decide))
          have hE3d_187 : (d_187.1 h0 3).toInt = (d_1.1 h0 3).toInt := congrArg Int32.toInt (hKJd_187 3 (by decide))
          have hE63d_187 : (d_187.1 h0 63).toInt = (d_1.1 h0 63).toInt := congrArg Int32.toInt (hKJd_187 63 (by decide))
          have hxr_ := hex_189.2
          refine lv_iload_n hx hb dX9_together_73 rfl (lv_at hl 0 rfl) ?_
          refine lv_bipush (v := 8) hx hb dX9_together_74 (by decide) ?_
          refine lv_icmp_ge (tgt := 114) hx hb dX9_together_76 (by decide) (fun c_190 => ?_) (fun c_190 => ?_)
          · refine lv_iconst (v := 1) hx hb dX9_together_114 (by decide) ?_
            have hCC_191 := yMI.c hId_187
            have F_192 := fle (by decide +kernel : (8 : Int32).toInt = 8) (rfl : (v_186 : Int32).toInt = (v_186 : Int32).toInt) c_190
            have hz_ := zTg.fin hex_173.2 (Or.inl c_181)
            exact W.zret (v := 1) (ty := .boolean) hx hb hr rfl (fun t ht hW => ⟨⟨1, d_187, rfl, ⟨hgd_187, (fun _ => hPod_187), hfd_187, ⟨hId_187, Or.inr ⟨by decide +kernel, hz_.elim (fun w => w.2) (fun w => absurd (show (v_170 : Int32).toInt = 0 from by omega) w.1)⟩, zPf.tr (zPf.eq (hsd_1 _ (by rw [(ySh.f9_11 hSh h0 hm_h0 hk_h0).2]; decide)).2.2.2.2) hex_189.1⟩⟩, by rw [ht]; exact hP, hD⟩, hS.F ht⟩) hS.2.2 dX9_together_115
          · refine lv_aload_n hx hb dX9_together_79 rfl (lv_at hl 1 rfl) ?_
            refine yget (ci := 9) (k := 11) (v := .ref (S.2.2.1 h0 11)) (C := RX9) (T := TX9) (N := 67) C0 hK hP hm_h0 hk_h0 (by decide) rfl inlX9 (by decide) mW116 (fun _ h9 => h9) rfl dX9_together_80 ?_
            obtain ⟨hmy_193, hky_193⟩ := ySh.f9_11 hSh _ hm_h0 hk_h0
            refine lv_bipush (v := 12) hx hb dX9_together_83 (by decide) ?_
            refine lv_iload_n hx hb dX9_together_85 rfl (lv_at hl 0 rfl) ?_
            refine lv_imul hx hb dX9_together_86 ?_
            refine lv_topi (fun z_194 ez_194 => ?_)
            refine lv_bipush (v := 10) hx hb dX9_together_87 (by decide) ?_
            refine lv_iadd hx hb dX9_together_89 ?_
            refine lv_topi (fun z_195 ez_195 => ?_)
            refine lv_iload_n hx hb dX9_together_90 rfl (lv_at hl 2 rfl) ?_
            refine lv_iload_n hx hb dX9_together_91 rfl (lv_at hl 0 rfl) ?_
            refine lv_ishr hx hb dX9_together_92 ?_
            refine lv_topi (fun z_196 ez_196 => ?_)
            refine lv_iconst (v := 1) hx hb dX9_together_93 (by decide) ?_
            refine lv_iand hx hb dX9_together_94 ?_
            refine lv_topi (fun z_197 ez_197 => ?_)
            refine lv_iconst (v := 1) hx hb dX9_together_95 (by decide) ?_
            refine lv_icmp_ne (tgt := 104) hx hb dX9_together_96 (by decide) (fun c_198 => ?_) (fun c_198 => ?_)
            · refine lv_lconst (v := 1) hx hb dX9_together_104 (by decide) ?_
              refine lv_iload_n hx hb dX9_together_105 rfl (lv_at hl 0 rfl) ?_
              refine lv_lshl hx hb dX9_together_106 rfl ?_
              refine lv_topl (fun z_199 ez_199 => ?_)
              have hCC_200 := yMI.c hId_187
              have F_201 := fnle (by decide +kernel : (8 : Int32).toInt = 8) (rfl : (v_186 : Int32).toInt = (v_186 : Int32).toInt) c_190
              have F_203 := fne (rfl : (z_197 : Int32).toInt = (z_197 : Int32).toInt) (by decide +kernel : (1 : Int32).toInt = 1) c_198
              have T_205 : (z_194 : Int32).toInt = 12 * (v_186 : Int32).toInt := tmul ez_194 (by decide +kernel : (12 : Int32).toInt = 12) (rfl : (v_186 : Int32).toInt = (v_186 : Int32).toInt) (by omega) (by omega)
              have T_204 : (z_195 : Int32).toInt = (z_194 : Int32).toInt + 10 := tadd ez_195 (rfl : (z_194 : Int32).toInt = (z_194 : Int32).toInt) (by decide +kernel : (10 : Int32).toInt = 10) (by omega) (by omega)
              refine yastJ C0 hK hP hD hS hmy_193 hky_193 (by decide) rfl 4 rfl (xinT 96 rfl (by omega) (by omega)) dX9_together_107 (fun H locs hP hD hS => ?_)
              obtain ⟨d_206, ed_206⟩ : ∃ z : yD, z = ye d_187 (S.2.2.1 h0 11) (z_195 : Int32).toNatClampNeg z_199 := ⟨_, rfl⟩
              rw [← ed_206] at hP hD
              have hgd_206 : yAg S [9, 41, 69] d d_206 := by rw [ed_206]; exact yAg.e hgd_187 (by rw [hky_193]; decide)
              have hsd_206 : yAg S [41] d_187 d_206 := by rw [ed_206]; exact yAg.e yAg.rf (by rw [hky_193]; decide)
              have hPod_206 : yPo S d_206 := by rw [ed_206]; exact hPod_187
              have hfd_206 : yK [38] d d_206 h0 := yK.ag hfd_187 (show yAg S [41] d_187 d_206 from by rw [ed_206]; exact yAg.e yAg.rf (by rw [hky_193]; decide)) (by rw [hk_h0]; decide)
              have hL0d_206 : yAg S [41] d_1 d_206 := by rw [ed_206]; exact yAg.e hLJd_187 (by rw [hky_193]; decide)
              have hK0d_206 : yK [] d_1 d_206 h0 := yK.ag hKJd_187 (show yAg S [41] d_187 d_206 from by rw [ed_206]; exact yAg.e yAg.rf (by rw [hky_193]; decide)) (by rw [hk_h0]; decide)
              have hId_206 : yMI S d_206 h0 := by rw [ed_206]; exact yMI.w11 hId_187 hSh hm_h0 hk_h0 (yBp.up (yMI.bp_ hId_187) (fun p hp e => by have e_ : (z_195 : Int32).toInt.toNat = 12 * p + 1 := e; refine ⟨?_, ?_⟩ <;> omega) (fun p hp e => by have e_ : (z_195 : Int32).toInt.toNat = 12 * p + 2 := e; refine ⟨?_, ?_⟩ <;> omega) (fun p hp e => by have e_ : (z_195 : Int32).toInt.toNat = 12 * p + 6 := e; refine ⟨?_, ?_⟩ <;> omega))
              have hE0d_206 : (d_206.1 h0 0).toInt = (d_187.1 h0 0).toInt := congrArg Int32.toInt ((yK.ag (F := []) yK.rf (show yAg S [41] d_187 d_206 from by rw [ed_206]; exact yAg.e yAg.rf (by rw [hky_193]; decide)) (by rw [hk_h0]; decide)) 0 (by decide))
              have hE1d_206 : (d_206.1 h0 1).toInt = (d_187.1 h0 1).toInt := congrArg Int32.toInt ((yK.ag (F := []) yK.rf (show yAg S [41] d_187 d_206 from by rw [ed_206]; exact yAg.e yAg.rf (by rw [hky_193]; decide)) (by rw [hk_h0]; decide)) 1 (by decide))
              have hE2d_206 : (d_206.1 h0 2).toInt = (d_187.1 h0 2).toInt := congrArg Int32.toInt ((yK.ag (F := []) yK.rf (show yAg S [41] d_187 d_206 from by rw [ed_206]; exact yAg.e yAg.rf (by rw [hky_193]; decide)) (by rw [hk_h0]; decide)) 2 (by decide))
              have hE3d_206 : (d_206.1 h0 3).toInt = (d_187.1 h0 3).toInt := congrArg Int32.toInt ((yK.ag (F := []) yK.rf (show yAg S [41] d_187 d_206 from by rw [ed_206]; exact yAg.e yAg.rf (by rw [hky_193]; decide)) (by rw [hk_h0]; decide)) 3 (by decide))
              have hE63d_206 : (d_206.1 h0 63).toInt = (d_187.1 h0 63).toInt := congrArg Int32.toInt ((yK.ag (F := []) yK.rf (show yAg S [41] d_187 d_206 from by rw [ed_206]; exact yAg.e yAg.rf (by rw [hky_193]; decide)) (by rw [hk_h0]; decide)) 63 (by decide))
              refine lv_iinc (v := v_186 + 1) (lv' := [(3, .int (v_186 + 1)), (0, .ref h0), (1, .int p0)]) hx hb dX9_together_108 hl (k := 0) rfl rfl (by decide) rfl (fun ls hl => ?_)
              refine lv_goto (tgt := 73) hx hb dX9_together_111 (by decide) ?_
              have hCC_208 := yMI.c hId_206
              have T_209 : ((v_186 + 1) : Int32).toInt = (v_186 : Int32).toInt + 1 := tadd rfl (rfl : (v_186 : Int32).toInt = (v_186 : Int32).toInt) (by decide +kernel : (1 : Int32).toInt = 1) (by omega) (by omega)
              exact hnext_188 (v_186 + 1, d_206) _ _ ls (xup c_190) ⟨hP, hD, hS, hgd_206, hPod_206, hfd_206, hId_206, hL0d_206, hK0d_206, ⟨zPf.tr hex_189.1 (zPf.up ed_206 (fun q => by have e_ : (z_195 : Int32).toInt.toNat = (z_195 : Int32).toNatClampNeg := rfl; omega)), (show 0 ≤ (v_186 + 1 : Int32).toInt from by omega)⟩, lv_sub hl [0, 1, 2] rfl⟩
            · refine lv_iload_n hx hb dX9_together_99 rfl (lv_at hl 2 rfl) ?_
              refine lv_i2l hx hb dX9_together_100 rfl ?_
              refine lv_topl (fun z_210 ez_210 => ?_)
              refine lv_goto (tgt := 107) hx hb dX9_together_101 (by decide) ?_
              have hCC_211 := yMI.c hId_187
              have F_212 := fnle (by decide +kernel : (8 : Int32).toInt = 8) (rfl : (v_186 : Int32).toInt = (v_186 : Int32).toInt) c_190
              have F_214 := feq (rfl : (z_197 : Int32).toInt = (z_197 : Int32).toInt) (by decide +kernel : (1 : Int32).toInt = 1) c_198
              have T_216 : (z_194 : Int32).toInt = 12 * (v_186 : Int32).toInt := tmul ez_194 (by decide +kernel : (12 : Int32).toInt = 12) (rfl : (v_186 : Int32).toInt = (v_186 : Int32).toInt) (by omega) (by omega)
              have T_215 : (z_195 : Int32).toInt = (z_194 : Int32).toInt + 10 := tadd ez_195 (rfl : (z_194 : Int32).toInt = (z_194 : Int32).toInt) (by decide +kernel : (10 : Int32).toInt = 10) (by omega) (by omega)
              refine yastJ C0 hK hP hD hS hmy_193 hky_193 (by decide) rfl 4 rfl (xinT 96 rfl (by omega) (by omega)) dX9_together_107 (fun H locs hP hD hS => ?_)
              obtain ⟨d_217, ed_217⟩ : ∃ z : yD, z = ye d_187 (S.2.2.1 h0 11) (z_195 : Int32).toNatClampNeg z_210 := ⟨_, rfl⟩
              rw [← ed_217] at hP hD
              have hgd_217 : yAg S [9, 41, 69] d d_217 := by rw [ed_217]; exact yAg.e hgd_187 (by rw [hky_193]; decide)
              have hsd_217 : yAg S [41] d_187 d_217 := by rw [ed_217]; exact yAg.e yAg.rf (by rw [hky_193]; decide)
              have hPod_217 : yPo S d_217 := by rw [ed_217]; exact hPod_187
              have hfd_217 : yK [38] d d_217 h0 := yK.ag hfd_187 (show yAg S [41] d_187 d_217 from by rw [ed_217]; exact yAg.e yAg.rf (by rw [hky_193]; decide)) (by rw [hk_h0]; decide)
              have hL0d_217 : yAg S [41] d_1 d_217 := by rw [ed_217]; exact yAg.e hLJd_187 (by rw [hky_193]; decide)
              have hK0d_217 : yK [] d_1 d_217 h0 := yK.ag hKJd_187 (show yAg S [41] d_187 d_217 from by rw [ed_217]; exact yAg.e yAg.rf (by rw [hky_193]; decide)) (by rw [hk_h0]; decide)
              have T_218 : (z_210 : Int64).toInt = (p0 : Int32).toInt := by rw [ez_210, Int32.toInt_toInt64]
              have hId_217 : yMI S d_217 h0 := by rw [ed_217]; exact yMI.w11 hId_187 hSh hm_h0 hk_h0 (yBp.up (yMI.bp_ hId_187) (fun p hp e => by have e_ : (z_195 : Int32).toInt.toNat = 12 * p + 1 := e; refine ⟨?_, ?_⟩ <;> omega) (fun p hp e => by have e_ : (z_195 : Int32).toInt.toNat = 12 * p + 2 := e; refine ⟨?_, ?_⟩ <;> omega) (fun p hp e => by have e_ : (z_195 : Int32).toInt.toNat = 12 * p + 6 := e; refine ⟨?_, ?_⟩ <;> omega))
              have hE0d_217 : (d_217.1 h0 0).toInt = (d_187.1 h0 0).toInt := congrArg Int32.toInt ((yK.ag (F := []) yK.rf (show yAg S [41] d_187 d_217 from by rw [ed_217]; exact yAg.e yAg.rf (by rw [hky_193]; decide)) (by rw [hk_h0]; decide)) 0 (by decide))
              have hE1d_217 : (d_217.1 h0 1).toInt = (d_187.1 h0 1).toInt := congrArg Int32.toInt ((yK.ag (F := []) yK.rf (show yAg S [41] d_187 d_217 from by rw [ed_217]; exact yAg.e yAg.rf (by rw [hky_193]; decide)) (by rw [hk_h0]; decide)) 1 (by decide))
              have hE2d_217 : (d_217.1 h0 2).toInt = (d_187.1 h0 2).toInt := congrArg Int32.toInt ((yK.ag (F := []) yK.rf (show yAg S [41] d_187 d_217 from by rw [ed_217]; exact yAg.e yAg.rf (by rw [hky_193]; decide)) (by rw [hk_h0]; decide)) 2 (by decide))
              have hE3d_217 : (d_217.1 h0 3).toInt = (d_187.1 h0 3).toInt := congrArg Int32.toInt ((yK.ag (F := []) yK.rf (show yAg S [41] d_187 d_217 from by rw [ed_217]; exact yAg.e yAg.rf (by rw [hky_193]; decide)) (by rw [hk_h0]; decide)) 3 (by decide))
              have hE63d_217 : (d_217.1 h0 63).toInt = (d_187.1 h0 63).toInt := congrArg Int32.toInt ((yK.ag (F := []) yK.rf (show yAg S [41] d_187 d_217 from by rw [ed_217]; exact yAg.e yAg.rf (by rw [hky_193]; decide)) (by rw [hk_h0]; decide)) 63 (by decide))
              refine lv_iinc (v := v_186 + 1) (lv' := [(3, .int (v_186 + 1)), (0, .ref h0), (1, .int p0)]) hx hb dX9_together_108 hl (k := 0) rfl rfl (by decide) rfl (fun ls hl => ?_)
              refine lv_goto (tgt := 73) hx hb dX9_together_111 (by decide) ?_
              have hCC_220 := yMI.c hId_217
              have T_221 : ((v_186 + 1) : Int32).toInt = (v_186 : Int32).toInt + 1 := tadd rfl (rfl : (v_186 : Int32).toInt = (v_186 : Int32).toInt) (by decide +kernel : (1 : Int32).toInt = 1) (by omega) (by omega)
              exact hnext_188 (v_186 + 1, d_217) _ _ ls (xup c_190) ⟨hP, hD, hS, hgd_217, hPod_217, hfd_217, hId_217, hL0d_217, hK0d_217, ⟨zPf.tr hex_189.1 (zPf.up ed_217 (fun q => by have e_ : (z_195 : Int32).toInt.toNat = (z_195 : Int32).toNatClampNeg := rfl; omega)), (show 0 ≤ (v_186 + 1 : Int32).toInt from by omega)⟩, lv_sub hl [0, 1, 2] rfl⟩
        · refine lv_iload_n hx hb dX9_together_34 rfl (lv_at hl 3 rfl) ?_
          refine lv_iload_n hx hb dX9_together_35 rfl (lv_at hl 0 rfl) ?_
          refine lv_ishr hx hb dX9_together_36 ?_
          refine lv_topi (fun z_222 ez_222 => ?_)
          refine lv_iconst (v := 1) hx hb dX9_together_37 (by decide) ?_
          refine lv_iand hx hb dX9_together_38 ?_
          refine lv_topi (fun z_223 ez_223 => ?_)
          refine lv_iconst (v := 1) hx hb dX9_together_39 (by decide) ?_
          refine lv_icmp_ne (tgt := 53) hx hb dX9_together_40 (by decide) (fun c_224 => ?_) (fun c_224 => ?_)
          · refine lv_iinc (v := v_171 + 1) (lv' := [(3, .int (v_171 + 1)), (2, .int v_170), (0, .ref h0), (1, .int p0)]) hx hb dX9_together_53 hl (k := 0) rfl rfl (by decide) rfl (fun ls hl => ?_)
            refine lv_goto (tgt := 24) hx hb dX9_together_56 (by decide) ?_
            have hk0_ : 0 ≤ (v_171 : Int32).toInt := hex_173.2.1
            have F_226 := feq (rfl : (v_170 : Int32).toInt = (v_170 : Int32).toInt) (by decide +kernel : (0 : Int32).toInt = 0) c_174
            have F_227 := fnle (by decide +kernel : (8 : Int32).toInt = 8) (rfl : (v_171 : Int32).toInt = (v_171 : Int32).toInt) c_181
            have F_229 := fne (rfl : (z_223 : Int32).toInt = (z_223 : Int32).toInt) (by decide +kernel : (1 : Int32).toInt = 1) c_224
            have T_230 : ((v_171 + 1) : Int32).toInt = (v_171 : Int32).toInt + 1 := tadd rfl (rfl : (v_171 : Int32).toInt = (v_171 : Int32).toInt) (by decide +kernel : (1 : Int32).toInt = 1) (by omega) (by omega)
            exact hnext_172 (v_170, v_171 + 1) ls (xup c_181) ⟨⟨(show 0 ≤ (v_170 : Int32).toInt ∧ (v_170 : Int32).toInt ≤ 5 ∧ 0 ≤ (v_171 + 1 : Int32).toInt from by have hq0_ : (0 : Int32).toInt = 0 := (by decide +kernel); omega), zTg.no hex_173.2 c_181 (by omega) (fun q => c_224 (by rw [ez_223, ez_222]; exact q))⟩, (lv_sub hl [0, 1, 2, 3] rfl)⟩
          · refine lv_aload_n hx hb dX9_together_43 rfl (lv_at hl 2 rfl) ?_
            refine lv_iload_n hx hb dX9_together_44 rfl (lv_at hl 0 rfl) ?_
            refine yVri (As := [.int v_171]) (rest := []) C0 (g_X9_isOpen l G S d_1 h0 v_171 hSh hm_h0 hk_h0) ok_X9_isOpen (mW391 : Cond.methodLink RX9 157 yX9_isOpen ∈ wsT) ⟨Nat.le_of_ble_eq_true rfl, Nat.le_of_ble_eq_true rfl⟩ hP hD hK hN hm_h0 hk_h0 (by decide) rfl rfl rfl hl.1 rfl (Nat.le_of_ble_eq_true rfl) ⟨Nat.le_of_ble_eq_true rfl, Nat.le_of_ble_eq_true rfl⟩ dX9_together_45 (fun r_231 hr_231 => ?_)
            refine lv_if_ne (tgt := 53) hx hb dX9_together_48 (by decide) (fun c_232 => ?_) (fun c_232 => ?_)
            · refine lv_iinc (v := v_171 + 1) (lv' := [(3, .int (v_171 + 1)), (2, .int v_170), (0, .ref h0), (1, .int p0)]) hx hb dX9_together_53 hl (k := 0) rfl rfl (by decide) rfl (fun ls hl => ?_)
              refine lv_goto (tgt := 24) hx hb dX9_together_56 (by decide) ?_
              have hrf_234 : d_1.2.2.2.2 (S.2.2.1 h0 11) = d.2.2.2.2 (S.2.2.1 h0 11) := (hsd_1 _ (by rw [(ySh.f9_11 hSh h0 hm_h0 hk_h0).2]; decide)).2.2.2.2
              have hrf_234a : yOI S d_1 h0 (v_171 : Int32).toInt.toNat = yOI S d h0 (v_171 : Int32).toInt.toNat := by unfold yOI; rw [hrf_234]
              have hrf_234b : yOf S d_1 h0 (v_171 : Int32).toInt.toNat 2 = yOf S d h0 (v_171 : Int32).toInt.toNat 2 := by unfold yOf; rw [hrf_234]
              have hk0_ : 0 ≤ (v_171 : Int32).toInt := hex_173.2.1
              have F_235 := feq (rfl : (v_170 : Int32).toInt = (v_170 : Int32).toInt) (by decide +kernel : (0 : Int32).toInt = 0) c_174
              have F_236 := fnle (by decide +kernel : (8 : Int32).toInt = 8) (rfl : (v_171 : Int32).toInt = (v_171 : Int32).toInt) c_181
              have F_238 := feq (rfl : (z_223 : Int32).toInt = (z_223 : Int32).toInt) (by decide +kernel : (1 : Int32).toInt = 1) c_224
              have F_239 := fne (rfl : (r_231 : Int32).toInt = (r_231 : Int32).toInt) (by decide +kernel : (0 : Int32).toInt = 0) c_232
              have T_240 : ((v_171 + 1) : Int32).toInt = (v_171 : Int32).toInt + 1 := tadd rfl (rfl : (v_171 : Int32).toInt = (v_171 : Int32).toInt) (by decide +kernel : (1 : Int32).toInt = 1) (by omega) (by omega)
              exact hnext_172 (v_170, v_171 + 1) ls (xup c_181) ⟨⟨(show 0 ≤ (v_170 : Int32).toInt ∧ (v_170 : Int32).toInt ≤ 5 ∧ 0 ≤ (v_171 + 1 : Int32).toInt from by have hq0_ : (0 : Int32).toInt = 0 := (by decide +kernel); omega), zTg.yes hex_173.2 c_181 (by omega) (show zB p0 v_171 from by have h := c_224; rw [ez_223, ez_222] at h; exact h) (show ((v_170 : Int32).toInt = 0 ∧ yOI S d h0 ((v_171 : Int32)).toInt.toNat = 1) ∨ ((v_170 : Int32).toInt ≠ 0 ∧ ¬ yOI S d h0 ((v_171 : Int32)).toInt.toNat = 1) from by omega)⟩, (lv_sub hl [0, 1, 2, 3] rfl)⟩
            · refine lv_iconst (v := 2) hx hb dX9_together_51 (by decide) ?_
              refine lv_istore_n (lv' := [(2, .int 2), (3, .int v_171), (0, .ref h0), (1, .int p0)]) hx hb dX9_together_52 rfl hl (by decide) rfl (fun ls hl => ?_)
              refine lv_iinc (v := v_171 + 1) (lv' := [(3, .int (v_171 + 1)), (2, .int 2), (0, .ref h0), (1, .int p0)]) hx hb dX9_together_53 hl (k := 1) rfl rfl (by decide) rfl (fun ls hl => ?_)
              refine lv_goto (tgt := 24) hx hb dX9_together_56 (by decide) ?_
              have hrf_242 : d_1.2.2.2.2 (S.2.2.1 h0 11) = d.2.2.2.2 (S.2.2.1 h0 11) := (hsd_1 _ (by rw [(ySh.f9_11 hSh h0 hm_h0 hk_h0).2]; decide)).2.2.2.2
              have hrf_242a : yOI S d_1 h0 (v_171 : Int32).toInt.toNat = yOI S d h0 (v_171 : Int32).toInt.toNat := by unfold yOI; rw [hrf_242]
              have hrf_242b : yOf S d_1 h0 (v_171 : Int32).toInt.toNat 2 = yOf S d h0 (v_171 : Int32).toInt.toNat 2 := by unfold yOf; rw [hrf_242]
              have hk0_ : 0 ≤ (v_171 : Int32).toInt := hex_173.2.1
              have F_243 := feq (rfl : (v_170 : Int32).toInt = (v_170 : Int32).toInt) (by decide +kernel : (0 : Int32).toInt = 0) c_174
              have F_244 := fnle (by decide +kernel : (8 : Int32).toInt = 8) (rfl : (v_171 : Int32).toInt = (v_171 : Int32).toInt) c_181
              have F_246 := feq (rfl : (z_223 : Int32).toInt = (z_223 : Int32).toInt) (by decide +kernel : (1 : Int32).toInt = 1) c_224
              have F_247 := feq (rfl : (r_231 : Int32).toInt = (r_231 : Int32).toInt) (by decide +kernel : (0 : Int32).toInt = 0) c_232
              have T_248 : ((v_171 + 1) : Int32).toInt = (v_171 : Int32).toInt + 1 := tadd rfl (rfl : (v_171 : Int32).toInt = (v_171 : Int32).toInt) (by decide +kernel : (1 : Int32).toInt = 1) (by omega) (by omega)
              exact hnext_172 (2, v_171 + 1) ls (xup c_181) ⟨⟨(show 0 ≤ (2 : Int32).toInt ∧ (2 : Int32).toInt ≤ 5 ∧ 0 ≤ (v_171 + 1 : Int32).toInt from by have hl0_ : (2 : Int32).toInt = 2 := (by decide +kernel); have hq0_ : (0 : Int32).toInt = 0 := (by decide +kernel); omega), zTg.yes hex_173.2 c_181 (by omega) (show zB p0 v_171 from by have h := c_224; rw [ez_223, ez_222] at h; exact h) (show ((2 : Int32).toInt = 0 ∧ yOI S d h0 ((v_171 : Int32)).toInt.toNat = 1) ∨ ((2 : Int32).toInt ≠ 0 ∧ ¬ yOI S d h0 ((v_171 : Int32)).toInt.toNat = 1) from by have hl0_ : (2 : Int32).toInt = 2 := (by decide +kernel); omega)⟩, (lv_sub hl [0, 1, 2, 3] rfl)⟩
theorem dX9_seek_0 : decode cX9_seek 0 = .ok (.aload_n 0, 1) := by decide +kernel
theorem dX9_seek_1 : decode cX9_seek 1 = .ok (.iload_n 1, 1) := by decide +kernel
theorem dX9_seek_2 : decode cX9_seek 2 = .ok (.putfield 305, 3) := by decide +kernel
theorem dX9_seek_5 : decode cX9_seek 5 = .ok (.aload_n 0, 1) := by decide +kernel
theorem dX9_seek_6 : decode cX9_seek 6 = .ok (.iload_n 2, 1) := by decide +kernel
theorem dX9_seek_7 : decode cX9_seek 7 = .ok (.putfield 308, 3) := by decide +kernel
theorem dX9_seek_10 : decode cX9_seek 10 = .ok (.aload_n 0, 1) := by decide +kernel
theorem dX9_seek_11 : decode cX9_seek 11 = .ok (.iload_n 3, 1) := by decide +kernel
theorem dX9_seek_12 : decode cX9_seek 12 = .ok (.putfield 311, 3) := by decide +kernel
theorem dX9_seek_15 : decode cX9_seek 15 = .ok (.aload_n 0, 1) := by decide +kernel
theorem dX9_seek_16 : decode cX9_seek 16 = .ok (.iload 4, 2) := by decide +kernel
theorem dX9_seek_18 : decode cX9_seek 18 = .ok (.putfield 314, 3) := by decide +kernel
theorem dX9_seek_21 : decode cX9_seek 21 = .ok (.aload_n 0, 1) := by decide +kernel
theorem dX9_seek_22 : decode cX9_seek 22 = .ok (.iload 5, 2) := by decide +kernel
theorem dX9_seek_24 : decode cX9_seek 24 = .ok (.putfield 317, 3) := by decide +kernel
theorem dX9_seek_27 : decode cX9_seek 27 = .ok (.aload_n 0, 1) := by decide +kernel
theorem dX9_seek_28 : decode cX9_seek 28 = .ok (.iconst 0, 1) := by decide +kernel
theorem dX9_seek_29 : decode cX9_seek 29 = .ok (.putfield 323, 3) := by decide +kernel
theorem dX9_seek_32 : decode cX9_seek 32 = .ok (.aload_n 0, 1) := by decide +kernel
theorem dX9_seek_33 : decode cX9_seek 33 = .ok (.iconst 0, 1) := by decide +kernel
theorem dX9_seek_34 : decode cX9_seek 34 = .ok (.putfield 329, 3) := by decide +kernel
theorem dX9_seek_37 : decode cX9_seek 37 = .ok (.aload_n 0, 1) := by decide +kernel
theorem dX9_seek_38 : decode cX9_seek 38 = .ok (.iconst (-1), 1) := by decide +kernel
theorem dX9_seek_39 : decode cX9_seek 39 = .ok (.putfield 320, 3) := by decide +kernel
theorem dX9_seek_42 : decode cX9_seek 42 = .ok (.return_, 1) := by decide +kernel
set_option maxHeartbeats 4000000 in
set_option maxRecDepth 100000 in
theorem g_X9_seek (l : Launch) (G : xG) (S : yS) (d : yD) (h0 : Nat) (p0 : Int32) (p1 : Int32) (p2 : Int32) (p3 : Int32) (p4 : Int32) (hSh : ySh S) (hPo : yPo S d) (hm_h0 : h0 ∈ S.1) (hk_h0 : S.2.1 h0 = 9) (hI : yMI S d h0) : xWv l G yX9_seek cX9_seek 6 none 0 0 0 0 [.ref h0, .int p0, .int p1, .int p2, .int p3, .int p4] (yW G S d) (fun u : yD => yAg S [9] d u ∧ (yPo S d → yPo S u) ∧ yK [49, 50, 51, 52, 53, 63, 64, 65] d u h0 ∧ (yMI S u h0)) (fun u => yW G S u) := by
  intro sz
  refine xstart (by decide) (Nat.le_of_ble_eq_true rfl) (fun p e s m args below meth c ls C0 hr hlocks hin hsz hP hK hD hN hl => ?_)
  obtain ⟨hx, hb, hml, hown, htl⟩ := id C0
  subst hsz
  have hD := hD.self (sz := s.heap.size)
  generalize hAe : va_A (yW G S d) s.heap.size = A at hD ⊢
  have hA : ∀ q : Nat, s.heap.size ≤ q → A q := fun q h => by rw [← hAe]; exact Or.inr h
  have hS : va_S A s.heap s.heap [] := va_S.rf
  have hg0 : yAg S [9] d d := yAg.rf
  have hl : lv_has ls 6 [(0, .ref h0), (1, .int p0), (2, .int p1), (3, .int p2), (4, .int p3), (5, .int p4)] := hl
  refine lv_aload_n hx hb dX9_seek_0 rfl (lv_at hl 0 rfl) ?_
  refine lv_iload_n hx hb dX9_seek_1 rfl (lv_at hl 1 rfl) ?_
  refine yputI (ci := 9) (k := 49) (ty := .int) (C := RX9) (T := TX9) (N := 67) C0 hK hP hD hS hm_h0 hk_h0 (by decide) rfl inlX9 tyX9 tyX9_ok nmX9 (by decide) mW861 (fun _ h9 => h9) rfl (by decide +kernel) rfl rfl (Nat.le_of_ble_eq_true rfl) ysi_9_49 dX9_seek_2 (fun H locs hP hD hS => ?_)
  obtain ⟨d_1, ed_1⟩ : ∃ z : yD, z = yi d h0 49 p0 := ⟨_, rfl⟩
  rw [← ed_1] at hP hD
  have hgd_1 : yAg S [9] d d_1 := by rw [ed_1]; exact yAg.i hg0 (by rw [hk_h0]; decide)
  have hPod_1 : yPo S d_1 := by rw [ed_1]; exact yPo.i hPo hk_h0 (Or.inl rfl)
  have hfd_1 : yK [49, 50, 51, 52, 53, 63, 64, 65] d d_1 h0 := by rw [ed_1]; exact yK.i yK.rf (by decide)
  have hId_1 : yMI S d_1 h0 := yMI.ag hI hSh hm_h0 hk_h0 (show yAg S [9] d d_1 from by rw [ed_1]; exact yAg.i yAg.rf (by rw [hk_h0]; decide)) (show yK [49] d d_1 h0 from by rw [ed_1]; exact yK.i yK.rf (by decide)) (by decide) (by decide)
  have hE0d_1 : (d_1.1 h0 0).toInt = (d.1 h0 0).toInt := congrArg Int32.toInt ((show yK [49] d d_1 h0 from by rw [ed_1]; exact yK.i yK.rf (by decide)) 0 (by decide))
  have hE1d_1 : (d_1.1 h0 1).toInt = (d.1 h0 1).toInt := congrArg Int32.toInt ((show yK [49] d d_1 h0 from by rw [ed_1]; exact yK.i yK.rf (by decide)) 1 (by decide))
  have hE2d_1 : (d_1.1 h0 2).toInt = (d.1 h0 2).toInt := congrArg Int32.toInt ((show yK [49] d d_1 h0 from by rw [ed_1]; exact yK.i yK.rf (by decide)) 2 (by decide))
  have hE3d_1 : (d_1.1 h0 3).toInt = (d.1 h0 3).toInt := congrArg Int32.toInt ((show yK [49] d d_1 h0 from by rw [ed_1]; exact yK.i yK.rf (by decide)) 3 (by decide))
  have hE63d_1 : (d_1.1 h0 63).toInt = (d.1 h0 63).toInt := congrArg Int32.toInt ((show yK [49] d d_1 h0 from by rw [ed_1]; exact yK.i yK.rf (by decide)) 63 (by decide))
  refine lv_aload_n hx hb dX9_seek_5 rfl (lv_at hl 0 rfl) ?_
  refine lv_iload_n hx hb dX9_seek_6 rfl (lv_at hl 2 rfl) ?_
  refine yputI (ci := 9) (k := 50) (ty := .int) (C := RX9) (T := TX9) (N := 67) C0 hK hP hD hS hm_h0 hk_h0 (by decide) rfl inlX9 tyX9 tyX9_ok nmX9 (by decide) mW862 (fun _ h9 => h9) rfl (by decide +kernel) rfl rfl (Nat.le_of_ble_eq_true rfl) ysi_9_50 dX9_seek_7 (fun H locs hP hD hS => ?_)
  obtain ⟨d_2, ed_2⟩ : ∃ z : yD, z = yi d_1 h0 50 p1 := ⟨_, rfl⟩
  rw [← ed_2] at hP hD
  have hgd_2 : yAg S [9] d d_2 := by rw [ed_2]; exact yAg.i hgd_1 (by rw [hk_h0]; decide)
  have hPod_2 : yPo S d_2 := by rw [ed_2]; exact yPo.i hPod_1 hk_h0 (Or.inl rfl)
  have hfd_2 : yK [49, 50, 51, 52, 53, 63, 64, 65] d d_2 h0 := by rw [ed_2]; exact yK.i hfd_1 (by decide)
  have hId_2 : yMI S d_2 h0 := yMI.ag hId_1 hSh hm_h0 hk_h0 (show yAg S [9] d_1 d_2 from by rw [ed_2]; exact yAg.i yAg.rf (by rw [hk_h0]; decide)) (show yK [50] d_1 d_2 h0 from by rw [ed_2]; exact yK.i yK.rf (by decide)) (by decide) (by decide)
  have hE0d_2 : (d_2.1 h0 0).toInt = (d_1.1 h0 0).toInt := congrArg Int32.toInt ((show yK [50] d_1 d_2 h0 from by rw [ed_2]; exact yK.i yK.rf (by decide)) 0 (by decide))
  have hE1d_2 : (d_2.1 h0 1).toInt = (d_1.1 h0 1).toInt := congrArg Int32.toInt ((show yK [50] d_1 d_2 h0 from by rw [ed_2]; exact yK.i yK.rf (by decide)) 1 (by decide))
  have hE2d_2 : (d_2.1 h0 2).toInt = (d_1.1 h0 2).toInt := congrArg Int32.toInt ((show yK [50] d_1 d_2 h0 from by rw [ed_2]; exact yK.i yK.rf (by decide)) 2 (by decide))
  have hE3d_2 : (d_2.1 h0 3).toInt = (d_1.1 h0 3).toInt := congrArg Int32.toInt ((show yK [50] d_1 d_2 h0 from by rw [ed_2]; exact yK.i yK.rf (by decide)) 3 (by decide))
  have hE63d_2 : (d_2.1 h0 63).toInt = (d_1.1 h0 63).toInt := congrArg Int32.toInt ((show yK [50] d_1 d_2 h0 from by rw [ed_2]; exact yK.i yK.rf (by decide)) 63 (by decide))
  refine lv_aload_n hx hb dX9_seek_10 rfl (lv_at hl 0 rfl) ?_
  refine lv_iload_n hx hb dX9_seek_11 rfl (lv_at hl 3 rfl) ?_
  refine yputI (ci := 9) (k := 51) (ty := .int) (C := RX9) (T := TX9) (N := 67) C0 hK hP hD hS hm_h0 hk_h0 (by decide) rfl inlX9 tyX9 tyX9_ok nmX9 (by decide) mW863 (fun _ h9 => h9) rfl (by decide +kernel) rfl rfl (Nat.le_of_ble_eq_true rfl) ysi_9_51 dX9_seek_12 (fun H locs hP hD hS => ?_)
  obtain ⟨d_3, ed_3⟩ : ∃ z : yD, z = yi d_2 h0 51 p2 := ⟨_, rfl⟩
  rw [← ed_3] at hP hD
  have hgd_3 : yAg S [9] d d_3 := by rw [ed_3]; exact yAg.i hgd_2 (by rw [hk_h0]; decide)
  have hPod_3 : yPo S d_3 := by rw [ed_3]; exact yPo.i hPod_2 hk_h0 (Or.inl rfl)
  have hfd_3 : yK [49, 50, 51, 52, 53, 63, 64, 65] d d_3 h0 := by rw [ed_3]; exact yK.i hfd_2 (by decide)
  have hId_3 : yMI S d_3 h0 := yMI.ag hId_2 hSh hm_h0 hk_h0 (show yAg S [9] d_2 d_3 from by rw [ed_3]; exact yAg.i yAg.rf (by rw [hk_h0]; decide)) (show yK [51] d_2 d_3 h0 from by rw [ed_3]; exact yK.i yK.rf (by decide)) (by decide) (by decide)
  have hE0d_3 : (d_3.1 h0 0).toInt = (d_2.1 h0 0).toInt := congrArg Int32.toInt ((show yK [51] d_2 d_3 h0 from by rw [ed_3]; exact yK.i yK.rf (by decide)) 0 (by decide))
  have hE1d_3 : (d_3.1 h0 1).toInt = (d_2.1 h0 1).toInt := congrArg Int32.toInt ((show yK [51] d_2 d_3 h0 from by rw [ed_3]; exact yK.i yK.rf (by decide)) 1 (by decide))
  have hE2d_3 : (d_3.1 h0 2).toInt = (d_2.1 h0 2).toInt := congrArg Int32.toInt ((show yK [51] d_2 d_3 h0 from by rw [ed_3]; exact yK.i yK.rf (by decide)) 2 (by decide))
  have hE3d_3 : (d_3.1 h0 3).toInt = (d_2.1 h0 3).toInt := congrArg Int32.toInt ((show yK [51] d_2 d_3 h0 from by rw [ed_3]; exact yK.i yK.rf (by decide)) 3 (by decide))
  have hE63d_3 : (d_3.1 h0 63).toInt = (d_2.1 h0 63).toInt := congrArg Int32.toInt ((show yK [51] d_2 d_3 h0 from by rw [ed_3]; exact yK.i yK.rf (by decide)) 63 (by decide))
  refine lv_aload_n hx hb dX9_seek_15 rfl (lv_at hl 0 rfl) ?_
  refine lv_iload hx hb dX9_seek_16 (lv_at hl 4 rfl) ?_
  refine yputI (ci := 9) (k := 52) (ty := .int) (C := RX9) (T := TX9) (N := 67) C0 hK hP hD hS hm_h0 hk_h0 (by decide) rfl inlX9 tyX9 tyX9_ok nmX9 (by decide) mW864 (fun _ h9 => h9) rfl (by decide +kernel) rfl rfl (Nat.le_of_ble_eq_true rfl) ysi_9_52 dX9_seek_18 (fun H locs hP hD hS => ?_)
  obtain ⟨d_4, ed_4⟩ : ∃ z : yD, z = yi d_3 h0 52 p3 := ⟨_, rfl⟩
  rw [← ed_4] at hP hD
  have hgd_4 : yAg S [9] d d_4 := by rw [ed_4]; exact yAg.i hgd_3 (by rw [hk_h0]; decide)
  have hPod_4 : yPo S d_4 := by rw [ed_4]; exact yPo.i hPod_3 hk_h0 (Or.inl rfl)
  have hfd_4 : yK [49, 50, 51, 52, 53, 63, 64, 65] d d_4 h0 := by rw [ed_4]; exact yK.i hfd_3 (by decide)
  have hId_4 : yMI S d_4 h0 := yMI.ag hId_3 hSh hm_h0 hk_h0 (show yAg S [9] d_3 d_4 from by rw [ed_4]; exact yAg.i yAg.rf (by rw [hk_h0]; decide)) (show yK [52] d_3 d_4 h0 from by rw [ed_4]; exact yK.i yK.rf (by decide)) (by decide) (by decide)
  have hE0d_4 : (d_4.1 h0 0).toInt = (d_3.1 h0 0).toInt := congrArg Int32.toInt ((show yK [52] d_3 d_4 h0 from by rw [ed_4]; exact yK.i yK.rf (by decide)) 0 (by decide))
  have hE1d_4 : (d_4.1 h0 1).toInt = (d_3.1 h0 1).toInt := congrArg Int32.toInt ((show yK [52] d_3 d_4 h0 from by rw [ed_4]; exact yK.i yK.rf (by decide)) 1 (by decide))
  have hE2d_4 : (d_4.1 h0 2).toInt = (d_3.1 h0 2).toInt := congrArg Int32.toInt ((show yK [52] d_3 d_4 h0 from by rw [ed_4]; exact yK.i yK.rf (by decide)) 2 (by decide))
  have hE3d_4 : (d_4.1 h0 3).toInt = (d_3.1 h0 3).toInt := congrArg Int32.toInt ((show yK [52] d_3 d_4 h0 from by rw [ed_4]; exact yK.i yK.rf (by decide)) 3 (by decide))
  have hE63d_4 : (d_4.1 h0 63).toInt = (d_3.1 h0 63).toInt := congrArg Int32.toInt ((show yK [52] d_3 d_4 h0 from by rw [ed_4]; exact yK.i yK.rf (by decide)) 63 (by decide))
  refine lv_aload_n hx hb dX9_seek_21 rfl (lv_at hl 0 rfl) ?_
  refine lv_iload hx hb dX9_seek_22 (lv_at hl 5 rfl) ?_
  refine yputI (ci := 9) (k := 53) (ty := .int) (C := RX9) (T := TX9) (N := 67) C0 hK hP hD hS hm_h0 hk_h0 (by decide) rfl inlX9 tyX9 tyX9_ok nmX9 (by decide) mW865 (fun _ h9 => h9) rfl (by decide +kernel) rfl rfl (Nat.le_of_ble_eq_true rfl) ysi_9_53 dX9_seek_24 (fun H locs hP hD hS => ?_)
  obtain ⟨d_5, ed_5⟩ : ∃ z : yD, z = yi d_4 h0 53 p4 := ⟨_, rfl⟩
  rw [← ed_5] at hP hD
  have hgd_5 : yAg S [9] d d_5 := by rw [ed_5]; exact yAg.i hgd_4 (by rw [hk_h0]; decide)
  have hPod_5 : yPo S d_5 := by rw [ed_5]; exact yPo.i hPod_4 hk_h0 (Or.inl rfl)
  have hfd_5 : yK [49, 50, 51, 52, 53, 63, 64, 65] d d_5 h0 := by rw [ed_5]; exact yK.i hfd_4 (by decide)
  have hId_5 : yMI S d_5 h0 := yMI.ag hId_4 hSh hm_h0 hk_h0 (show yAg S [9] d_4 d_5 from by rw [ed_5]; exact yAg.i yAg.rf (by rw [hk_h0]; decide)) (show yK [53] d_4 d_5 h0 from by rw [ed_5]; exact yK.i yK.rf (by decide)) (by decide) (by decide)
  have hE0d_5 : (d_5.1 h0 0).toInt = (d_4.1 h0 0).toInt := congrArg Int32.toInt ((show yK [53] d_4 d_5 h0 from by rw [ed_5]; exact yK.i yK.rf (by decide)) 0 (by decide))
  have hE1d_5 : (d_5.1 h0 1).toInt = (d_4.1 h0 1).toInt := congrArg Int32.toInt ((show yK [53] d_4 d_5 h0 from by rw [ed_5]; exact yK.i yK.rf (by decide)) 1 (by decide))
  have hE2d_5 : (d_5.1 h0 2).toInt = (d_4.1 h0 2).toInt := congrArg Int32.toInt ((show yK [53] d_4 d_5 h0 from by rw [ed_5]; exact yK.i yK.rf (by decide)) 2 (by decide))
  have hE3d_5 : (d_5.1 h0 3).toInt = (d_4.1 h0 3).toInt := congrArg Int32.toInt ((show yK [53] d_4 d_5 h0 from by rw [ed_5]; exact yK.i yK.rf (by decide)) 3 (by decide))
  have hE63d_5 : (d_5.1 h0 63).toInt = (d_4.1 h0 63).toInt := congrArg Int32.toInt ((show yK [53] d_4 d_5 h0 from by rw [ed_5]; exact yK.i yK.rf (by decide)) 63 (by decide))
  refine lv_aload_n hx hb dX9_seek_27 rfl (lv_at hl 0 rfl) ?_
  refine lv_iconst (v := 0) hx hb dX9_seek_28 (by decide) ?_
  refine yputI (ci := 9) (k := 63) (ty := .int) (C := RX9) (T := TX9) (N := 67) C0 hK hP hD hS hm_h0 hk_h0 (by decide) rfl inlX9 tyX9 tyX9_ok nmX9 (by decide) mW866 (fun _ h9 => h9) rfl (by decide +kernel) rfl rfl (Nat.le_of_ble_eq_true rfl) ysi_9_63 dX9_seek_29 (fun H locs hP hD hS => ?_)
  obtain ⟨d_6, ed_6⟩ : ∃ z : yD, z = yi d_5 h0 63 0 := ⟨_, rfl⟩
  rw [← ed_6] at hP hD
  have hgd_6 : yAg S [9] d d_6 := by rw [ed_6]; exact yAg.i hgd_5 (by rw [hk_h0]; decide)
  have hPod_6 : yPo S d_6 := by rw [ed_6]; exact yPo.i hPod_5 hk_h0 (Or.inl rfl)
  have hfd_6 : yK [49, 50, 51, 52, 53, 63, 64, 65] d d_6 h0 := by rw [ed_6]; exact yK.i hfd_5 (by decide)
  have hId_6 : yMI S d_6 h0 := by rw [ed_6]; exact yMI.i63 hId_5 (by decide +kernel)
  have hE0d_6 : (d_6.1 h0 0).toInt = (d_5.1 h0 0).toInt := congrArg Int32.toInt ((show yK [63] d_5 d_6 h0 from by rw [ed_6]; exact yK.i yK.rf (by decide)) 0 (by decide))
  have hE1d_6 : (d_6.1 h0 1).toInt = (d_5.1 h0 1).toInt := congrArg Int32.toInt ((show yK [63] d_5 d_6 h0 from by rw [ed_6]; exact yK.i yK.rf (by decide)) 1 (by decide))
  have hE2d_6 : (d_6.1 h0 2).toInt = (d_5.1 h0 2).toInt := congrArg Int32.toInt ((show yK [63] d_5 d_6 h0 from by rw [ed_6]; exact yK.i yK.rf (by decide)) 2 (by decide))
  have hE3d_6 : (d_6.1 h0 3).toInt = (d_5.1 h0 3).toInt := congrArg Int32.toInt ((show yK [63] d_5 d_6 h0 from by rw [ed_6]; exact yK.i yK.rf (by decide)) 3 (by decide))
  have hE63d_6 : (d_6.1 h0 63).toInt = (0 : Int32).toInt := by rw [ed_6, yi_self]
  refine lv_aload_n hx hb dX9_seek_32 rfl (lv_at hl 0 rfl) ?_
  refine lv_iconst (v := 0) hx hb dX9_seek_33 (by decide) ?_
  refine yputI (ci := 9) (k := 64) (ty := .int) (C := RX9) (T := TX9) (N := 67) C0 hK hP hD hS hm_h0 hk_h0 (by decide) rfl inlX9 tyX9 tyX9_ok nmX9 (by decide) mW867 (fun _ h9 => h9) rfl (by decide +kernel) rfl rfl (Nat.le_of_ble_eq_true rfl) ysi_9_64 dX9_seek_34 (fun H locs hP hD hS => ?_)
  obtain ⟨d_7, ed_7⟩ : ∃ z : yD, z = yi d_6 h0 64 0 := ⟨_, rfl⟩
  rw [← ed_7] at hP hD
  have hgd_7 : yAg S [9] d d_7 := by rw [ed_7]; exact yAg.i hgd_6 (by rw [hk_h0]; decide)
  have hPod_7 : yPo S d_7 := by rw [ed_7]; exact yPo.i hPod_6 hk_h0 (Or.inl rfl)
  have hfd_7 : yK [49, 50, 51, 52, 53, 63, 64, 65] d d_7 h0 := by rw [ed_7]; exact yK.i hfd_6 (by decide)
  have hId_7 : yMI S d_7 h0 := yMI.ag hId_6 hSh hm_h0 hk_h0 (show yAg S [9] d_6 d_7 from by rw [ed_7]; exact yAg.i yAg.rf (by rw [hk_h0]; decide)) (show yK [64] d_6 d_7 h0 from by rw [ed_7]; exact yK.i yK.rf (by decide)) (by decide) (by decide)
  have hE0d_7 : (d_7.1 h0 0).toInt = (d_6.1 h0 0).toInt := congrArg Int32.toInt ((show yK [64] d_6 d_7 h0 from by rw [ed_7]; exact yK.i yK.rf (by decide)) 0 (by decide))
  have hE1d_7 : (d_7.1 h0 1).toInt = (d_6.1 h0 1).toInt := congrArg Int32.toInt ((show yK [64] d_6 d_7 h0 from by rw [ed_7]; exact yK.i yK.rf (by decide)) 1 (by decide))
  have hE2d_7 : (d_7.1 h0 2).toInt = (d_6.1 h0 2).toInt := congrArg Int32.toInt ((show yK [64] d_6 d_7 h0 from by rw [ed_7]; exact yK.i yK.rf (by decide)) 2 (by decide))
  have hE3d_7 : (d_7.1 h0 3).toInt = (d_6.1 h0 3).toInt := congrArg Int32.toInt ((show yK [64] d_6 d_7 h0 from by rw [ed_7]; exact yK.i yK.rf (by decide)) 3 (by decide))
  have hE63d_7 : (d_7.1 h0 63).toInt = (d_6.1 h0 63).toInt := congrArg Int32.toInt ((show yK [64] d_6 d_7 h0 from by rw [ed_7]; exact yK.i yK.rf (by decide)) 63 (by decide))
  refine lv_aload_n hx hb dX9_seek_37 rfl (lv_at hl 0 rfl) ?_
  refine lv_iconst (v := (-1)) hx hb dX9_seek_38 (by decide) ?_
  refine yputI (ci := 9) (k := 65) (ty := .int) (C := RX9) (T := TX9) (N := 67) C0 hK hP hD hS hm_h0 hk_h0 (by decide) rfl inlX9 tyX9 tyX9_ok nmX9 (by decide) mW868 (fun _ h9 => h9) rfl (by decide +kernel) rfl rfl (Nat.le_of_ble_eq_true rfl) ysi_9_65 dX9_seek_39 (fun H locs hP hD hS => ?_)
  obtain ⟨d_8, ed_8⟩ : ∃ z : yD, z = yi d_7 h0 65 (-1) := ⟨_, rfl⟩
  rw [← ed_8] at hP hD
  have hgd_8 : yAg S [9] d d_8 := by rw [ed_8]; exact yAg.i hgd_7 (by rw [hk_h0]; decide)
  have hPod_8 : yPo S d_8 := by rw [ed_8]; exact yPo.i hPod_7 hk_h0 (Or.inl rfl)
  have hfd_8 : yK [49, 50, 51, 52, 53, 63, 64, 65] d d_8 h0 := by rw [ed_8]; exact yK.i hfd_7 (by decide)
  have hId_8 : yMI S d_8 h0 := yMI.ag hId_7 hSh hm_h0 hk_h0 (show yAg S [9] d_7 d_8 from by rw [ed_8]; exact yAg.i yAg.rf (by rw [hk_h0]; decide)) (show yK [65] d_7 d_8 h0 from by rw [ed_8]; exact yK.i yK.rf (by decide)) (by decide) (by decide)
  have hE0d_8 : (d_8.1 h0 0).toInt = (d_7.1 h0 0).toInt := congrArg Int32.toInt ((show yK [65] d_7 d_8 h0 from by rw [ed_8]; exact yK.i yK.rf (by decide)) 0 (by decide))
  have hE1d_8 : (d_8.1 h0 1).toInt = (d_7.1 h0 1).toInt := congrArg Int32.toInt ((show yK [65] d_7 d_8 h0 from by rw [ed_8]; exact yK.i yK.rf (by decide)) 1 (by decide))
  have hE2d_8 : (d_8.1 h0 2).toInt = (d_7.1 h0 2).toInt := congrArg Int32.toInt ((show yK [65] d_7 d_8 h0 from by rw [ed_8]; exact yK.i yK.rf (by decide)) 2 (by decide))
  have hE3d_8 : (d_8.1 h0 3).toInt = (d_7.1 h0 3).toInt := congrArg Int32.toInt ((show yK [65] d_7 d_8 h0 from by rw [ed_8]; exact yK.i yK.rf (by decide)) 3 (by decide))
  have hE63d_8 : (d_8.1 h0 63).toInt = (d_7.1 h0 63).toInt := congrArg Int32.toInt ((show yK [65] d_7 d_8 h0 from by rw [ed_8]; exact yK.i yK.rf (by decide)) 63 (by decide))
  exact W.vret hx hb hr (fun t ht hW => ⟨⟨d_8, rfl, ⟨hgd_8, (fun _ => hPod_8), hfd_8, hId_8⟩, by rw [ht]; exact hP, hD⟩, hS.F ht⟩) hS.2.2 dX9_seek_42
