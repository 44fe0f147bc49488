theorem dX9_clear_0 : decode cX9_clear 0 = .ok (.iconst 0, 1) := by decide +kernel
theorem dX9_clear_1 : decode cX9_clear 1 = .ok (.istore 4, 2) := by decide +kernel
theorem dX9_clear_3 : decode cX9_clear 3 = .ok (.iconst 0, 1) := by decide +kernel
theorem dX9_clear_4 : decode cX9_clear 4 = .ok (.istore 5, 2) := by decide +kernel
theorem dX9_clear_6 : decode cX9_clear 6 = .ok (.iload 5, 2) := by decide +kernel
theorem dX9_clear_8 : decode cX9_clear 8 = .ok (.aload_n 0, 1) := by decide +kernel
theorem dX9_clear_9 : decode cX9_clear 9 = .ok (.getfield 180, 3) := by decide +kernel
theorem dX9_clear_12 : decode cX9_clear 12 = .ok (.if_icmp .ge 111, 3) := by decide +kernel
theorem dX9_clear_15 : decode cX9_clear 15 = .ok (.aload_n 0, 1) := by decide +kernel
theorem dX9_clear_16 : decode cX9_clear 16 = .ok (.getfield 51, 3) := by decide +kernel
theorem dX9_clear_19 : decode cX9_clear 19 = .ok (.iload 5, 2) := by decide +kernel
theorem dX9_clear_21 : decode cX9_clear 21 = .ok (.baload, 1) := by decide +kernel
theorem dX9_clear_22 : decode cX9_clear 22 = .ok (.iload_n 1, 1) := by decide +kernel
theorem dX9_clear_23 : decode cX9_clear 23 = .ok (.if_icmp .ne 29, 3) := by decide +kernel
theorem dX9_clear_26 : decode cX9_clear 26 = .ok (.aload_n 0, 1) := by decide +kernel
theorem dX9_clear_27 : decode cX9_clear 27 = .ok (.getfield 54, 3) := by decide +kernel
theorem dX9_clear_30 : decode cX9_clear 30 = .ok (.iload 5, 2) := by decide +kernel
theorem dX9_clear_32 : decode cX9_clear 32 = .ok (.iaload, 1) := by decide +kernel
theorem dX9_clear_33 : decode cX9_clear 33 = .ok (.iload_n 2, 1) := by decide +kernel
theorem dX9_clear_34 : decode cX9_clear 34 = .ok (.if_icmp .lt 18, 3) := by decide +kernel
theorem dX9_clear_37 : decode cX9_clear 37 = .ok (.aload_n 0, 1) := by decide +kernel
theorem dX9_clear_38 : decode cX9_clear 38 = .ok (.getfield 54, 3) := by decide +kernel
theorem dX9_clear_41 : decode cX9_clear 41 = .ok (.iload 5, 2) := by decide +kernel
theorem dX9_clear_43 : decode cX9_clear 43 = .ok (.iaload, 1) := by decide +kernel
theorem dX9_clear_44 : decode cX9_clear 44 = .ok (.iload_n 3, 1) := by decide +kernel
theorem dX9_clear_45 : decode cX9_clear 45 = .ok (.if_icmp .ge 7, 3) := by decide +kernel
theorem dX9_clear_48 : decode cX9_clear 48 = .ok (.iconst 1, 1) := by decide +kernel
theorem dX9_clear_49 : decode cX9_clear 49 = .ok (.goto 4, 3) := by decide +kernel
theorem dX9_clear_52 : decode cX9_clear 52 = .ok (.iconst 0, 1) := by decide +kernel
theorem dX9_clear_53 : decode cX9_clear 53 = .ok (.istore 6, 2) := by decide +kernel
theorem dX9_clear_55 : decode cX9_clear 55 = .ok (.iload 6, 2) := by decide +kernel
theorem dX9_clear_57 : decode cX9_clear 57 = .ok (.ifCond .eq 9, 3) := by decide +kernel
theorem dX9_clear_60 : decode cX9_clear 60 = .ok (.iinc 4 1, 3) := by decide +kernel
theorem dX9_clear_63 : decode cX9_clear 63 = .ok (.goto 54, 3) := by decide +kernel
theorem dX9_clear_66 : decode cX9_clear 66 = .ok (.aload_n 0, 1) := by decide +kernel
theorem dX9_clear_67 : decode cX9_clear 67 = .ok (.getfield 51, 3) := by decide +kernel
theorem dX9_clear_70 : decode cX9_clear 70 = .ok (.iload 5, 2) := by decide +kernel
theorem dX9_clear_72 : decode cX9_clear 72 = .ok (.iload 4, 2) := by decide +kernel
theorem dX9_clear_74 : decode cX9_clear 74 = .ok (.isub, 1) := by decide +kernel
theorem dX9_clear_75 : decode cX9_clear 75 = .ok (.aload_n 0, 1) := by decide +kernel
theorem dX9_clear_76 : decode cX9_clear 76 = .ok (.getfield 51, 3) := by decide +kernel
theorem dX9_clear_79 : decode cX9_clear 79 = .ok (.iload 5, 2) := by decide +kernel
theorem dX9_clear_81 : decode cX9_clear 81 = .ok (.baload, 1) := by decide +kernel
theorem dX9_clear_82 : decode cX9_clear 82 = .ok (.bastore, 1) := by decide +kernel
theorem dX9_clear_83 : decode cX9_clear 83 = .ok (.aload_n 0, 1) := by decide +kernel
theorem dX9_clear_84 : decode cX9_clear 84 = .ok (.getfield 54, 3) := by decide +kernel
theorem dX9_clear_87 : decode cX9_clear 87 = .ok (.iload 5, 2) := by decide +kernel
theorem dX9_clear_89 : decode cX9_clear 89 = .ok (.iload 4, 2) := by decide +kernel
theorem dX9_clear_91 : decode cX9_clear 91 = .ok (.isub, 1) := by decide +kernel
theorem dX9_clear_92 : decode cX9_clear 92 = .ok (.aload_n 0, 1) := by decide +kernel
theorem dX9_clear_93 : decode cX9_clear 93 = .ok (.getfield 54, 3) := by decide +kernel
theorem dX9_clear_96 : decode cX9_clear 96 = .ok (.iload 5, 2) := by decide +kernel
theorem dX9_clear_98 : decode cX9_clear 98 = .ok (.iaload, 1) := by decide +kernel
theorem dX9_clear_99 : decode cX9_clear 99 = .ok (.iastore, 1) := by decide +kernel
theorem dX9_clear_100 : decode cX9_clear 100 = .ok (.aload_n 0, 1) := by decide +kernel
theorem dX9_clear_101 : decode cX9_clear 101 = .ok (.getfield 57, 3) := by decide +kernel
theorem dX9_clear_104 : decode cX9_clear 104 = .ok (.iload 5, 2) := by decide +kernel
theorem dX9_clear_106 : decode cX9_clear 106 = .ok (.iload 4, 2) := by decide +kernel
theorem dX9_clear_108 : decode cX9_clear 108 = .ok (.isub, 1) := by decide +kernel
theorem dX9_clear_109 : decode cX9_clear 109 = .ok (.aload_n 0, 1) := by decide +kernel
theorem dX9_clear_110 : decode cX9_clear 110 = .ok (.getfield 57, 3) := by decide +kernel
theorem dX9_clear_113 : decode cX9_clear 113 = .ok (.iload 5, 2) := by decide +kernel
theorem dX9_clear_115 : decode cX9_clear 115 = .ok (.baload, 1) := by decide +kernel
theorem dX9_clear_116 : decode cX9_clear 116 = .ok (.bastore, 1) := by decide +kernel
theorem dX9_clear_117 : decode cX9_clear 117 = .ok (.iinc 5 1, 3) := by decide +kernel
theorem dX9_clear_120 : decode cX9_clear 120 = .ok (.goto (-114), 3) := by decide +kernel
theorem dX9_clear_123 : decode cX9_clear 123 = .ok (.aload_n 0, 1) := by decide +kernel
theorem dX9_clear_124 : decode cX9_clear 124 = .ok (.dup, 1) := by decide +kernel
theorem dX9_clear_125 : decode cX9_clear 125 = .ok (.getfield 180, 3) := by decide +kernel
theorem dX9_clear_128 : decode cX9_clear 128 = .ok (.iload 4, 2) := by decide +kernel
theorem dX9_clear_130 : decode cX9_clear 130 = .ok (.isub, 1) := by decide +kernel
theorem dX9_clear_131 : decode cX9_clear 131 = .ok (.putfield 180, 3) := by decide +kernel
theorem dX9_clear_134 : decode cX9_clear 134 = .ok (.iload 4, 2) := by decide +kernel
theorem dX9_clear_136 : decode cX9_clear 136 = .ok (.ireturn, 1) := by decide +kernel
set_option maxHeartbeats 4000000 in
set_option maxRecDepth 100000 in
theorem g_X9_clear (l : Launch) (G : xG) (S : yS) (d : yD) (h0 : Nat) (p0 : Int32) (p1 : Int32) (p2 : Int32) (hSh : ySh S) (hPo : yPo S d) (hm_h0 : h0 ∈ S.1) (hk_h0 : S.2.1 h0 = 9) (hI : yMI S d h0) : xWi l G yX9_clear cX9_clear 7 (some .int) 0 0 0 0 [.ref h0, .int p0, .int p1, .int p2] (yW G S d) (fun r (u : yD) => yAg S [9, 45, 46, 47] d u ∧ (yPo S d → yPo S u) ∧ yK [1] d u h0 ∧ (yMI S u h0 ∧ (u.1 h0 1).toInt = (d.1 h0 1).toInt - r.toInt ∧ 0 ≤ r.toInt ∧ r.toInt = (ycn (yPc S d h0 p0 p1 p2) (d.1 h0 1).toInt.toNat : Int))) (fun u => yW G S u) := by
  intro sz
  refine xstart (by decide) (Nat.le_of_ble_eq_true rfl) (fun p e s m args below meth c ls C0 hr hlocks hin hsz hP hK hD hN hl => ?_)
  obtain ⟨hx, hb, hml, hown, htl⟩ := id C0
  subst hsz
  have hD := hD.self (sz := s.heap.size)
  generalize hAe : va_A (yW G S d) s.heap.size = A at hD ⊢
  have hA : ∀ q : Nat, s.heap.size ≤ q → A q := fun q h => by rw [← hAe]; exact Or.inr h
  have hS : va_S A s.heap s.heap [] := va_S.rf
  have hg0 : yAg S [9, 45, 46, 47] d d := yAg.rf
  have hl : lv_has ls 7 [(0, .ref h0), (1, .int p0), (2, .int p1), (3, .int p2)] := hl
  refine lv_iconst (v := 0) hx hb dX9_clear_0 (by decide) ?_
  refine lv_istore (lv' := [(4, .int 0), (0, .ref h0), (1, .int p0), (2, .int p1), (3, .int p2)]) hx hb dX9_clear_1 hl (by decide) rfl (fun ls hl => ?_)
  refine lv_iconst (v := 0) hx hb dX9_clear_3 (by decide) ?_
  refine lv_istore (lv' := [(5, .int 0), (4, .int 0), (0, .ref h0), (1, .int p0), (2, .int p1), (3, .int p2)]) hx hb dX9_clear_4 hl (by decide) rfl (fun ls hl => ?_)
  refine yloop (σ := Int32 × Int32 × yD) (fun x => (2147483647 - (x.2.1 : Int32).toInt).toNat) 6 (fun x H locs ls => va_P G.1 xcl (yW G S x.2.2) H ∧ va_D A (yW G S x.2.2) ∧ va_S A s.heap H locs ∧ yAg S [9, 45, 46, 47] d x.2.2 ∧ yPo S x.2.2 ∧ yK [1] d x.2.2 h0 ∧ yMI S x.2.2 h0 ∧ yCl S d x.2.2 h0 p0 p1 p2 x.1 x.2.1 ∧ lv_has ls 7 [(5, .int x.2.1), (4, .int x.1), (0, .ref h0), (1, .int p0), (2, .int p1), (3, .int p2)]) (fun x H locs ls hI hnext_4 => ?_) (0, 0, d) ⟨hP, hD, hS, hg0, hPo, yK.rf, hI, (yCl.ini hI), lv_sub hl [0, 1, 2, 3, 4, 5] rfl⟩
  obtain ⟨v_1, v_2, d_3⟩ := x
  obtain ⟨hP, hD, hS, hgd_3, hPod_3, hfd_3, hId_3, hex_5, hl⟩ := hI
  have hId_3 : yMI S d_3 h0 := hId_3
  have hex_5 : yCl S d d_3 h0 p0 p1 p2 v_1 v_2 := hex_5
  have hl : lv_has ls 7 [(5, .int v_2), (4, .int v_1), (0, .ref h0), (1, .int p0), (2, .int p1), (3, .int p2)] := hl
  refine lv_iload hx hb dX9_clear_6 (lv_at hl 0 rfl) ?_
  refine lv_aload_n hx hb dX9_clear_8 rfl (lv_at hl 2 rfl) ?_
  refine yget (ci := 9) (k := 1) (v := .int (d_3.1 h0 1)) (C := RX9) (T := TX9) (N := 67) C0 hK hP hm_h0 hk_h0 (by decide) rfl inlX9 (by decide) mW364 (fun _ h9 => h9) rfl dX9_clear_9 ?_
  refine lv_topi (fun z_6 ez_6 => ?_)
  refine lv_icmp_ge (tgt := 123) hx hb dX9_clear_12 (by decide) (fun c_7 => ?_) (fun c_7 => ?_)
  · obtain ⟨hq1, hq2, hq3, hq4⟩ := yCl.end hex_5 ez_6 c_7
    have hq5 : (d_3.1 h0 1).toInt = (d.1 h0 1).toInt := congrArg Int32.toInt hq4
    refine lv_aload_n hx hb dX9_clear_123 rfl (lv_at hl 2 rfl) ?_
    refine lv_dup hx hb dX9_clear_124 rfl ?_
    refine yget (ci := 9) (k := 1) (v := .int (d_3.1 h0 1)) (C := RX9) (T := TX9) (N := 67) C0 hK hP hm_h0 hk_h0 (by decide) rfl inlX9 (by decide) mW364 (fun _ h9 => h9) rfl dX9_clear_125 ?_
    refine lv_topi (fun z_8 ez_8 => ?_)
    refine lv_iload hx hb dX9_clear_128 (lv_at hl 1 rfl) ?_
    refine lv_isub hx hb dX9_clear_130 ?_
    refine lv_topi (fun z_9 ez_9 => ?_)
    refine yputI (ci := 9) (k := 1) (ty := .int) (C := RX9) (T := TX9) (N := 67) C0 hK hP hD hS hm_h0 hk_h0 (by decide) rfl inlX9 tyX9 tyX9_ok nmX9 (by decide) mW364 (fun _ h9 => h9) rfl (by decide +kernel) rfl rfl (Nat.le_of_ble_eq_true rfl) ysi_9_1 dX9_clear_131 (fun H locs hP hD hS => ?_)
    obtain ⟨d_10, ed_10⟩ : ∃ z : yD, z = yi d_3 h0 1 z_9 := ⟨_, rfl⟩
    rw [← ed_10] at hP hD
    have hgd_10 : yAg S [9, 45, 46, 47] d d_10 := by rw [ed_10]; exact yAg.i hgd_3 (by rw [hk_h0]; decide)
    have hPod_10 : yPo S d_10 := by rw [ed_10]; exact yPo.i hPod_3 hk_h0 (Or.inl rfl)
    have hfd_10 : yK [1] d d_10 h0 := by rw [ed_10]; exact yK.i hfd_3 (by decide)
    have hCC_11 := yMI.c hId_3
    have T_12 : (z_6 : Int32).toInt = (d_3.1 h0 1).toInt := by rw [ez_6]
    have F_13 := fle (rfl : (z_6 : Int32).toInt = (z_6 : Int32).toInt) (rfl : (v_2 : Int32).toInt = (v_2 : Int32).toInt) c_7
    have T_15 : (z_8 : Int32).toInt = (d_3.1 h0 1).toInt := by rw [ez_8]
    have T_14 : (z_9 : Int32).toInt = (z_8 : Int32).toInt - (v_1 : Int32).toInt := tsub ez_9 (rfl : (z_8 : Int32).toInt = (z_8 : Int32).toInt) (rfl : (v_1 : Int32).toInt = (v_1 : Int32).toInt) (by omega) (by omega)
    have hId_10 : yMI S d_10 h0 := by rw [ed_10]; exact yMI.i1 hId_3 ⟨by omega, by omega⟩
    have hE0d_10 : (d_10.1 h0 0).toInt = (d_3.1 h0 0).toInt := congrArg Int32.toInt ((show yK [1] d_3 d_10 h0 from by rw [ed_10]; exact yK.i yK.rf (by decide)) 0 (by decide))
    have hE1d_10 : (d_10.1 h0 1).toInt = (z_9 : Int32).toInt := by rw [ed_10, yi_self]
    have hE2d_10 : (d_10.1 h0 2).toInt = (d_3.1 h0 2).toInt := congrArg Int32.toInt ((show yK [1] d_3 d_10 h0 from by rw [ed_10]; exact yK.i yK.rf (by decide)) 2 (by decide))
    have hE3d_10 : (d_10.1 h0 3).toInt = (d_3.1 h0 3).toInt := congrArg Int32.toInt ((show yK [1] d_3 d_10 h0 from by rw [ed_10]; exact yK.i yK.rf (by decide)) 3 (by decide))
    have hE63d_10 : (d_10.1 h0 63).toInt = (d_3.1 h0 63).toInt := congrArg Int32.toInt ((show yK [1] d_3 d_10 h0 from by rw [ed_10]; exact yK.i yK.rf (by decide)) 63 (by decide))
    refine lv_iload hx hb dX9_clear_134 (lv_at hl 1 rfl) ?_
    have hCC_16 := yMI.c hId_10
    exact W.iret (v := v_1) hx hb hr (fun t ht hW => ⟨⟨v_1, d_10, rfl, ⟨hgd_10, (fun _ => hPod_10), hfd_10, ⟨hId_10, by omega, hq2, hq1⟩⟩, by rw [ht]; exact hP, hD⟩, hS.F ht⟩) hS.2.2 dX9_clear_136
  · refine lv_aload_n hx hb dX9_clear_15 rfl (lv_at hl 2 rfl) ?_
    refine yget (ci := 9) (k := 15) (v := .ref (S.2.2.1 h0 15)) (C := RX9) (T := TX9) (N := 67) C0 hK hP hm_h0 hk_h0 (by decide) rfl inlX9 (by decide) mW122 (fun _ h9 => h9) rfl dX9_clear_16 ?_
    obtain ⟨hmy_17, hky_17⟩ := ySh.f9_15 hSh _ hm_h0 hk_h0
    refine lv_iload hx hb dX9_clear_19 (lv_at hl 0 rfl) ?_
    have hCC_18 := yMI.c hId_3
    have T_19 : (z_6 : Int32).toInt = (d_3.1 h0 1).toInt := by rw [ez_6]
    have F_20 := fnle (rfl : (z_6 : Int32).toInt = (z_6 : Int32).toInt) (rfl : (v_2 : Int32).toInt = (v_2 : Int32).toInt) c_7
    refine yaldB C0 hK hP hmy_17 hky_17 (by decide) rfl 1 rfl (xinT 5000 rfl (by omega) (by omega)) dX9_clear_21 ?_
    refine lv_topi (fun z_21 ez_21 => ?_)
    refine lv_iload_n hx hb dX9_clear_22 rfl (lv_at hl 3 rfl) ?_
    refine lv_icmp_ne (tgt := 52) hx hb dX9_clear_23 (by decide) (fun c_22 => ?_) (fun c_22 => ?_)
    · refine lv_iconst (v := 0) hx hb dX9_clear_52 (by decide) ?_
      refine lv_istore (lv' := [(6, .int 0), (5, .int v_2), (4, .int v_1), (0, .ref h0), (1, .int p0), (2, .int p1), (3, .int p2)]) hx hb dX9_clear_53 hl (by decide) rfl (fun ls hl => ?_)
      refine lv_iload hx hb dX9_clear_55 (lv_at hl 0 rfl) ?_
      refine lv_if_eq (tgt := 66) hx hb dX9_clear_57 (by decide) (fun c_23 => ?_) (fun c_23 => absurd c_23 (by decide +kernel))
      refine lv_aload_n hx hb dX9_clear_66 rfl (lv_at hl 3 rfl) ?_
      refine yget (ci := 9) (k := 15) (v := .ref (S.2.2.1 h0 15)) (C := RX9) (T := TX9) (N := 67) C0 hK hP hm_h0 hk_h0 (by decide) rfl inlX9 (by decide) mW122 (fun _ h9 => h9) rfl dX9_clear_67 ?_
      refine lv_iload hx hb dX9_clear_70 (lv_at hl 1 rfl) ?_
      refine lv_iload hx hb dX9_clear_72 (lv_at hl 2 rfl) ?_
      refine lv_isub hx hb dX9_clear_74 ?_
      refine lv_topi (fun z_24 ez_24 => ?_)
      refine lv_aload_n hx hb dX9_clear_75 rfl (lv_at hl 3 rfl) ?_
      refine yget (ci := 9) (k := 15) (v := .ref (S.2.2.1 h0 15)) (C := RX9) (T := TX9) (N := 67) C0 hK hP hm_h0 hk_h0 (by decide) rfl inlX9 (by decide) mW122 (fun _ h9 => h9) rfl dX9_clear_76 ?_
      refine lv_iload hx hb dX9_clear_79 (lv_at hl 1 rfl) ?_
      have F_26 := fne (rfl : (z_21 : Int32).toInt = (z_21 : Int32).toInt) (rfl : (p0 : Int32).toInt = (p0 : Int32).toInt) c_22
      have F_27 := feq (by decide +kernel : (0 : Int32).toInt = 0) (by decide +kernel : (0 : Int32).toInt = 0) c_23
      refine yaldB C0 hK hP hmy_17 hky_17 (by decide) rfl 1 rfl (xinT 5000 rfl (by omega) (by omega)) dX9_clear_81 ?_
      refine lv_topi (fun z_28 ez_28 => ?_)
      have T_29 : (z_24 : Int32).toInt = (v_2 : Int32).toInt - (v_1 : Int32).toInt := tsub ez_24 (rfl : (v_2 : Int32).toInt = (v_2 : Int32).toInt) (rfl : (v_1 : Int32).toInt = (v_1 : Int32).toInt) (by omega) (by omega)
      refine yastB C0 hK hP hD hS hmy_17 hky_17 (by decide) rfl 1 rfl (xinT 5000 rfl (by omega) (by omega)) dX9_clear_82 (fun H locs hP hD hS => ?_)
      obtain ⟨d_30, ed_30⟩ : ∃ z : yD, z = ycs d_3 (S.2.2.1 h0 15) (upd (d_3.2.2.2.1 (S.2.2.1 h0 15)) (z_24 : Int32).toNatClampNeg (vp_nar .byte z_28)) := ⟨_, rfl⟩
      rw [← ed_30] at hP hD
      have hgd_30 : yAg S [9, 45, 46, 47] d d_30 := by rw [ed_30]; exact yAg.cs hgd_3 (by rw [hky_17]; decide)
      have hPod_30 : yPo S d_30 := by rw [ed_30]; exact hPod_3
      have hfd_30 : yK [1] d d_30 h0 := yK.ag hfd_3 (show yAg S [45] d_3 d_30 from by rw [ed_30]; exact yAg.cs yAg.rf (by rw [hky_17]; decide)) (by rw [hk_h0]; decide)
      have hId_30 : yMI S d_30 h0 := yMI.ag hId_3 hSh hm_h0 hk_h0 (show yAg S [45] d_3 d_30 from by rw [ed_30]; exact yAg.cs yAg.rf (by rw [hky_17]; decide)) (yK.ag (F := []) yK.rf (show yAg S [45] d_3 d_30 from by rw [ed_30]; exact yAg.cs yAg.rf (by rw [hky_17]; decide)) (by rw [hk_h0]; decide)) (by decide) (by decide)
      have hE0d_30 : (d_30.1 h0 0).toInt = (d_3.1 h0 0).toInt := congrArg Int32.toInt ((yK.ag (F := []) yK.rf (show yAg S [45] d_3 d_30 from by rw [ed_30]; exact yAg.cs yAg.rf (by rw [hky_17]; decide)) (by rw [hk_h0]; decide)) 0 (by decide))
      have hE1d_30 : (d_30.1 h0 1).toInt = (d_3.1 h0 1).toInt := congrArg Int32.toInt ((yK.ag (F := []) yK.rf (show yAg S [45] d_3 d_30 from by rw [ed_30]; exact yAg.cs yAg.rf (by rw [hky_17]; decide)) (by rw [hk_h0]; decide)) 1 (by decide))
      have hE2d_30 : (d_30.1 h0 2).toInt = (d_3.1 h0 2).toInt := congrArg Int32.toInt ((yK.ag (F := []) yK.rf (show yAg S [45] d_3 d_30 from by rw [ed_30]; exact yAg.cs yAg.rf (by rw [hky_17]; decide)) (by rw [hk_h0]; decide)) 2 (by decide))
      have hE3d_30 : (d_30.1 h0 3).toInt = (d_3.1 h0 3).toInt := congrArg Int32.toInt ((yK.ag (F := []) yK.rf (show yAg S [45] d_3 d_30 from by rw [ed_30]; exact yAg.cs yAg.rf (by rw [hky_17]; decide)) (by rw [hk_h0]; decide)) 3 (by decide))
      have hE63d_30 : (d_30.1 h0 63).toInt = (d_3.1 h0 63).toInt := congrArg Int32.toInt ((yK.ag (F := []) yK.rf (show yAg S [45] d_3 d_30 from by rw [ed_30]; exact yAg.cs yAg.rf (by rw [hky_17]; decide)) (by rw [hk_h0]; decide)) 63 (by decide))
      refine lv_aload_n hx hb dX9_clear_83 rfl (lv_at hl 3 rfl) ?_
      refine yget (ci := 9) (k := 16) (v := .ref (S.2.2.1 h0 16)) (C := RX9) (T := TX9) (N := 67) C0 hK hP hm_h0 hk_h0 (by decide) rfl inlX9 (by decide) mW123 (fun _ h9 => h9) rfl dX9_clear_84 ?_
      obtain ⟨hmy_31, hky_31⟩ := ySh.f9_16 hSh _ hm_h0 hk_h0
      refine lv_iload hx hb dX9_clear_87 (lv_at hl 1 rfl) ?_
      refine lv_iload hx hb dX9_clear_89 (lv_at hl 2 rfl) ?_
      refine lv_isub hx hb dX9_clear_91 ?_
      refine lv_topi (fun z_32 ez_32 => ?_)
      refine lv_aload_n hx hb dX9_clear_92 rfl (lv_at hl 3 rfl) ?_
      refine yget (ci := 9) (k := 16) (v := .ref (S.2.2.1 h0 16)) (C := RX9) (T := TX9) (N := 67) C0 hK hP hm_h0 hk_h0 (by decide) rfl inlX9 (by decide) mW123 (fun _ h9 => h9) rfl dX9_clear_93 ?_
      refine lv_iload hx hb dX9_clear_96 (lv_at hl 1 rfl) ?_
      have hCC_33 := yMI.c hId_30
      refine yald C0 hK hP hmy_31 hky_31 (by decide) rfl 0 rfl (xinT 5000 rfl (by omega) (by omega)) dX9_clear_98 ?_
      refine lv_topi (fun z_34 ez_34 => ?_)
      have hvz_34 : 0 ≤ (z_34 : Int32).toInt ∧ (z_34 : Int32).toInt ≤ 129599 := by rw [ez_34]; exact yMI.em_ hId_30 _
      have T_35 : (z_32 : Int32).toInt = (v_2 : Int32).toInt - (v_1 : Int32).toInt := tsub ez_32 (rfl : (v_2 : Int32).toInt = (v_2 : Int32).toInt) (rfl : (v_1 : Int32).toInt = (v_1 : Int32).toInt) (by omega) (by omega)
      refine yast C0 hK hP hD hS hmy_31 hky_31 (by decide) rfl 0 rfl (xinT 5000 rfl (by omega) (by omega)) dX9_clear_99 (fun H locs hP hD hS => ?_)
      obtain ⟨d_36, ed_36⟩ : ∃ z : yD, z = ycs d_30 (S.2.2.1 h0 16) (upd (d_30.2.2.2.1 (S.2.2.1 h0 16)) (z_32 : Int32).toNatClampNeg z_34) := ⟨_, rfl⟩
      rw [← ed_36] at hP hD
      have hgd_36 : yAg S [9, 45, 46, 47] d d_36 := by rw [ed_36]; exact yAg.cs hgd_30 (by rw [hky_31]; decide)
      have hPod_36 : yPo S d_36 := by rw [ed_36]; exact hPod_30
      have hfd_36 : yK [1] d d_36 h0 := yK.ag hfd_30 (show yAg S [46] d_30 d_36 from by rw [ed_36]; exact yAg.cs yAg.rf (by rw [hky_31]; decide)) (by rw [hk_h0]; decide)
      have hId_36 : yMI S d_36 h0 := by rw [ed_36]; exact yMI.w16 hId_30 hSh hm_h0 hk_h0 (yBr.up (yMI.em_ hId_30) ⟨by omega, by omega⟩)
      have hE0d_36 : (d_36.1 h0 0).toInt = (d_30.1 h0 0).toInt := congrArg Int32.toInt ((yK.ag (F := []) yK.rf (show yAg S [46] d_30 d_36 from by rw [ed_36]; exact yAg.cs yAg.rf (by rw [hky_31]; decide)) (by rw [hk_h0]; decide)) 0 (by decide))
      have hE1d_36 : (d_36.1 h0 1).toInt = (d_30.1 h0 1).toInt := congrArg Int32.toInt ((yK.ag (F := []) yK.rf (show yAg S [46] d_30 d_36 from by rw [ed_36]; exact yAg.cs yAg.rf (by rw [hky_31]; decide)) (by rw [hk_h0]; decide)) 1 (by decide))
      have hE2d_36 : (d_36.1 h0 2).toInt = (d_30.1 h0 2).toInt := congrArg Int32.toInt ((yK.ag (F := []) yK.rf (show yAg S [46] d_30 d_36 from by rw [ed_36]; exact yAg.cs yAg.rf (by rw [hky_31]; decide)) (by rw [hk_h0]; decide)) 2 (by decide))
      have hE3d_36 : (d_36.1 h0 3).toInt = (d_30.1 h0 3).toInt := congrArg Int32.toInt ((yK.ag (F := []) yK.rf (show yAg S [46] d_30 d_36 from by rw [ed_36]; exact yAg.cs yAg.rf (by rw [hky_31]; decide)) (by rw [hk_h0]; decide)) 3 (by decide))
      have hE63d_36 : (d_36.1 h0 63).toInt = (d_30.1 h0 63).toInt := congrArg Int32.toInt ((yK.ag (F := []) yK.rf (show yAg S [46] d_30 d_36 from by rw [ed_36]; exact yAg.cs yAg.rf (by rw [hky_31]; decide)) (by rw [hk_h0]; decide)) 63 (by decide))
      refine lv_aload_n hx hb dX9_clear_100 rfl (lv_at hl 3 rfl) ?_
      refine yget (ci := 9) (k := 17) (v := .ref (S.2.2.1 h0 17)) (C := RX9) (T := TX9) (N := 67) C0 hK hP hm_h0 hk_h0 (by decide) rfl inlX9 (by decide) mW124 (fun _ h9 => h9) rfl dX9_clear_101 ?_
      obtain ⟨hmy_38, hky_38⟩ := ySh.f9_17 hSh _ hm_h0 hk_h0
      refine lv_iload hx hb dX9_clear_104 (lv_at hl 1 rfl) ?_
      refine lv_iload hx hb dX9_clear_106 (lv_at hl 2 rfl) ?_
      refine lv_isub hx hb dX9_clear_108 ?_
      refine lv_topi (fun z_39 ez_39 => ?_)
      refine lv_aload_n hx hb dX9_clear_109 rfl (lv_at hl 3 rfl) ?_
      refine yget (ci := 9) (k := 17) (v := .ref (S.2.2.1 h0 17)) (C := RX9) (T := TX9) (N := 67) C0 hK hP hm_h0 hk_h0 (by decide) rfl inlX9 (by decide) mW124 (fun _ h9 => h9) rfl dX9_clear_110 ?_
      refine lv_iload hx hb dX9_clear_113 (lv_at hl 1 rfl) ?_
      have hCC_40 := yMI.c hId_36
      refine yaldB C0 hK hP hmy_38 hky_38 (by decide) rfl 1 rfl (xinT 5000 rfl (by omega) (by omega)) dX9_clear_115 ?_
      refine lv_topi (fun z_41 ez_41 => ?_)
      have T_42 : (z_39 : Int32).toInt = (v_2 : Int32).toInt - (v_1 : Int32).toInt := tsub ez_39 (rfl : (v_2 : Int32).toInt = (v_2 : Int32).toInt) (rfl : (v_1 : Int32).toInt = (v_1 : Int32).toInt) (by omega) (by omega)
      refine yastB C0 hK hP hD hS hmy_38 hky_38 (by decide) rfl 1 rfl (xinT 5000 rfl (by omega) (by omega)) dX9_clear_116 (fun H locs hP hD hS => ?_)
      obtain ⟨d_43, ed_43⟩ : ∃ z : yD, z = ycs d_36 (S.2.2.1 h0 17) (upd (d_36.2.2.2.1 (S.2.2.1 h0 17)) (z_39 : Int32).toNatClampNeg (vp_nar .byte z_41)) := ⟨_, rfl⟩
      rw [← ed_43] at hP hD
      have hgd_43 : yAg S [9, 45, 46, 47] d d_43 := by rw [ed_43]; exact yAg.cs hgd_36 (by rw [hky_38]; decide)
      have hPod_43 : yPo S d_43 := by rw [ed_43]; exact hPod_36
      have hfd_43 : yK [1] d d_43 h0 := yK.ag hfd_36 (show yAg S [47] d_36 d_43 from by rw [ed_43]; exact yAg.cs yAg.rf (by rw [hky_38]; decide)) (by rw [hk_h0]; decide)
      have hId_43 : yMI S d_43 h0 := yMI.ag hId_36 hSh hm_h0 hk_h0 (show yAg S [47] d_36 d_43 from by rw [ed_43]; exact yAg.cs yAg.rf (by rw [hky_38]; decide)) (yK.ag (F := []) yK.rf (show yAg S [47] d_36 d_43 from by rw [ed_43]; exact yAg.cs yAg.rf (by rw [hky_38]; decide)) (by rw [hk_h0]; decide)) (by decide) (by decide)
      have hE0d_43 : (d_43.1 h0 0).toInt = (d_36.1 h0 0).toInt := congrArg Int32.toInt ((yK.ag (F := []) yK.rf (show yAg S [47] d_36 d_43 from by rw [ed_43]; exact yAg.cs yAg.rf (by rw [hky_38]; decide)) (by rw [hk_h0]; decide)) 0 (by decide))
      have hE1d_43 : (d_43.1 h0 1).toInt = (d_36.1 h0 1).toInt := congrArg Int32.toInt ((yK.ag (F := []) yK.rf (show yAg S [47] d_36 d_43 from by rw [ed_43]; exact yAg.cs yAg.rf (by rw [hky_38]; decide)) (by rw [hk_h0]; decide)) 1 (by decide))
      have hE2d_43 : (d_43.1 h0 2).toInt = (d_36.1 h0 2).toInt := congrArg Int32.toInt ((yK.ag (F := []) yK.rf (show yAg S [47] d_36 d_43 from by rw [ed_43]; exact yAg.cs yAg.rf (by rw [hky_38]; decide)) (by rw [hk_h0]; decide)) 2 (by decide))
      have hE3d_43 : (d_43.1 h0 3).toInt = (d_36.1 h0 3).toInt := congrArg Int32.toInt ((yK.ag (F := []) yK.rf (show yAg S [47] d_36 d_43 from by rw [ed_43]; exact yAg.cs yAg.rf (by rw [hky_38]; decide)) (by rw [hk_h0]; decide)) 3 (by decide))
      have hE63d_43 : (d_43.1 h0 63).toInt = (d_36.1 h0 63).toInt := congrArg Int32.toInt ((yK.ag (F := []) yK.rf (show yAg S [47] d_36 d_43 from by rw [ed_43]; exact yAg.cs yAg.rf (by rw [hky_38]; decide)) (by rw [hk_h0]; decide)) 63 (by decide))
      refine lv_iinc (v := v_2 + 1) (lv' := [(5, .int (v_2 + 1)), (6, .int 0), (4, .int v_1), (0, .ref h0), (1, .int p0), (2, .int p1), (3, .int p2)]) hx hb dX9_clear_117 hl (k := 1) rfl rfl (by decide) rfl (fun ls hl => ?_)
      refine lv_goto (tgt := 6) hx hb dX9_clear_120 (by decide) ?_
      exact hnext_4 (v_1, v_2 + 1, d_43) _ _ ls (xup c_7) ⟨hP, hD, hS, hgd_43, hPod_43, hfd_43, hId_43, (yCl.miss hex_5 hSh hm_h0 hk_h0 hId_3 ez_6 c_7 (yCl.n1 hex_5 ez_21 c_22) ez_24 ez_32 ed_30 ed_36 ed_43), lv_sub hl [0, 2, 3, 4, 5, 6] rfl⟩
    · refine lv_aload_n hx hb dX9_clear_26 rfl (lv_at hl 2 rfl) ?_
      refine yget (ci := 9) (k := 16) (v := .ref (S.2.2.1 h0 16)) (C := RX9) (T := TX9) (N := 67) C0 hK hP hm_h0 hk_h0 (by decide) rfl inlX9 (by decide) mW123 (fun _ h9 => h9) rfl dX9_clear_27 ?_
      obtain ⟨hmy_45, hky_45⟩ := ySh.f9_16 hSh _ hm_h0 hk_h0
      refine lv_iload hx hb dX9_clear_30 (lv_at hl 0 rfl) ?_
      have F_47 := feq (rfl : (z_21 : Int32).toInt = (z_21 : Int32).toInt) (rfl : (p0 : Int32).toInt = (p0 : Int32).toInt) c_22
      refine yald C0 hK hP hmy_45 hky_45 (by decide) rfl 0 rfl (xinT 5000 rfl (by omega) (by omega)) dX9_clear_32 ?_
      refine lv_topi (fun z_48 ez_48 => ?_)
      have hvz_48 : 0 ≤ (z_48 : Int32).toInt ∧ (z_48 : Int32).toInt ≤ 129599 := by rw [ez_48]; exact yMI.em_ hId_3 _
      refine lv_iload_n hx hb dX9_clear_33 rfl (lv_at hl 4 rfl) ?_
      refine lv_icmp_lt (tgt := 52) hx hb dX9_clear_34 (by decide) (fun c_49 => ?_) (fun c_49 => ?_)
      · refine lv_iconst (v := 0) hx hb dX9_clear_52 (by decide) ?_
        refine lv_istore (lv' := [(6, .int 0), (5, .int v_2), (4, .int v_1), (0, .ref h0), (1, .int p0), (2, .int p1), (3, .int p2)]) hx hb dX9_clear_53 hl (by decide) rfl (fun ls hl => ?_)
        refine lv_iload hx hb dX9_clear_55 (lv_at hl 0 rfl) ?_
        refine lv_if_eq (tgt := 66) hx hb dX9_clear_57 (by decide) (fun c_50 => ?_) (fun c_50 => absurd c_50 (by decide +kernel))
        refine lv_aload_n hx hb dX9_clear_66 rfl (lv_at hl 3 rfl) ?_
        refine yget (ci := 9) (k := 15) (v := .ref (S.2.2.1 h0 15)) (C := RX9) (T := TX9) (N := 67) C0 hK hP hm_h0 hk_h0 (by decide) rfl inlX9 (by decide) mW122 (fun _ h9 => h9) rfl dX9_clear_67 ?_
        refine lv_iload hx hb dX9_clear_70 (lv_at hl 1 rfl) ?_
        refine lv_iload hx hb dX9_clear_72 (lv_at hl 2 rfl) ?_
        refine lv_isub hx hb dX9_clear_74 ?_
        refine lv_topi (fun z_51 ez_51 => ?_)
        refine lv_aload_n hx hb dX9_clear_75 rfl (lv_at hl 3 rfl) ?_
        refine yget (ci := 9) (k := 15) (v := .ref (S.2.2.1 h0 15)) (C := RX9) (T := TX9) (N := 67) C0 hK hP hm_h0 hk_h0 (by decide) rfl inlX9 (by decide) mW122 (fun _ h9 => h9) rfl dX9_clear_76 ?_
        refine lv_iload hx hb dX9_clear_79 (lv_at hl 1 rfl) ?_
        have F_53 := flt (rfl : (z_48 : Int32).toInt = (z_48 : Int32).toInt) (rfl : (p1 : Int32).toInt = (p1 : Int32).toInt) c_49
        have F_54 := feq (by decide +kernel : (0 : Int32).toInt = 0) (by decide +kernel : (0 : Int32).toInt = 0) c_50
        refine yaldB C0 hK hP hmy_17 hky_17 (by decide) rfl 1 rfl (xinT 5000 rfl (by omega) (by omega)) dX9_clear_81 ?_
        refine lv_topi (fun z_55 ez_55 => ?_)
        have T_56 : (z_51 : Int32).toInt = (v_2 : Int32).toInt - (v_1 : Int32).toInt := tsub ez_51 (rfl : (v_2 : Int32).toInt = (v_2 : Int32).toInt) (rfl : (v_1 : Int32).toInt = (v_1 : Int32).toInt) (by omega) (by omega)
        refine yastB C0 hK hP hD hS hmy_17 hky_17 (by decide) rfl 1 rfl (xinT 5000 rfl (by omega) (by omega)) dX9_clear_82 (fun H locs hP hD hS => ?_)
        obtain ⟨d_57, ed_57⟩ : ∃ z : yD, z = ycs d_3 (S.2.2.1 h0 15) (upd (d_3.2.2.2.1 (S.2.2.1 h0 15)) (z_51 : Int32).toNatClampNeg (vp_nar .byte z_55)) := ⟨_, rfl⟩
        rw [← ed_57] at hP hD
        have hgd_57 : yAg S [9, 45, 46, 47] d d_57 := by rw [ed_57]; exact yAg.cs hgd_3 (by rw [hky_17]; decide)
        have hPod_57 : yPo S d_57 := by rw [ed_57]; exact hPod_3
        have hfd_57 : yK [1] d d_57 h0 := yK.ag hfd_3 (show yAg S [45] d_3 d_57 from by rw [ed_57]; exact yAg.cs yAg.rf (by rw [hky_17]; decide)) (by rw [hk_h0]; decide)
        have hId_57 : yMI S d_57 h0 := yMI.ag hId_3 hSh hm_h0 hk_h0 (show yAg S [45] d_3 d_57 from by rw [ed_57]; exact yAg.cs yAg.rf (by rw [hky_17]; decide)) (yK.ag (F := []) yK.rf (show yAg S [45] d_3 d_57 from by rw [ed_57]; exact yAg.cs yAg.rf (by rw [hky_17]; decide)) (by rw [hk_h0]; decide)) (by decide) (by decide)
        have hE0d_57 : (d_57.1 h0 0).toInt = (d_3.1 h0 0).toInt := congrArg Int32.toInt ((yK.ag (F := []) yK.rf (show yAg S [45] d_3 d_57 from by rw [ed_57]; exact yAg.cs yAg.rf (by rw [hky_17]; decide)) (by rw [hk_h0]; decide)) 0 (by decide))
        have hE1d_57 : (d_57.1 h0 1).toInt = (d_3.1 h0 1).toInt := congrArg Int32.toInt ((yK.ag (F := []) yK.rf (show yAg S [45] d_3 d_57 from by rw [ed_57]; exact yAg.cs yAg.rf (by rw [hky_17]; decide)) (by rw [hk_h0]; decide)) 1 (by decide))
        have hE2d_57 : (d_57.1 h0 2).toInt = (d_3.1 h0 2).toInt := congrArg Int32.toInt ((yK.ag (F := []) yK.rf (show yAg S [45] d_3 d_57 from by rw [ed_57]; exact yAg.cs yAg.rf (by rw [hky_17]; decide)) (by rw [hk_h0]; decide)) 2 (by decide))
        have hE3d_57 : (d_57.1 h0 3).toInt = (d_3.1 h0 3).toInt := congrArg Int32.toInt ((yK.ag (F := []) yK.rf (show yAg S [45] d_3 d_57 from by rw [ed_57]; exact yAg.cs yAg.rf (by rw [hky_17]; decide)) (by rw [hk_h0]; decide)) 3 (by decide))
        have hE63d_57 : (d_57.1 h0 63).toInt = (d_3.1 h0 63).toInt := congrArg Int32.toInt ((yK.ag (F := []) yK.rf (show yAg S [45] d_3 d_57 from by rw [ed_57]; exact yAg.cs yAg.rf (by rw [hky_17]; decide)) (by rw [hk_h0]; decide)) 63 (by decide))
        refine lv_aload_n hx hb dX9_clear_83 rfl (lv_at hl 3 rfl) ?_
        refine yget (ci := 9) (k := 16) (v := .ref (S.2.2.1 h0 16)) (C := RX9) (T := TX9) (N := 67) C0 hK hP hm_h0 hk_h0 (by decide) rfl inlX9 (by decide) mW123 (fun _ h9 => h9) rfl dX9_clear_84 ?_
        refine lv_iload hx hb dX9_clear_87 (lv_at hl 1 rfl) ?_
        refine lv_iload hx hb dX9_clear_89 (lv_at hl 2 rfl) ?_
        refine lv_isub hx hb dX9_clear_91 ?_
        refine lv_topi (fun z_58 ez_58 => ?_)
        refine lv_aload_n hx hb dX9_clear_92 rfl (lv_at hl 3 rfl) ?_
        refine yget (ci := 9) (k := 16) (v := .ref (S.2.2.1 h0 16)) (C := RX9) (T := TX9) (N := 67) C0 hK hP hm_h0 hk_h0 (by decide) rfl inlX9 (by decide) mW123 (fun _ h9 => h9) rfl dX9_clear_93 ?_
        refine lv_iload hx hb dX9_clear_96 (lv_at hl 1 rfl) ?_
        have hCC_59 := yMI.c hId_57
        refine yald C0 hK hP hmy_45 hky_45 (by decide) rfl 0 rfl (xinT 5000 rfl (by omega) (by omega)) dX9_clear_98 ?_
        refine lv_topi (fun z_60 ez_60 => ?_)
        have hvz_60 : 0 ≤ (z_60 : Int32).toInt ∧ (z_60 : Int32).toInt ≤ 129599 := by rw [ez_60]; exact yMI.em_ hId_57 _
        have T_61 : (z_58 : Int32).toInt = (v_2 : Int32).toInt - (v_1 : Int32).toInt := tsub ez_58 (rfl : (v_2 : Int32).toInt = (v_2 : Int32).toInt) (rfl : (v_1 : Int32).toInt = (v_1 : Int32).toInt) (by omega) (by omega)
        refine yast C0 hK hP hD hS hmy_45 hky_45 (by decide) rfl 0 rfl (xinT 5000 rfl (by omega) (by omega)) dX9_clear_99 (fun H locs hP hD hS => ?_)
        obtain ⟨d_62, ed_62⟩ : ∃ z : yD, z = ycs d_57 (S.2.2.1 h0 16) (upd (d_57.2.2.2.1 (S.2.2.1 h0 16)) (z_58 : Int32).toNatClampNeg z_60) := ⟨_, rfl⟩
        rw [← ed_62] at hP hD
        have hgd_62 : yAg S [9, 45, 46, 47] d d_62 := by rw [ed_62]; exact yAg.cs hgd_57 (by rw [hky_45]; decide)
        have hPod_62 : yPo S d_62 := by rw [ed_62]; exact hPod_57
        have hfd_62 : yK [1] d d_62 h0 := yK.ag hfd_57 (show yAg S [46] d_57 d_62 from by rw [ed_62]; exact yAg.cs yAg.rf (by rw [hky_45]; decide)) (by rw [hk_h0]; decide)
        have hId_62 : yMI S d_62 h0 := by rw [ed_62]; exact yMI.w16 hId_57 hSh hm_h0 hk_h0 (yBr.up (yMI.em_ hId_57) ⟨by omega, by omega⟩)
        have hE0d_62 : (d_62.1 h0 0).toInt = (d_57.1 h0 0).toInt := congrArg Int32.toInt ((yK.ag (F := []) yK.rf (show yAg S [46] d_57 d_62 from by rw [ed_62]; exact yAg.cs yAg.rf (by rw [hky_45]; decide)) (by rw [hk_h0]; decide)) 0 (by decide))
        have hE1d_62 : (d_62.1 h0 1).toInt = (d_57.1 h0 1).toInt := congrArg Int32.toInt ((yK.ag (F := []) yK.rf (show yAg S [46] d_57 d_62 from by rw [ed_62]; exact yAg.cs yAg.rf (by rw [hky_45]; decide)) (by rw [hk_h0]; decide)) 1 (by decide))
        have hE2d_62 : (d_62.1 h0 2).toInt = (d_57.1 h0 2).toInt := congrArg Int32.toInt ((yK.ag (F := []) yK.rf (show yAg S [46] d_57 d_62 from by rw [ed_62]; exact yAg.cs yAg.rf (by rw [hky_45]; decide)) (by rw [hk_h0]; decide)) 2 (by decide))
        have hE3d_62 : (d_62.1 h0 3).toInt = (d_57.1 h0 3).toInt := congrArg Int32.toInt ((yK.ag (F := []) yK.rf (show yAg S [46] d_57 d_62 from by rw [ed_62]; exact yAg.cs yAg.rf (by rw [hky_45]; decide)) (by rw [hk_h0]; decide)) 3 (by decide))
        have hE63d_62 : (d_62.1 h0 63).toInt = (d_57.1 h0 63).toInt := congrArg Int32.toInt ((yK.ag (F := []) yK.rf (show yAg S [46] d_57 d_62 from by rw [ed_62]; exact yAg.cs yAg.rf (by rw [hky_45]; decide)) (by rw [hk_h0]; decide)) 63 (by decide))
        refine lv_aload_n hx hb dX9_clear_100 rfl (lv_at hl 3 rfl) ?_
        refine yget (ci := 9) (k := 17) (v := .ref (S.2.2.1 h0 17)) (C := RX9) (T := TX9) (N := 67) C0 hK hP hm_h0 hk_h0 (by decide) rfl inlX9 (by decide) mW124 (fun _ h9 => h9) rfl dX9_clear_101 ?_
        obtain ⟨hmy_64, hky_64⟩ := ySh.f9_17 hSh _ hm_h0 hk_h0
        refine lv_iload hx hb dX9_clear_104 (lv_at hl 1 rfl) ?_
        refine lv_iload hx hb dX9_clear_106 (lv_at hl 2 rfl) ?_
        refine lv_isub hx hb dX9_clear_108 ?_
        refine lv_topi (fun z_65 ez_65 => ?_)
        refine lv_aload_n hx hb dX9_clear_109 rfl (lv_at hl 3 rfl) ?_
        refine yget (ci := 9) (k := 17) (v := .ref (S.2.2.1 h0 17)) (C := RX9) (T := TX9) (N := 67) C0 hK hP hm_h0 hk_h0 (by decide) rfl inlX9 (by decide) mW124 (fun _ h9 => h9) rfl dX9_clear_110 ?_
        refine lv_iload hx hb dX9_clear_113 (lv_at hl 1 rfl) ?_
        have hCC_66 := yMI.c hId_62
        refine yaldB C0 hK hP hmy_64 hky_64 (by decide) rfl 1 rfl (xinT 5000 rfl (by omega) (by omega)) dX9_clear_115 ?_
        refine lv_topi (fun z_67 ez_67 => ?_)
        have T_68 : (z_65 : Int32).toInt = (v_2 : Int32).toInt - (v_1 : Int32).toInt := tsub ez_65 (rfl : (v_2 : Int32).toInt = (v_2 : Int32).toInt) (rfl : (v_1 : Int32).toInt = (v_1 : Int32).toInt) (by omega) (by omega)
        refine yastB C0 hK hP hD hS hmy_64 hky_64 (by decide) rfl 1 rfl (xinT 5000 rfl (by omega) (by omega)) dX9_clear_116 (fun H locs hP hD hS => ?_)
        obtain ⟨d_69, ed_69⟩ : ∃ z : yD, z = ycs d_62 (S.2.2.1 h0 17) (upd (d_62.2.2.2.1 (S.2.2.1 h0 17)) (z_65 : Int32).toNatClampNeg (vp_nar .byte z_67)) := ⟨_, rfl⟩
        rw [← ed_69] at hP hD
        have hgd_69 : yAg S [9, 45, 46, 47] d d_69 := by rw [ed_69]; exact yAg.cs hgd_62 (by rw [hky_64]; decide)
        have hPod_69 : yPo S d_69 := by rw [ed_69]; exact hPod_62
        have hfd_69 : yK [1] d d_69 h0 := yK.ag hfd_62 (show yAg S [47] d_62 d_69 from by rw [ed_69]; exact yAg.cs yAg.rf (by rw [hky_64]; decide)) (by rw [hk_h0]; decide)
        have hId_69 : yMI S d_69 h0 := yMI.ag hId_62 hSh hm_h0 hk_h0 (show yAg S [47] d_62 d_69 from by rw [ed_69]; exact yAg.cs yAg.rf (by rw [hky_64]; decide)) (yK.ag (F := []) yK.rf (show yAg S [47] d_62 d_69 from by rw [ed_69]; exact yAg.cs yAg.rf (by rw [hky_64]; decide)) (by rw [hk_h0]; decide)) (by decide) (by decide)
        have hE0d_69 : (d_69.1 h0 0).toInt = (d_62.1 h0 0).toInt := congrArg Int32.toInt ((yK.ag (F := []) yK.rf (show yAg S [47] d_62 d_69 from by rw [ed_69]; exact yAg.cs yAg.rf (by rw [hky_64]; decide)) (by rw [hk_h0]; decide)) 0 (by decide))
        have hE1d_69 : (d_69.1 h0 1).toInt = (d_62.1 h0 1).toInt := congrArg Int32.toInt ((yK.ag (F := []) yK.rf (show yAg S [47] d_62 d_69 from by rw [ed_69]; exact yAg.cs yAg.rf (by rw [hky_64]; decide)) (by rw [hk_h0]; decide)) 1 (by decide))
        have hE2d_69 : (d_69.1 h0 2).toInt = (d_62.1 h0 2).toInt := congrArg Int32.toInt ((yK.ag (F := []) yK.rf (show yAg S [47] d_62 d_69 from by rw [ed_69]; exact yAg.cs yAg.rf (by rw [hky_64]; decide)) (by rw [hk_h0]; decide)) 2 (by decide))
        have hE3d_69 : (d_69.1 h0 3).toInt = (d_62.1 h0 3).toInt := congrArg Int32.toInt ((yK.ag (F := []) yK.rf (show yAg S [47] d_62 d_69 from by rw [ed_69]; exact yAg.cs yAg.rf (by rw [hky_64]; decide)) (by rw [hk_h0]; decide)) 3 (by decide))
        have hE63d_69 : (d_69.1 h0 63).toInt = (d_62.1 h0 63).toInt := congrArg Int32.toInt ((yK.ag (F := []) yK.rf (show yAg S [47] d_62 d_69 from by rw [ed_69]; exact yAg.cs yAg.rf (by rw [hky_64]; decide)) (by rw [hk_h0]; decide)) 63 (by decide))
        refine lv_iinc (v := v_2 + 1) (lv' := [(5, .int (v_2 + 1)), (6, .int 0), (4, .int v_1), (0, .ref h0), (1, .int p0), (2, .int p1), (3, .int p2)]) hx hb dX9_clear_117 hl (k := 1) rfl rfl (by decide) rfl (fun ls hl => ?_)
        refine lv_goto (tgt := 6) hx hb dX9_clear_120 (by decide) ?_
        exact hnext_4 (v_1, v_2 + 1, d_69) _ _ ls (xup c_7) ⟨hP, hD, hS, hgd_69, hPod_69, hfd_69, hId_69, (yCl.miss hex_5 hSh hm_h0 hk_h0 hId_3 ez_6 c_7 (yCl.n2 hex_5 ez_48 c_49) ez_51 ez_58 ed_57 ed_62 ed_69), lv_sub hl [0, 2, 3, 4, 5, 6] rfl⟩
      · refine lv_aload_n hx hb dX9_clear_37 rfl (lv_at hl 2 rfl) ?_
        refine yget (ci := 9) (k := 16) (v := .ref (S.2.2.1 h0 16)) (C := RX9) (T := TX9) (N := 67) C0 hK hP hm_h0 hk_h0 (by decide) rfl inlX9 (by decide) mW123 (fun _ h9 => h9) rfl dX9_clear_38 ?_
        refine lv_iload hx hb dX9_clear_41 (lv_at hl 0 rfl) ?_
        have F_72 := fnlt (rfl : (z_48 : Int32).toInt = (z_48 : Int32).toInt) (rfl : (p1 : Int32).toInt = (p1 : Int32).toInt) c_49
        refine yald C0 hK hP hmy_45 hky_45 (by decide) rfl 0 rfl (xinT 5000 rfl (by omega) (by omega)) dX9_clear_43 ?_
        refine lv_topi (fun z_73 ez_73 => ?_)
        have hvz_73 : 0 ≤ (z_73 : Int32).toInt ∧ (z_73 : Int32).toInt ≤ 129599 := by rw [ez_73]; exact yMI.em_ hId_3 _
        refine lv_iload_n hx hb dX9_clear_44 rfl (lv_at hl 5 rfl) ?_
        refine lv_icmp_ge (tgt := 52) hx hb dX9_clear_45 (by decide) (fun c_74 => ?_) (fun c_74 => ?_)
        · refine lv_iconst (v := 0) hx hb dX9_clear_52 (by decide) ?_
          refine lv_istore (lv' := [(6, .int 0), (5, .int v_2), (4, .int v_1), (0, .ref h0), (1, .int p0), (2, .int p1), (3, .int p2)]) hx hb dX9_clear_53 hl (by decide) rfl (fun ls hl => ?_)
          refine lv_iload hx hb dX9_clear_55 (lv_at hl 0 rfl) ?_
          refine lv_if_eq (tgt := 66) hx hb dX9_clear_57 (by decide) (fun c_75 => ?_) (fun c_75 => absurd c_75 (by decide +kernel))
          refine lv_aload_n hx hb dX9_clear_66 rfl (lv_at hl 3 rfl) ?_
          refine yget (ci := 9) (k := 15) (v := .ref (S.2.2.1 h0 15)) (C := RX9) (T := TX9) (N := 67) C0 hK hP hm_h0 hk_h0 (by decide) rfl inlX9 (by decide) mW122 (fun _ h9 => h9) rfl dX9_clear_67 ?_
          refine lv_iload hx hb dX9_clear_70 (lv_at hl 1 rfl) ?_
          refine lv_iload hx hb dX9_clear_72 (lv_at hl 2 rfl) ?_
          refine lv_isub hx hb dX9_clear_74 ?_
          refine lv_topi (fun z_76 ez_76 => ?_)
          refine lv_aload_n hx hb dX9_clear_75 rfl (lv_at hl 3 rfl) ?_
          refine yget (ci := 9) (k := 15) (v := .ref (S.2.2.1 h0 15)) (C := RX9) (T := TX9) (N := 67) C0 hK hP hm_h0 hk_h0 (by decide) rfl inlX9 (by decide) mW122 (fun _ h9 => h9) rfl dX9_clear_76 ?_
          refine lv_iload hx hb dX9_clear_79 (lv_at hl 1 rfl) ?_
          have F_78 := fle (rfl : (p2 : Int32).toInt = (p2 : Int32).toInt) (rfl : (z_73 : Int32).toInt = (z_73 : Int32).toInt) c_74
          have F_79 := feq (by decide +kernel : (0 : Int32).toInt = 0) (by decide +kernel : (0 : Int32).toInt = 0) c_75
          refine yaldB C0 hK hP hmy_17 hky_17 (by decide) rfl 1 rfl (xinT 5000 rfl (by omega) (by omega)) dX9_clear_81 ?_
          refine lv_topi (fun z_80 ez_80 => ?_)
          have T_81 : (z_76 : Int32).toInt = (v_2 : Int32).toInt - (v_1 : Int32).toInt := tsub ez_76 (rfl : (v_2 : Int32).toInt = (v_2 : Int32).toInt) (rfl : (v_1 : Int32).toInt = (v_1 : Int32).toInt) (by omega) (by omega)
          refine yastB C0 hK hP hD hS hmy_17 hky_17 (by decide) rfl 1 rfl (xinT 5000 rfl (by omega) (by omega)) dX9_clear_82 (fun H locs hP hD hS => ?_)
          obtain ⟨d_82, ed_82⟩ : ∃ z : yD, z = ycs d_3 (S.2.2.1 h0 15) (upd (d_3.2.2.2.1 (S.2.2.1 h0 15)) (z_76 : Int32).toNatClampNeg (vp_nar .byte z_80)) := ⟨_, rfl⟩
          rw [← ed_82] at hP hD
          have hgd_82 : yAg S [9, 45, 46, 47] d d_82 := by rw [ed_82]; exact yAg.cs hgd_3 (by rw [hky_17]; decide)
          have hPod_82 : yPo S d_82 := by rw [ed_82]; exact hPod_3
          have hfd_82 : yK [1] d d_82 h0 := yK.ag hfd_3 (show yAg S [45] d_3 d_82 from by rw [ed_82]; exact yAg.cs yAg.rf (by rw [hky_17]; decide)) (by rw [hk_h0]; decide)
          have hId_82 : yMI S d_82 h0 := yMI.ag hId_3 hSh hm_h0 hk_h0 (show yAg S [45] d_3 d_82 from by rw [ed_82]; exact yAg.cs yAg.rf (by rw [hky_17]; decide)) (yK.ag (F := []) yK.rf (show yAg S [45] d_3 d_82 from by rw [ed_82]; exact yAg.cs yAg.rf (by rw [hky_17]; decide)) (by rw [hk_h0]; decide)) (by decide) (by decide)
          have hE0d_82 : (d_82.1 h0 0).toInt = (d_3.1 h0 0).toInt := congrArg Int32.toInt ((yK.ag (F := []) yK.rf (show yAg S [45] d_3 d_82 from by rw [ed_82]; exact yAg.cs yAg.rf (by rw [hky_17]; decide)) (by rw [hk_h0]; decide)) 0 (by decide))
          have hE1d_82 : (d_82.1 h0 1).toInt = (d_3.1 h0 1).toInt := congrArg Int32.toInt ((yK.ag (F := []) yK.rf (show yAg S [45] d_3 d_82 from by rw [ed_82]; exact yAg.cs yAg.rf (by rw [hky_17]; decide)) (by rw [hk_h0]; decide)) 1 (by decide))
          have hE2d_82 : (d_82.1 h0 2).toInt = (d_3.1 h0 2).toInt := congrArg Int32.toInt ((yK.ag (F := []) yK.rf (show yAg S [45] d_3 d_82 from by rw [ed_82]; exact yAg.cs yAg.rf (by rw [hky_17]; decide)) (by rw [hk_h0]; decide)) 2 (by decide))
          have hE3d_82 : (d_82.1 h0 3).toInt = (d_3.1 h0 3).toInt := congrArg Int32.toInt ((yK.ag (F := []) yK.rf (show yAg S [45] d_3 d_82 from by rw [ed_82]; exact yAg.cs yAg.rf (by rw [hky_17]; decide)) (by rw [hk_h0]; decide)) 3 (by decide))
          have hE63d_82 : (d_82.1 h0 63).toInt = (d_3.1 h0 63).toInt := congrArg Int32.toInt ((yK.ag (F := []) yK.rf (show yAg S [45] d_3 d_82 from by rw [ed_82]; exact yAg.cs yAg.rf (by rw [hky_17]; decide)) (by rw [hk_h0]; decide)) 63 (by decide))
          refine lv_aload_n hx hb dX9_clear_83 rfl (lv_at hl 3 rfl) ?_
          refine yget (ci := 9) (k := 16) (v := .ref (S.2.2.1 h0 16)) (C := RX9) (T := TX9) (N := 67) C0 hK hP hm_h0 hk_h0 (by decide) rfl inlX9 (by decide) mW123 (fun _ h9 => h9) rfl dX9_clear_84 ?_
          refine lv_iload hx hb dX9_clear_87 (lv_at hl 1 rfl) ?_
          refine lv_iload hx hb dX9_clear_89 (lv_at hl 2 rfl) ?_
          refine lv_isub hx hb dX9_clear_91 ?_
          refine lv_topi (fun z_83 ez_83 => ?_)
          refine lv_aload_n hx hb dX9_clear_92 rfl (lv_at hl 3 rfl) ?_
          refine yget (ci := 9) (k := 16) (v := .ref (S.2.2.1 h0 16)) (C := RX9) (T := TX9) (N := 67) C0 hK hP hm_h0 hk_h0 (by decide) rfl inlX9 (by decide) mW123 (fun _ h9 => h9) rfl dX9_clear_93 ?_
          refine lv_iload hx hb dX9_clear_96 (lv_at hl 1 rfl) ?_
          have hCC_84 := yMI.c hId_82
          refine yald C0 hK hP hmy_45 hky_45 (by decide) rfl 0 rfl (xinT 5000 rfl (by omega) (by omega)) dX9_clear_98 ?_
          refine lv_topi (fun z_85 ez_85 => ?_)
          have hvz_85 : 0 ≤ (z_85 : Int32).toInt ∧ (z_85 : Int32).toInt ≤ 129599 := by rw [ez_85]; exact yMI.em_ hId_82 _
          have T_86 : (z_83 : Int32).toInt = (v_2 : Int32).toInt - (v_1 : Int32).toInt := tsub ez_83 (rfl : (v_2 : Int32).toInt = (v_2 : Int32).toInt) (rfl : (v_1 : Int32).toInt = (v_1 : Int32).toInt) (by omega) (by omega)
          refine yast C0 hK hP hD hS hmy_45 hky_45 (by decide) rfl 0 rfl (xinT 5000 rfl (by omega) (by omega)) dX9_clear_99 (fun H locs hP hD hS => ?_)
          obtain ⟨d_87, ed_87⟩ : ∃ z : yD, z = ycs d_82 (S.2.2.1 h0 16) (upd (d_82.2.2.2.1 (S.2.2.1 h0 16)) (z_83 : Int32).toNatClampNeg z_85) := ⟨_, rfl⟩
          rw [← ed_87] at hP hD
          have hgd_87 : yAg S [9, 45, 46, 47] d d_87 := by rw [ed_87]; exact yAg.cs hgd_82 (by rw [hky_45]; decide)
          have hPod_87 : yPo S d_87 := by rw [ed_87]; exact hPod_82
          have hfd_87 : yK [1] d d_87 h0 := yK.ag hfd_82 (show yAg S [46] d_82 d_87 from by rw [ed_87]; exact yAg.cs yAg.rf (by rw [hky_45]; decide)) (by rw [hk_h0]; decide)
          have hId_87 : yMI S d_87 h0 := by rw [ed_87]; exact yMI.w16 hId_82 hSh hm_h0 hk_h0 (yBr.up (yMI.em_ hId_82) ⟨by omega, by omega⟩)
          have hE0d_87 : (d_87.1 h0 0).toInt = (d_82.1 h0 0).toInt := congrArg Int32.toInt ((yK.ag (F := []) yK.rf (show yAg S [46] d_82 d_87 from by rw [ed_87]; exact yAg.cs yAg.rf (by rw [hky_45]; decide)) (by rw [hk_h0]; decide)) 0 (by decide))
          have hE1d_87 : (d_87.1 h0 1).toInt = (d_82.1 h0 1).toInt := congrArg Int32.toInt ((yK.ag (F := []) yK.rf (show yAg S [46] d_82 d_87 from by rw [ed_87]; exact yAg.cs yAg.rf (by rw [hky_45]; decide)) (by rw [hk_h0]; decide)) 1 (by decide))
          have hE2d_87 : (d_87.1 h0 2).toInt = (d_82.1 h0 2).toInt := congrArg Int32.toInt ((yK.ag (F := []) yK.rf (show yAg S [46] d_82 d_87 from by rw [ed_87]; exact yAg.cs yAg.rf (by rw [hky_45]; decide)) (by rw [hk_h0]; decide)) 2 (by decide))
          have hE3d_87 : (d_87.1 h0 3).toInt = (d_82.1 h0 3).toInt := congrArg Int32.toInt ((yK.ag (F := []) yK.rf (show yAg S [46] d_82 d_87 from by rw [ed_87]; exact yAg.cs yAg.rf (by rw [hky_45]; decide)) (by rw [hk_h0]; decide)) 3 (by decide))
          have hE63d_87 : (d_87.1 h0 63).toInt = (d_82.1 h0 63).toInt := congrArg Int32.toInt ((yK.ag (F := []) yK.rf (show yAg S [46] d_82 d_87 from by rw [ed_87]; exact yAg.cs yAg.rf (by rw [hky_45]; decide)) (by rw [hk_h0]; decide)) 63 (by decide))
          refine lv_aload_n hx hb dX9_clear_100 rfl (lv_at hl 3 rfl) ?_
          refine yget (ci := 9) (k := 17) (v := .ref (S.2.2.1 h0 17)) (C := RX9) (T := TX9) (N := 67) C0 hK hP hm_h0 hk_h0 (by decide) rfl inlX9 (by decide) mW124 (fun _ h9 => h9) rfl dX9_clear_101 ?_
          obtain ⟨hmy_89, hky_89⟩ := ySh.f9_17 hSh _ hm_h0 hk_h0
          refine lv_iload hx hb dX9_clear_104 (lv_at hl 1 rfl) ?_
          refine lv_iload hx hb dX9_clear_106 (lv_at hl 2 rfl) ?_
          refine lv_isub hx hb dX9_clear_108 ?_
          refine lv_topi (fun z_90 ez_90 => ?_)
          refine lv_aload_n hx hb dX9_clear_109 rfl (lv_at hl 3 rfl) ?_
          refine yget (ci := 9) (k := 17) (v := .ref (S.2.2.1 h0 17)) (C := RX9) (T := TX9) (N := 67) C0 hK hP hm_h0 hk_h0 (by decide) rfl inlX9 (by decide) mW124 (fun _ h9 => h9) rfl dX9_clear_110 ?_
          refine lv_iload hx hb dX9_clear_113 (lv_at hl 1 rfl) ?_
          have hCC_91 := yMI.c hId_87
          refine yaldB C0 hK hP hmy_89 hky_89 (by decide) rfl 1 rfl (xinT 5000 rfl (by omega) (by omega)) dX9_clear_115 ?_
          refine lv_topi (fun z_92 ez_92 => ?_)
          have T_93 : (z_90 : Int32).toInt = (v_2 : Int32).toInt - (v_1 : Int32).toInt := tsub ez_90 (rfl : (v_2 : Int32).toInt = (v_2 : Int32).toInt) (rfl : (v_1 : Int32).toInt = (v_1 : Int32).toInt) (by omega) (by omega)
          refine yastB C0 hK hP hD hS hmy_89 hky_89 (by decide) rfl 1 rfl (xinT 5000 rfl (by omega) (by omega)) dX9_clear_116 (fun H locs hP hD hS => ?_)
          obtain ⟨d_94, ed_94⟩ : ∃ z : yD, z = ycs d_87 (S.2.2.1 h0 17) (upd (d_87.2.2.2.1 (S.2.2.1 h0 17)) (z_90 : Int32).toNatClampNeg (vp_nar .byte z_92)) := ⟨_, rfl⟩
          rw [← ed_94] at hP hD
          have hgd_94 : yAg S [9, 45, 46, 47] d d_94 := by rw [ed_94]; exact yAg.cs hgd_87 (by rw [hky_89]; decide)
          have hPod_94 : yPo S d_94 := by rw [ed_94]; exact hPod_87
          have hfd_94 : yK [1] d d_94 h0 := yK.ag hfd_87 (show yAg S [47] d_87 d_94 from by rw [ed_94]; exact yAg.cs yAg.rf (by rw [hky_89]; decide)) (by rw [hk_h0]; decide)
          have hId_94 : yMI S d_94 h0 := yMI.ag hId_87 hSh hm_h0 hk_h0 (show yAg S [47] d_87 d_94 from by rw [ed_94]; exact yAg.cs yAg.rf (by rw [hky_89]; decide)) (yK.ag (F := []) yK.rf (show yAg S [47] d_87 d_94 from by rw [ed_94]; exact yAg.cs yAg.rf (by rw [hky_89]; decide)) (by rw [hk_h0]; decide)) (by decide) (by decide)
          have hE0d_94 : (d_94.1 h0 0).toInt = (d_87.1 h0 0).toInt := congrArg Int32.toInt ((yK.ag (F := []) yK.rf (show yAg S [47] d_87 d_94 from by rw [ed_94]; exact yAg.cs yAg.rf (by rw [hky_89]; decide)) (by rw [hk_h0]; decide)) 0 (by decide))
          have hE1d_94 : (d_94.1 h0 1).toInt = (d_87.1 h0 1).toInt := congrArg Int32.toInt ((yK.ag (F := []) yK.rf (show yAg S [47] d_87 d_94 from by rw [ed_94]; exact yAg.cs yAg.rf (by rw [hky_89]; decide)) (by rw [hk_h0]; decide)) 1 (by decide))
          have hE2d_94 : (d_94.1 h0 2).toInt = (d_87.1 h0 2).toInt := congrArg Int32.toInt ((yK.ag (F := []) yK.rf (show yAg S [47] d_87 d_94 from by rw [ed_94]; exact yAg.cs yAg.rf (by rw [hky_89]; decide)) (by rw [hk_h0]; decide)) 2 (by decide))
          have hE3d_94 : (d_94.1 h0 3).toInt = (d_87.1 h0 3).toInt := congrArg Int32.toInt ((yK.ag (F := []) yK.rf (show yAg S [47] d_87 d_94 from by rw [ed_94]; exact yAg.cs yAg.rf (by rw [hky_89]; decide)) (by rw [hk_h0]; decide)) 3 (by decide))
          have hE63d_94 : (d_94.1 h0 63).toInt = (d_87.1 h0 63).toInt := congrArg Int32.toInt ((yK.ag (F := []) yK.rf (show yAg S [47] d_87 d_94 from by rw [ed_94]; exact yAg.cs yAg.rf (by rw [hky_89]; decide)) (by rw [hk_h0]; decide)) 63 (by decide))
          refine lv_iinc (v := v_2 + 1) (lv' := [(5, .int (v_2 + 1)), (6, .int 0), (4, .int v_1), (0, .ref h0), (1, .int p0), (2, .int p1), (3, .int p2)]) hx hb dX9_clear_117 hl (k := 1) rfl rfl (by decide) rfl (fun ls hl => ?_)
          refine lv_goto (tgt := 6) hx hb dX9_clear_120 (by decide) ?_
          exact hnext_4 (v_1, v_2 + 1, d_94) _ _ ls (xup c_7) ⟨hP, hD, hS, hgd_94, hPod_94, hfd_94, hId_94, (yCl.miss hex_5 hSh hm_h0 hk_h0 hId_3 ez_6 c_7 (yCl.n3 hex_5 ez_73 c_74) ez_76 ez_83 ed_82 ed_87 ed_94), lv_sub hl [0, 2, 3, 4, 5, 6] rfl⟩
        · refine lv_iconst (v := 1) hx hb dX9_clear_48 (by decide) ?_
          refine lv_goto (tgt := 53) hx hb dX9_clear_49 (by decide) ?_
          refine lv_istore (lv' := [(6, .int 1), (5, .int v_2), (4, .int v_1), (0, .ref h0), (1, .int p0), (2, .int p1), (3, .int p2)]) hx hb dX9_clear_53 hl (by decide) rfl (fun ls hl => ?_)
          refine lv_iload hx hb dX9_clear_55 (lv_at hl 0 rfl) ?_
          refine lv_if_eq (tgt := 66) hx hb dX9_clear_57 (by decide) (fun c_96 => absurd c_96 (by decide +kernel)) (fun c_96 => ?_)
          refine lv_iinc (v := v_1 + 1) (lv' := [(4, .int (v_1 + 1)), (6, .int 1), (5, .int v_2), (0, .ref h0), (1, .int p0), (2, .int p1), (3, .int p2)]) hx hb dX9_clear_60 hl (k := 2) rfl rfl (by decide) rfl (fun ls hl => ?_)
          refine lv_goto (tgt := 117) hx hb dX9_clear_63 (by decide) ?_
          refine lv_iinc (v := v_2 + 1) (lv' := [(5, .int (v_2 + 1)), (4, .int (v_1 + 1)), (6, .int 1), (0, .ref h0), (1, .int p0), (2, .int p1), (3, .int p2)]) hx hb dX9_clear_117 hl (k := 2) rfl rfl (by decide) rfl (fun ls hl => ?_)
          refine lv_goto (tgt := 6) hx hb dX9_clear_120 (by decide) ?_
          exact hnext_4 (v_1 + 1, v_2 + 1, d_3) _ _ ls (xup c_7) ⟨hP, hD, hS, hgd_3, hPod_3, hfd_3, hId_3, (yCl.hit hex_5 hId_3 ez_6 c_7 ez_21 ez_48 ez_73 c_22 c_49 c_74), lv_sub hl [0, 1, 3, 4, 5, 6] rfl⟩
theorem dX9_insert_0 : decode cX9_insert 0 = .ok (.aload_n 0, 1) := by decide +kernel
theorem dX9_insert_1 : decode cX9_insert 1 = .ok (.getfield 180, 3) := by decide +kernel
theorem dX9_insert_4 : decode cX9_insert 4 = .ok (.istore 4, 2) := by decide +kernel
theorem dX9_insert_6 : decode cX9_insert 6 = .ok (.iload 4, 2) := by decide +kernel
theorem dX9_insert_8 : decode cX9_insert 8 = .ok (.ifCond .le 96, 3) := by decide +kernel
theorem dX9_insert_11 : decode cX9_insert 11 = .ok (.aload_n 0, 1) := by decide +kernel
theorem dX9_insert_12 : decode cX9_insert 12 = .ok (.getfield 51, 3) := by decide +kernel
theorem dX9_insert_15 : decode cX9_insert 15 = .ok (.iload 4, 2) := by decide +kernel
theorem dX9_insert_17 : decode cX9_insert 17 = .ok (.iconst 1, 1) := by decide +kernel
theorem dX9_insert_18 : decode cX9_insert 18 = .ok (.isub, 1) := by decide +kernel
theorem dX9_insert_19 : decode cX9_insert 19 = .ok (.baload, 1) := by decide +kernel
theorem dX9_insert_20 : decode cX9_insert 20 = .ok (.iload_n 1, 1) := by decide +kernel
theorem dX9_insert_21 : decode cX9_insert 21 = .ok (.if_icmp .gt 29, 3) := by decide +kernel
theorem dX9_insert_24 : decode cX9_insert 24 = .ok (.aload_n 0, 1) := by decide +kernel
theorem dX9_insert_25 : decode cX9_insert 25 = .ok (.getfield 51, 3) := by decide +kernel
theorem dX9_insert_28 : decode cX9_insert 28 = .ok (.iload 4, 2) := by decide +kernel
theorem dX9_insert_30 : decode cX9_insert 30 = .ok (.iconst 1, 1) := by decide +kernel
theorem dX9_insert_31 : decode cX9_insert 31 = .ok (.isub, 1) := by decide +kernel
theorem dX9_insert_32 : decode cX9_insert 32 = .ok (.baload, 1) := by decide +kernel
theorem dX9_insert_33 : decode cX9_insert 33 = .ok (.iload_n 1, 1) := by decide +kernel
theorem dX9_insert_34 : decode cX9_insert 34 = .ok (.if_icmp .ne 70, 3) := by decide +kernel
theorem dX9_insert_37 : decode cX9_insert 37 = .ok (.aload_n 0, 1) := by decide +kernel
theorem dX9_insert_38 : decode cX9_insert 38 = .ok (.getfield 54, 3) := by decide +kernel
theorem dX9_insert_41 : decode cX9_insert 41 = .ok (.iload 4, 2) := by decide +kernel
theorem dX9_insert_43 : decode cX9_insert 43 = .ok (.iconst 1, 1) := by decide +kernel
theorem dX9_insert_44 : decode cX9_insert 44 = .ok (.isub, 1) := by decide +kernel
theorem dX9_insert_45 : decode cX9_insert 45 = .ok (.iaload, 1) := by decide +kernel
theorem dX9_insert_46 : decode cX9_insert 46 = .ok (.iload_n 2, 1) := by decide +kernel
theorem dX9_insert_47 : decode cX9_insert 47 = .ok (.if_icmp .le 57, 3) := by decide +kernel
theorem dX9_insert_50 : decode cX9_insert 50 = .ok (.aload_n 0, 1) := by decide +kernel
theorem dX9_insert_51 : decode cX9_insert 51 = .ok (.getfield 51, 3) := by decide +kernel
theorem dX9_insert_54 : decode cX9_insert 54 = .ok (.iload 4, 2) := by decide +kernel
theorem dX9_insert_56 : decode cX9_insert 56 = .ok (.aload_n 0, 1) := by decide +kernel
theorem dX9_insert_57 : decode cX9_insert 57 = .ok (.getfield 51, 3) := by decide +kernel
theorem dX9_insert_60 : decode cX9_insert 60 = .ok (.iload 4, 2) := by decide +kernel
theorem dX9_insert_62 : decode cX9_insert 62 = .ok (.iconst 1, 1) := by decide +kernel
theorem dX9_insert_63 : decode cX9_insert 63 = .ok (.isub, 1) := by decide +kernel
theorem dX9_insert_64 : decode cX9_insert 64 = .ok (.baload, 1) := by decide +kernel
theorem dX9_insert_65 : decode cX9_insert 65 = .ok (.bastore, 1) := by decide +kernel
theorem dX9_insert_66 : decode cX9_insert 66 = .ok (.aload_n 0, 1) := by decide +kernel
theorem dX9_insert_67 : decode cX9_insert 67 = .ok (.getfield 54, 3) := by decide +kernel
theorem dX9_insert_70 : decode cX9_insert 70 = .ok (.iload 4, 2) := by decide +kernel
theorem dX9_insert_72 : decode cX9_insert 72 = .ok (.aload_n 0, 1) := by decide +kernel
theorem dX9_insert_73 : decode cX9_insert 73 = .ok (.getfield 54, 3) := by decide +kernel
theorem dX9_insert_76 : decode cX9_insert 76 = .ok (.iload 4, 2) := by decide +kernel
theorem dX9_insert_78 : decode cX9_insert 78 = .ok (.iconst 1, 1) := by decide +kernel
theorem dX9_insert_79 : decode cX9_insert 79 = .ok (.isub, 1) := by decide +kernel
theorem dX9_insert_80 : decode cX9_insert 80 = .ok (.iaload, 1) := by decide +kernel
theorem dX9_insert_81 : decode cX9_insert 81 = .ok (.iastore, 1) := by decide +kernel
theorem dX9_insert_82 : decode cX9_insert 82 = .ok (.aload_n 0, 1) := by decide +kernel
theorem dX9_insert_83 : decode cX9_insert 83 = .ok (.getfield 57, 3) := by decide +kernel
theorem dX9_insert_86 : decode cX9_insert 86 = .ok (.iload 4, 2) := by decide +kernel
theorem dX9_insert_88 : decode cX9_insert 88 = .ok (.aload_n 0, 1) := by decide +kernel
theorem dX9_insert_89 : decode cX9_insert 89 = .ok (.getfield 57, 3) := by decide +kernel
theorem dX9_insert_92 : decode cX9_insert 92 = .ok (.iload 4, 2) := by decide +kernel
theorem dX9_insert_94 : decode cX9_insert 94 = .ok (.iconst 1, 1) := by decide +kernel
theorem dX9_insert_95 : decode cX9_insert 95 = .ok (.isub, 1) := by decide +kernel
theorem dX9_insert_96 : decode cX9_insert 96 = .ok (.baload, 1) := by decide +kernel
theorem dX9_insert_97 : decode cX9_insert 97 = .ok (.bastore, 1) := by decide +kernel
theorem dX9_insert_98 : decode cX9_insert 98 = .ok (.iinc 4 (-1), 3) := by decide +kernel
theorem dX9_insert_101 : decode cX9_insert 101 = .ok (.goto (-95), 3) := by decide +kernel
theorem dX9_insert_104 : decode cX9_insert 104 = .ok (.aload_n 0, 1) := by decide +kernel
theorem dX9_insert_105 : decode cX9_insert 105 = .ok (.getfield 51, 3) := by decide +kernel
theorem dX9_insert_108 : decode cX9_insert 108 = .ok (.iload 4, 2) := by decide +kernel
theorem dX9_insert_110 : decode cX9_insert 110 = .ok (.iload_n 1, 1) := by decide +kernel
theorem dX9_insert_111 : decode cX9_insert 111 = .ok (.i2b, 1) := by decide +kernel
theorem dX9_insert_112 : decode cX9_insert 112 = .ok (.bastore, 1) := by decide +kernel
theorem dX9_insert_113 : decode cX9_insert 113 = .ok (.aload_n 0, 1) := by decide +kernel
theorem dX9_insert_114 : decode cX9_insert 114 = .ok (.getfield 54, 3) := by decide +kernel
theorem dX9_insert_117 : decode cX9_insert 117 = .ok (.iload 4, 2) := by decide +kernel
theorem dX9_insert_119 : decode cX9_insert 119 = .ok (.iload_n 2, 1) := by decide +kernel
theorem dX9_insert_120 : decode cX9_insert 120 = .ok (.iastore, 1) := by decide +kernel
theorem dX9_insert_121 : decode cX9_insert 121 = .ok (.aload_n 0, 1) := by decide +kernel
theorem dX9_insert_122 : decode cX9_insert 122 = .ok (.getfield 57, 3) := by decide +kernel
theorem dX9_insert_125 : decode cX9_insert 125 = .ok (.iload 4, 2) := by decide +kernel
theorem dX9_insert_127 : decode cX9_insert 127 = .ok (.iload_n 3, 1) := by decide +kernel
theorem dX9_insert_128 : decode cX9_insert 128 = .ok (.i2b, 1) := by decide +kernel
theorem dX9_insert_129 : decode cX9_insert 129 = .ok (.bastore, 1) := by decide +kernel
theorem dX9_insert_130 : decode cX9_insert 130 = .ok (.aload_n 0, 1) := by decide +kernel
theorem dX9_insert_131 : decode cX9_insert 131 = .ok (.dup, 1) := by decide +kernel
theorem dX9_insert_132 : decode cX9_insert 132 = .ok (.getfield 180, 3) := by decide +kernel
theorem dX9_insert_135 : decode cX9_insert 135 = .ok (.iconst 1, 1) := by decide +kernel
theorem dX9_insert_136 : decode cX9_insert 136 = .ok (.iadd, 1) := by decide +kernel
theorem dX9_insert_137 : decode cX9_insert 137 = .ok (.putfield 180, 3) := by decide +kernel
theorem dX9_insert_140 : decode cX9_insert 140 = .ok (.return_, 1) := by decide +kernel
set_option maxHeartbeats 4000000 in
set_option maxRecDepth 100000 in
theorem g_X9_insert (l : Launch) (G : xG) (S : yS) (d : yD) (h0 : Nat) (p0 : Int32) (p1 : Int32) (p2 : Int32) (hSh : ySh S) (hPo : yPo S d) (hm_h0 : h0 ∈ S.1) (hk_h0 : S.2.1 h0 = 9) (hI : yMI S d h0) (hev : (d.1 h0 1).toInt ≤ 4999) (hr_p1 : 0 ≤ (p1 : Int32).toInt ∧ (p1 : Int32).toInt ≤ 129599) : xWv l G yX9_insert cX9_insert 5 none 0 0 0 0 [.ref h0, .int p0, .int p1, .int p2] (yW G S d) (fun u : yD => yAg S [9, 45, 46, 47] d u ∧ (yPo S d → yPo S u) ∧ yK [1] d u h0 ∧ (yMI S u h0 ∧ (u.1 h0 1).toInt = (d.1 h0 1).toInt + 1)) (fun u => yW G S u) := by
  intro sz
  refine xstart (by decide) (Nat.le_of_ble_eq_true rfl) (fun p e s m args below meth c ls C0 hr hlocks hin hsz hP hK hD hN hl => ?_)
  obtain ⟨hx, hb, hml, hown, htl⟩ := id C0
  subst hsz
  have hD := hD.self (sz := s.heap.size)
  generalize hAe : va_A (yW G S d) s.heap.size = A at hD ⊢
  have hA : ∀ q : Nat, s.heap.size ≤ q → A q := fun q h => by rw [← hAe]; exact Or.inr h
  have hS : va_S A s.heap s.heap [] := va_S.rf
  have hg0 : yAg S [9, 45, 46, 47] d d := yAg.rf
  have hl : lv_has ls 5 [(0, .ref h0), (1, .int p0), (2, .int p1), (3, .int p2)] := hl
  refine lv_aload_n hx hb dX9_insert_0 rfl (lv_at hl 0 rfl) ?_
  refine yget (ci := 9) (k := 1) (v := .int (d.1 h0 1)) (C := RX9) (T := TX9) (N := 67) C0 hK hP hm_h0 hk_h0 (by decide) rfl inlX9 (by decide) mW364 (fun _ h9 => h9) rfl dX9_insert_1 ?_
  refine lv_topi (fun z_1 ez_1 => ?_)
  refine lv_istore (lv' := [(4, .int z_1), (0, .ref h0), (1, .int p0), (2, .int p1), (3, .int p2)]) hx hb dX9_insert_4 hl (by decide) rfl (fun ls hl => ?_)
  have hCC_2 := yMI.c hI
  have T_3 : (z_1 : Int32).toInt = (d.1 h0 1).toInt := by rw [ez_1]
  refine yloop (σ := Int32 × yD) (fun x => ((x.1 : Int32).toInt + 2147483648).toNat) 6 (fun x H locs ls => va_P G.1 xcl (yW G S x.2) H ∧ va_D A (yW G S x.2) ∧ va_S A s.heap H locs ∧ yAg S [9, 45, 46, 47] d x.2 ∧ yPo S x.2 ∧ yK [1] d x.2 h0 ∧ yMI S x.2 h0 ∧ yAg S [45, 46, 47] d x.2 ∧ yK [] d x.2 h0 ∧ (0 ≤ ((x.1) : Int32).toInt ∧ ((x.1) : Int32).toInt ≤ 4999 ∧ (x.2.1 h0 1).toInt = (d.1 h0 1).toInt) ∧ lv_has ls 5 [(4, .int x.1), (0, .ref h0), (1, .int p0), (2, .int p1), (3, .int p2)]) (fun x H locs ls hI hnext_6 => ?_) (z_1, d) ⟨hP, hD, hS, hg0, hPo, yK.rf, hI, yAg.rf, yK.rf, (show (0 ≤ ((z_1) : Int32).toInt ∧ ((z_1) : Int32).toInt ≤ 4999 ∧ (d.1 h0 1).toInt = (d.1 h0 1).toInt) from by have hq0_ : (0 : Int32).toInt = 0 := (by decide +kernel); omega), lv_sub hl [0, 1, 2, 3, 4] rfl⟩
  obtain ⟨v_4, d_5⟩ := x
  obtain ⟨hP, hD, hS, hgd_5, hPod_5, hfd_5, hId_5, hLJd_5, hKJd_5, hex_7, hl⟩ := hI
  have hId_5 : yMI S d_5 h0 := hId_5
  have hex_7 : (0 ≤ ((v_4) : Int32).toInt ∧ ((v_4) : Int32).toInt ≤ 4999 ∧ (d_5.1 h0 1).toInt = (d.1 h0 1).toInt) := hex_7
  have hl : lv_has ls 5 [(4, .int v_4), (0, .ref h0), (1, .int p0), (2, .int p1), (3, .int p2)] := hl
  have hLJd_5 : yAg S [45, 46, 47] d d_5 := hLJd_5
  have hKJd_5 : yK [] d d_5 h0 := hKJd_5
  have hE0d_5 : (d_5.1 h0 0).toInt = (d.1 h0 0).toInt := congrArg Int32.toInt (hKJd_5 0 (by decide))
  have hE1d_5 : (d_5.1 h0 1).toInt = (d.1 h0 1).toInt := congrArg Int32.toInt (hKJd_5 1 (by decide))
  have hE2d_5 : (d_5.1 h0 2).toInt = (d.1 h0 2).toInt := congrArg Int32.toInt (hKJd_5 2 (by decide))
  have hE3d_5 : (d_5.1 h0 3).toInt = (d.1 h0 3).toInt := congrArg Int32.toInt (hKJd_5 3 (by decide))
  have hE63d_5 : (d_5.1 h0 63).toInt = (d.1 h0 63).toInt := congrArg Int32.toInt (hKJd_5 63 (by decide))
  refine lv_iload hx hb dX9_insert_6 (lv_at hl 0 rfl) ?_
  refine lv_if_le (tgt := 104) hx hb dX9_insert_8 (by decide) (fun c_8 => ?_) (fun c_8 => ?_)
  · refine lv_aload_n hx hb dX9_insert_104 rfl (lv_at hl 1 rfl) ?_
    refine yget (ci := 9) (k := 15) (v := .ref (S.2.2.1 h0 15)) (C := RX9) (T := TX9) (N := 67) C0 hK hP hm_h0 hk_h0 (by decide) rfl inlX9 (by decide) mW122 (fun _ h9 => h9) rfl dX9_insert_105 ?_
    obtain ⟨hmy_9, hky_9⟩ := ySh.f9_15 hSh _ hm_h0 hk_h0
    refine lv_iload hx hb dX9_insert_108 (lv_at hl 0 rfl) ?_
    refine lv_iload_n hx hb dX9_insert_110 rfl (lv_at hl 2 rfl) ?_
    refine lv_i2b hx hb dX9_insert_111 rfl ?_
    refine lv_topi (fun z_10 ez_10 => ?_)
    have hCC_11 := yMI.c hId_5
    have F_12 := fle (rfl : (v_4 : Int32).toInt = (v_4 : Int32).toInt) (by decide +kernel : (0 : Int32).toInt = 0) c_8
    refine yastB C0 hK hP hD hS hmy_9 hky_9 (by decide) rfl 1 rfl (xinT 5000 rfl (by omega) (by omega)) dX9_insert_112 (fun H locs hP hD hS => ?_)
    obtain ⟨d_13, ed_13⟩ : ∃ z : yD, z = ycs d_5 (S.2.2.1 h0 15) (upd (d_5.2.2.2.1 (S.2.2.1 h0 15)) (v_4 : Int32).toNatClampNeg (vp_nar .byte z_10)) := ⟨_, rfl⟩
    rw [← ed_13] at hP hD
    have hgd_13 : yAg S [9, 45, 46, 47] d d_13 := by rw [ed_13]; exact yAg.cs hgd_5 (by rw [hky_9]; decide)
    have hPod_13 : yPo S d_13 := by rw [ed_13]; exact hPod_5
    have hfd_13 : yK [1] d d_13 h0 := yK.ag hfd_5 (show yAg S [45] d_5 d_13 from by rw [ed_13]; exact yAg.cs yAg.rf (by rw [hky_9]; decide)) (by rw [hk_h0]; decide)
    have hId_13 : yMI S d_13 h0 := yMI.ag hId_5 hSh hm_h0 hk_h0 (show yAg S [45] d_5 d_13 from by rw [ed_13]; exact yAg.cs yAg.rf (by rw [hky_9]; decide)) (yK.ag (F := []) yK.rf (show yAg S [45] d_5 d_13 from by rw [ed_13]; exact yAg.cs yAg.rf (by rw [hky_9]; decide)) (by rw [hk_h0]; decide)) (by decide) (by decide)
    have hE0d_13 : (d_13.1 h0 0).toInt = (d_5.1 h0 0).toInt := congrArg Int32.toInt ((yK.ag (F := []) yK.rf (show yAg S [45] d_5 d_13 from by rw [ed_13]; exact yAg.cs yAg.rf (by rw [hky_9]; decide)) (by rw [hk_h0]; decide)) 0 (by decide))
    have hE1d_13 : (d_13.1 h0 1).toInt = (d_5.1 h0 1).toInt := congrArg Int32.toInt ((yK.ag (F := []) yK.rf (show yAg S [45] d_5 d_13 from by rw [ed_13]; exact yAg.cs yAg.rf (by rw [hky_9]; decide)) (by rw [hk_h0]; decide)) 1 (by decide))
    have hE2d_13 : (d_13.1 h0 2).toInt = (d_5.1 h0 2).toInt := congrArg Int32.toInt ((yK.ag (F := []) yK.rf (show yAg S [45] d_5 d_13 from by rw [ed_13]; exact yAg.cs yAg.rf (by rw [hky_9]; decide)) (by rw [hk_h0]; decide)) 2 (by decide))
    have hE3d_13 : (d_13.1 h0 3).toInt = (d_5.1 h0 3).toInt := congrArg Int32.toInt ((yK.ag (F := []) yK.rf (show yAg S [45] d_5 d_13 from by rw [ed_13]; exact yAg.cs yAg.rf (by rw [hky_9]; decide)) (by rw [hk_h0]; decide)) 3 (by decide))
    have hE63d_13 : (d_13.1 h0 63).toInt = (d_5.1 h0 63).toInt := congrArg Int32.toInt ((yK.ag (F := []) yK.rf (show yAg S [45] d_5 d_13 from by rw [ed_13]; exact yAg.cs yAg.rf (by rw [hky_9]; decide)) (by rw [hk_h0]; decide)) 63 (by decide))
    refine lv_aload_n hx hb dX9_insert_113 rfl (lv_at hl 1 rfl) ?_
    refine yget (ci := 9) (k := 16) (v := .ref (S.2.2.1 h0 16)) (C := RX9) (T := TX9) (N := 67) C0 hK hP hm_h0 hk_h0 (by decide) rfl inlX9 (by decide) mW123 (fun _ h9 => h9) rfl dX9_insert_114 ?_
    obtain ⟨hmy_14, hky_14⟩ := ySh.f9_16 hSh _ hm_h0 hk_h0
    refine lv_iload hx hb dX9_insert_117 (lv_at hl 0 rfl) ?_
    refine lv_iload_n hx hb dX9_insert_119 rfl (lv_at hl 3 rfl) ?_
    have hCC_15 := yMI.c hId_13
    refine yast C0 hK hP hD hS hmy_14 hky_14 (by decide) rfl 0 rfl (xinT 5000 rfl (by omega) (by omega)) dX9_insert_120 (fun H locs hP hD hS => ?_)
    obtain ⟨d_16, ed_16⟩ : ∃ z : yD, z = ycs d_13 (S.2.2.1 h0 16) (upd (d_13.2.2.2.1 (S.2.2.1 h0 16)) (v_4 : Int32).toNatClampNeg p1) := ⟨_, rfl⟩
    rw [← ed_16] at hP hD
    have hgd_16 : yAg S [9, 45, 46, 47] d d_16 := by rw [ed_16]; exact yAg.cs hgd_13 (by rw [hky_14]; decide)
    have hPod_16 : yPo S d_16 := by rw [ed_16]; exact hPod_13
    have hfd_16 : yK [1] d d_16 h0 := yK.ag hfd_13 (show yAg S [46] d_13 d_16 from by rw [ed_16]; exact yAg.cs yAg.rf (by rw [hky_14]; decide)) (by rw [hk_h0]; decide)
    have hId_16 : yMI S d_16 h0 := by rw [ed_16]; exact yMI.w16 hId_13 hSh hm_h0 hk_h0 (yBr.up (yMI.em_ hId_13) ⟨by omega, by omega⟩)
    have hE0d_16 : (d_16.1 h0 0).toInt = (d_13.1 h0 0).toInt := congrArg Int32.toInt ((yK.ag (F := []) yK.rf (show yAg S [46] d_13 d_16 from by rw [ed_16]; exact yAg.cs yAg.rf (by rw [hky_14]; decide)) (by rw [hk_h0]; decide)) 0 (by decide))
    have hE1d_16 : (d_16.1 h0 1).toInt = (d_13.1 h0 1).toInt := congrArg Int32.toInt ((yK.ag (F := []) yK.rf (show yAg S [46] d_13 d_16 from by rw [ed_16]; exact yAg.cs yAg.rf (by rw [hky_14]; decide)) (by rw [hk_h0]; decide)) 1 (by decide))
    have hE2d_16 : (d_16.1 h0 2).toInt = (d_13.1 h0 2).toInt := congrArg Int32.toInt ((yK.ag (F := []) yK.rf (show yAg S [46] d_13 d_16 from by rw [ed_16]; exact yAg.cs yAg.rf (by rw [hky_14]; decide)) (by rw [hk_h0]; decide)) 2 (by decide))
    have hE3d_16 : (d_16.1 h0 3).toInt = (d_13.1 h0 3).toInt := congrArg Int32.toInt ((yK.ag (F := []) yK.rf (show yAg S [46] d_13 d_16 from by rw [ed_16]; exact yAg.cs yAg.rf (by rw [hky_14]; decide)) (by rw [hk_h0]; decide)) 3 (by decide))
    have hE63d_16 : (d_16.1 h0 63).toInt = (d_13.1 h0 63).toInt := congrArg Int32.toInt ((yK.ag (F := []) yK.rf (show yAg S [46] d_13 d_16 from by rw [ed_16]; exact yAg.cs yAg.rf (by rw [hky_14]; decide)) (by rw [hk_h0]; decide)) 63 (by decide))
    refine lv_aload_n hx hb dX9_insert_121 rfl (lv_at hl 1 rfl) ?_
    refine yget (ci := 9) (k := 17) (v := .ref (S.2.2.1 h0 17)) (C := RX9) (T := TX9) (N := 67) C0 hK hP hm_h0 hk_h0 (by decide) rfl inlX9 (by decide) mW124 (fun _ h9 => h9) rfl dX9_insert_122 ?_
    obtain ⟨hmy_17, hky_17⟩ := ySh.f9_17 hSh _ hm_h0 hk_h0
    refine lv_iload hx hb dX9_insert_125 (lv_at hl 0 rfl) ?_
    refine lv_iload_n hx hb dX9_insert_127 rfl (lv_at hl 4 rfl) ?_
    refine lv_i2b hx hb dX9_insert_128 rfl ?_
    refine lv_topi (fun z_18 ez_18 => ?_)
    have hCC_19 := yMI.c hId_16
    refine yastB C0 hK hP hD hS hmy_17 hky_17 (by decide) rfl 1 rfl (xinT 5000 rfl (by omega) (by omega)) dX9_insert_129 (fun H locs hP hD hS => ?_)
    obtain ⟨d_20, ed_20⟩ : ∃ z : yD, z = ycs d_16 (S.2.2.1 h0 17) (upd (d_16.2.2.2.1 (S.2.2.1 h0 17)) (v_4 : Int32).toNatClampNeg (vp_nar .byte z_18)) := ⟨_, rfl⟩
    rw [← ed_20] at hP hD
    have hgd_20 : yAg S [9, 45, 46, 47] d d_20 := by rw [ed_20]; exact yAg.cs hgd_16 (by rw [hky_17]; decide)
    have hPod_20 : yPo S d_20 := by rw [ed_20]; exact hPod_16
    have hfd_20 : yK [1] d d_20 h0 := yK.ag hfd_16 (show yAg S [47] d_16 d_20 from by rw [ed_20]; exact yAg.cs yAg.rf (by rw [hky_17]; decide)) (by rw [hk_h0]; decide)
    have hId_20 : yMI S d_20 h0 := yMI.ag hId_16 hSh hm_h0 hk_h0 (show yAg S [47] d_16 d_20 from by rw [ed_20]; exact yAg.cs yAg.rf (by rw [hky_17]; decide)) (yK.ag (F := []) yK.rf (show yAg S [47] d_16 d_20 from by rw [ed_20]; exact yAg.cs yAg.rf (by rw [hky_17]; decide)) (by rw [hk_h0]; decide)) (by decide) (by decide)
    have hE0d_20 : (d_20.1 h0 0).toInt = (d_16.1 h0 0).toInt := congrArg Int32.toInt ((yK.ag (F := []) yK.rf (show yAg S [47] d_16 d_20 from by rw [ed_20]; exact yAg.cs yAg.rf (by rw [hky_17]; decide)) (by rw [hk_h0]; decide)) 0 (by decide))
    have hE1d_20 : (d_20.1 h0 1).toInt = (d_16.1 h0 1).toInt := congrArg Int32.toInt ((yK.ag (F := []) yK.rf (show yAg S [47] d_16 d_20 from by rw [ed_20]; exact yAg.cs yAg.rf (by rw [hky_17]; decide)) (by rw [hk_h0]; decide)) 1 (by decide))
    have hE2d_20 : (d_20.1 h0 2).toInt = (d_16.1 h0 2).toInt := congrArg Int32.toInt ((yK.ag (F := []) yK.rf (show yAg S [47] d_16 d_20 from by rw [ed_20]; exact yAg.cs yAg.rf (by rw [hky_17]; decide)) (by rw [hk_h0]; decide)) 2 (by decide))
    have hE3d_20 : (d_20.1 h0 3).toInt = (d_16.1 h0 3).toInt := congrArg Int32.toInt ((yK.ag (F := []) yK.rf (show yAg S [47] d_16 d_20 from by rw [ed_20]; exact yAg.cs yAg.rf (by rw [hky_17]; decide)) (by rw [hk_h0]; decide)) 3 (by decide))
    have hE63d_20 : (d_20.1 h0 63).toInt = (d_16.1 h0 63).toInt := congrArg Int32.toInt ((yK.ag (F := []) yK.rf (show yAg S [47] d_16 d_20 from by rw [ed_20]; exact yAg.cs yAg.rf (by rw [hky_17]; decide)) (by rw [hk_h0]; decide)) 63 (by decide))
    refine lv_aload_n hx hb dX9_insert_130 rfl (lv_at hl 1 rfl) ?_
    refine lv_dup hx hb dX9_insert_131 rfl ?_
    refine yget (ci := 9) (k := 1) (v := .int (d_20.1 h0 1)) (C := RX9) (T := TX9) (N := 67) C0 hK hP hm_h0 hk_h0 (by decide) rfl inlX9 (by decide) mW364 (fun _ h9 => h9) rfl dX9_insert_132 ?_
    refine lv_topi (fun z_21 ez_21 => ?_)
    refine lv_iconst (v := 1) hx hb dX9_insert_135 (by decide) ?_
    refine lv_iadd hx hb dX9_insert_136 ?_
    refine lv_topi (fun z_22 ez_22 => ?_)
    refine yputI (ci := 9) (k := 1) (ty := .int) (C := RX9) (T := TX9) (N := 67) C0 hK hP hD hS hm_h0 hk_h0 (by decide) rfl inlX9 tyX9 tyX9_ok nmX9 (by decide) mW364 (fun _ h9 => h9) rfl (by decide +kernel) rfl rfl (Nat.le_of_ble_eq_true rfl) ysi_9_1 dX9_insert_137 (fun H locs hP hD hS => ?_)
    obtain ⟨d_23, ed_23⟩ : ∃ z : yD, z = yi d_20 h0 1 z_22 := ⟨_, rfl⟩
    rw [← ed_23] at hP hD
    have hgd_23 : yAg S [9, 45, 46, 47] d d_23 := by rw [ed_23]; exact yAg.i hgd_20 (by rw [hk_h0]; decide)
    have hPod_23 : yPo S d_23 := by rw [ed_23]; exact yPo.i hPod_20 hk_h0 (Or.inl rfl)
    have hfd_23 : yK [1] d d_23 h0 := by rw [ed_23]; exact yK.i hfd_20 (by decide)
    have hCC_24 := yMI.c hId_20
    have T_26 : (z_21 : Int32).toInt = (d_20.1 h0 1).toInt := by rw [ez_21]
    have T_25 : (z_22 : Int32).toInt = (z_21 : Int32).toInt + 1 := tadd ez_22 (rfl : (z_21 : Int32).toInt = (z_21 : Int32).toInt) (by decide +kernel : (1 : Int32).toInt = 1) (by omega) (by omega)
    have hId_23 : yMI S d_23 h0 := by rw [ed_23]; exact yMI.i1 hId_20 ⟨by omega, by omega⟩
    have hE0d_23 : (d_23.1 h0 0).toInt = (d_20.1 h0 0).toInt := congrArg Int32.toInt ((show yK [1] d_20 d_23 h0 from by rw [ed_23]; exact yK.i yK.rf (by decide)) 0 (by decide))
    have hE1d_23 : (d_23.1 h0 1).toInt = (z_22 : Int32).toInt := by rw [ed_23, yi_self]
    have hE2d_23 : (d_23.1 h0 2).toInt = (d_20.1 h0 2).toInt := congrArg Int32.toInt ((show yK [1] d_20 d_23 h0 from by rw [ed_23]; exact yK.i yK.rf (by decide)) 2 (by decide))
    have hE3d_23 : (d_23.1 h0 3).toInt = (d_20.1 h0 3).toInt := congrArg Int32.toInt ((show yK [1] d_20 d_23 h0 from by rw [ed_23]; exact yK.i yK.rf (by decide)) 3 (by decide))
    have hE63d_23 : (d_23.1 h0 63).toInt = (d_20.1 h0 63).toInt := congrArg Int32.toInt ((show yK [1] d_20 d_23 h0 from by rw [ed_23]; exact yK.i yK.rf (by decide)) 63 (by decide))
    have hCC_27 := yMI.c hId_23
    exact W.vret hx hb hr (fun t ht hW => ⟨⟨d_23, rfl, ⟨hgd_23, (fun _ => hPod_23), hfd_23, ⟨hId_23, by omega⟩⟩, by rw [ht]; exact hP, hD⟩, hS.F ht⟩) hS.2.2 dX9_insert_140
  · refine lv_aload_n hx hb dX9_insert_11 rfl (lv_at hl 1 rfl) ?_
    refine yget (ci := 9) (k := 15) (v := .ref (S.2.2.1 h0 15)) (C := RX9) (T := TX9) (N := 67) C0 hK hP hm_h0 hk_h0 (by decide) rfl inlX9 (by decide) mW122 (fun _ h9 => h9) rfl dX9_insert_12 ?_
    obtain ⟨hmy_28, hky_28⟩ := ySh.f9_15 hSh _ hm_h0 hk_h0
    refine lv_iload hx hb dX9_insert_15 (lv_at hl 0 rfl) ?_
    refine lv_iconst (v := 1) hx hb dX9_insert_17 (by decide) ?_
    refine lv_isub hx hb dX9_insert_18 ?_
    refine lv_topi (fun z_29 ez_29 => ?_)
    have hCC_30 := yMI.c hId_5
    have F_31 := fnle (rfl : (v_4 : Int32).toInt = (v_4 : Int32).toInt) (by decide +kernel : (0 : Int32).toInt = 0) c_8
    have T_32 : (z_29 : Int32).toInt = (v_4 : Int32).toInt - 1 := tsub ez_29 (rfl : (v_4 : Int32).toInt = (v_4 : Int32).toInt) (by decide +kernel : (1 : Int32).toInt = 1) (by omega) (by omega)
    refine yaldB C0 hK hP hmy_28 hky_28 (by decide) rfl 1 rfl (xinT 5000 rfl (by omega) (by omega)) dX9_insert_19 ?_
    refine lv_topi (fun z_33 ez_33 => ?_)
    refine lv_iload_n hx hb dX9_insert_20 rfl (lv_at hl 2 rfl) ?_
    refine lv_icmp_gt (tgt := 50) hx hb dX9_insert_21 (by decide) (fun c_34 => ?_) (fun c_34 => ?_)
    · refine lv_aload_n hx hb dX9_insert_50 rfl (lv_at hl 1 rfl) ?_
      refine yget (ci := 9) (k := 15) (v := .ref (S.2.2.1 h0 15)) (C := RX9) (T := TX9) (N := 67) C0 hK hP hm_h0 hk_h0 (by decide) rfl inlX9 (by decide) mW122 (fun _ h9 => h9) rfl dX9_insert_51 ?_
      refine lv_iload hx hb dX9_insert_54 (lv_at hl 0 rfl) ?_
      refine lv_aload_n hx hb dX9_insert_56 rfl (lv_at hl 1 rfl) ?_
      refine yget (ci := 9) (k := 15) (v := .ref (S.2.2.1 h0 15)) (C := RX9) (T := TX9) (N := 67) C0 hK hP hm_h0 hk_h0 (by decide) rfl inlX9 (by decide) mW122 (fun _ h9 => h9) rfl dX9_insert_57 ?_
      refine lv_iload hx hb dX9_insert_60 (lv_at hl 0 rfl) ?_
      refine lv_iconst (v := 1) hx hb dX9_insert_62 (by decide) ?_
      refine lv_isub hx hb dX9_insert_63 ?_
      refine lv_topi (fun z_35 ez_35 => ?_)
      have F_37 := flt (rfl : (p0 : Int32).toInt = (p0 : Int32).toInt) (rfl : (z_33 : Int32).toInt = (z_33 : Int32).toInt) c_34
      have T_38 : (z_35 : Int32).toInt = (v_4 : Int32).toInt - 1 := tsub ez_35 (rfl : (v_4 : Int32).toInt = (v_4 : Int32).toInt) (by decide +kernel : (1 : Int32).toInt = 1) (by omega) (by omega)
      refine yaldB C0 hK hP hmy_28 hky_28 (by decide) rfl 1 rfl (xinT 5000 rfl (by omega) (by omega)) dX9_insert_64 ?_
      refine lv_topi (fun z_39 ez_39 => ?_)
      refine yastB C0 hK hP hD hS hmy_28 hky_28 (by decide) rfl 1 rfl (xinT 5000 rfl (by omega) (by omega)) dX9_insert_65 (fun H locs hP hD hS => ?_)
      obtain ⟨d_40, ed_40⟩ : ∃ z : yD, z = ycs d_5 (S.2.2.1 h0 15) (upd (d_5.2.2.2.1 (S.2.2.1 h0 15)) (v_4 : Int32).toNatClampNeg (vp_nar .byte z_39)) := ⟨_, rfl⟩
      rw [← ed_40] at hP hD
      have hgd_40 : yAg S [9, 45, 46, 47] d d_40 := by rw [ed_40]; exact yAg.cs hgd_5 (by rw [hky_28]; decide)
      have hPod_40 : yPo S d_40 := by rw [ed_40]; exact hPod_5
      have hfd_40 : yK [1] d d_40 h0 := yK.ag hfd_5 (show yAg S [45] d_5 d_40 from by rw [ed_40]; exact yAg.cs yAg.rf (by rw [hky_28]; decide)) (by rw [hk_h0]; decide)
      have hL0d_40 : yAg S [45, 46, 47] d d_40 := by rw [ed_40]; exact yAg.cs hLJd_5 (by rw [hky_28]; decide)
      have hK0d_40 : yK [] d d_40 h0 := yK.ag hKJd_5 (show yAg S [45] d_5 d_40 from by rw [ed_40]; exact yAg.cs yAg.rf (by rw [hky_28]; decide)) (by rw [hk_h0]; decide)
      have hId_40 : yMI S d_40 h0 := yMI.ag hId_5 hSh hm_h0 hk_h0 (show yAg S [45] d_5 d_40 from by rw [ed_40]; exact yAg.cs yAg.rf (by rw [hky_28]; decide)) (yK.ag (F := []) yK.rf (show yAg S [45] d_5 d_40 from by rw [ed_40]; exact yAg.cs yAg.rf (by rw [hky_28]; decide)) (by rw [hk_h0]; decide)) (by decide) (by decide)
      have hE0d_40 : (d_40.1 h0 0).toInt = (d_5.1 h0 0).toInt := congrArg Int32.toInt ((yK.ag (F := []) yK.rf (show yAg S [45] d_5 d_40 from by rw [ed_40]; exact yAg.cs yAg.rf (by rw [hky_28]; decide)) (by rw [hk_h0]; decide)) 0 (by decide))
      have hE1d_40 : (d_40.1 h0 1).toInt = (d_5.1 h0 1).toInt := congrArg Int32.toInt ((yK.ag (F := []) yK.rf (show yAg S [45] d_5 d_40 from by rw [ed_40]; exact yAg.cs yAg.rf (by rw [hky_28]; decide)) (by rw [hk_h0]; decide)) 1 (by decide))
      have hE2d_40 : (d_40.1 h0 2).toInt = (d_5.1 h0 2).toInt := congrArg Int32.toInt ((yK.ag (F := []) yK.rf (show yAg S [45] d_5 d_40 from by rw [ed_40]; exact yAg.cs yAg.rf (by rw [hky_28]; decide)) (by rw [hk_h0]; decide)) 2 (by decide))
      have hE3d_40 : (d_40.1 h0 3).toInt = (d_5.1 h0 3).toInt := congrArg Int32.toInt ((yK.ag (F := []) yK.rf (show yAg S [45] d_5 d_40 from by rw [ed_40]; exact yAg.cs yAg.rf (by rw [hky_28]; decide)) (by rw [hk_h0]; decide)) 3 (by decide))
      have hE63d_40 : (d_40.1 h0 63).toInt = (d_5.1 h0 63).toInt := congrArg Int32.toInt ((yK.ag (F := []) yK.rf (show yAg S [45] d_5 d_40 from by rw [ed_40]; exact yAg.cs yAg.rf (by rw [hky_28]; decide)) (by rw [hk_h0]; decide)) 63 (by decide))
      refine lv_aload_n hx hb dX9_insert_66 rfl (lv_at hl 1 rfl) ?_
      refine yget (ci := 9) (k := 16) (v := .ref (S.2.2.1 h0 16)) (C := RX9) (T := TX9) (N := 67) C0 hK hP hm_h0 hk_h0 (by decide) rfl inlX9 (by decide) mW123 (fun _ h9 => h9) rfl dX9_insert_67 ?_
      obtain ⟨hmy_41, hky_41⟩ := ySh.f9_16 hSh _ hm_h0 hk_h0
      refine lv_iload hx hb dX9_insert_70 (lv_at hl 0 rfl) ?_
      refine lv_aload_n hx hb dX9_insert_72 rfl (lv_at hl 1 rfl) ?_
      refine yget (ci := 9) (k := 16) (v := .ref (S.2.2.1 h0 16)) (C := RX9) (T := TX9) (N := 67) C0 hK hP hm_h0 hk_h0 (by decide) rfl inlX9 (by decide) mW123 (fun _ h9 => h9) rfl dX9_insert_73 ?_
      refine lv_iload hx hb dX9_insert_76 (lv_at hl 0 rfl) ?_
      refine lv_iconst (v := 1) hx hb dX9_insert_78 (by decide) ?_
      refine lv_isub hx hb dX9_insert_79 ?_
      refine lv_topi (fun z_42 ez_42 => ?_)
      have hCC_43 := yMI.c hId_40
      have T_44 : (z_42 : Int32).toInt = (v_4 : Int32).toInt - 1 := tsub ez_42 (rfl : (v_4 : Int32).toInt = (v_4 : Int32).toInt) (by decide +kernel : (1 : Int32).toInt = 1) (by omega) (by omega)
      refine yald C0 hK hP hmy_41 hky_41 (by decide) rfl 0 rfl (xinT 5000 rfl (by omega) (by omega)) dX9_insert_80 ?_
      refine lv_topi (fun z_45 ez_45 => ?_)
      have hvz_45 : 0 ≤ (z_45 : Int32).toInt ∧ (z_45 : Int32).toInt ≤ 129599 := by rw [ez_45]; exact yMI.em_ hId_40 _
      refine yast C0 hK hP hD hS hmy_41 hky_41 (by decide) rfl 0 rfl (xinT 5000 rfl (by omega) (by omega)) dX9_insert_81 (fun H locs hP hD hS => ?_)
      obtain ⟨d_46, ed_46⟩ : ∃ z : yD, z = ycs d_40 (S.2.2.1 h0 16) (upd (d_40.2.2.2.1 (S.2.2.1 h0 16)) (v_4 : Int32).toNatClampNeg z_45) := ⟨_, rfl⟩
      rw [← ed_46] at hP hD
      have hgd_46 : yAg S [9, 45, 46, 47] d d_46 := by rw [ed_46]; exact yAg.cs hgd_40 (by rw [hky_41]; decide)
      have hPod_46 : yPo S d_46 := by rw [ed_46]; exact hPod_40
      have hfd_46 : yK [1] d d_46 h0 := yK.ag hfd_40 (show yAg S [46] d_40 d_46 from by rw [ed_46]; exact yAg.cs yAg.rf (by rw [hky_41]; decide)) (by rw [hk_h0]; decide)
      have hL0d_46 : yAg S [45, 46, 47] d d_46 := by rw [ed_46]; exact yAg.cs hL0d_40 (by rw [hky_41]; decide)
      have hK0d_46 : yK [] d d_46 h0 := yK.ag hK0d_40 (show yAg S [46] d_40 d_46 from by rw [ed_46]; exact yAg.cs yAg.rf (by rw [hky_41]; decide)) (by rw [hk_h0]; decide)
      have hId_46 : yMI S d_46 h0 := by rw [ed_46]; exact yMI.w16 hId_40 hSh hm_h0 hk_h0 (yBr.up (yMI.em_ hId_40) ⟨by omega, by omega⟩)
      have hE0d_46 : (d_46.1 h0 0).toInt = (d_40.1 h0 0).toInt := congrArg Int32.toInt ((yK.ag (F := []) yK.rf (show yAg S [46] d_40 d_46 from by rw [ed_46]; exact yAg.cs yAg.rf (by rw [hky_41]; decide)) (by rw [hk_h0]; decide)) 0 (by decide))
      have hE1d_46 : (d_46.1 h0 1).toInt = (d_40.1 h0 1).toInt := congrArg Int32.toInt ((yK.ag (F := []) yK.rf (show yAg S [46] d_40 d_46 from by rw [ed_46]; exact yAg.cs yAg.rf (by rw [hky_41]; decide)) (by rw [hk_h0]; decide)) 1 (by decide))
      have hE2d_46 : (d_46.1 h0 2).toInt = (d_40.1 h0 2).toInt := congrArg Int32.toInt ((yK.ag (F := []) yK.rf (show yAg S [46] d_40 d_46 from by rw [ed_46]; exact yAg.cs yAg.rf (by rw [hky_41]; decide)) (by rw [hk_h0]; decide)) 2 (by decide))
      have hE3d_46 : (d_46.1 h0 3).toInt = (d_40.1 h0 3).toInt := congrArg Int32.toInt ((yK.ag (F := []) yK.rf (show yAg S [46] d_40 d_46 from by rw [ed_46]; exact yAg.cs yAg.rf (by rw [hky_41]; decide)) (by rw [hk_h0]; decide)) 3 (by decide))
      have hE63d_46 : (d_46.1 h0 63).toInt = (d_40.1 h0 63).toInt := congrArg Int32.toInt ((yK.ag (F := []) yK.rf (show yAg S [46] d_40 d_46 from by rw [ed_46]; exact yAg.cs yAg.rf (by rw [hky_41]; decide)) (by rw [hk_h0]; decide)) 63 (by decide))
      refine lv_aload_n hx hb dX9_insert_82 rfl (lv_at hl 1 rfl) ?_
      refine yget (ci := 9) (k := 17) (v := .ref (S.2.2.1 h0 17)) (C := RX9) (T := TX9) (N := 67) C0 hK hP hm_h0 hk_h0 (by decide) rfl inlX9 (by decide) mW124 (fun _ h9 => h9) rfl dX9_insert_83 ?_
      obtain ⟨hmy_48, hky_48⟩ := ySh.f9_17 hSh _ hm_h0 hk_h0
      refine lv_iload hx hb dX9_insert_86 (lv_at hl 0 rfl) ?_
      refine lv_aload_n hx hb dX9_insert_88 rfl (lv_at hl 1 rfl) ?_
      refine yget (ci := 9) (k := 17) (v := .ref (S.2.2.1 h0 17)) (C := RX9) (T := TX9) (N := 67) C0 hK hP hm_h0 hk_h0 (by decide) rfl inlX9 (by decide) mW124 (fun _ h9 => h9) rfl dX9_insert_89 ?_
      refine lv_iload hx hb dX9_insert_92 (lv_at hl 0 rfl) ?_
      refine lv_iconst (v := 1) hx hb dX9_insert_94 (by decide) ?_
      refine lv_isub hx hb dX9_insert_95 ?_
      refine lv_topi (fun z_49 ez_49 => ?_)
      have hCC_50 := yMI.c hId_46
      have T_51 : (z_49 : Int32).toInt = (v_4 : Int32).toInt - 1 := tsub ez_49 (rfl : (v_4 : Int32).toInt = (v_4 : Int32).toInt) (by decide +kernel : (1 : Int32).toInt = 1) (by omega) (by omega)
      refine yaldB C0 hK hP hmy_48 hky_48 (by decide) rfl 1 rfl (xinT 5000 rfl (by omega) (by omega)) dX9_insert_96 ?_
      refine lv_topi (fun z_52 ez_52 => ?_)
      refine yastB C0 hK hP hD hS hmy_48 hky_48 (by decide) rfl 1 rfl (xinT 5000 rfl (by omega) (by omega)) dX9_insert_97 (fun H locs hP hD hS => ?_)
      obtain ⟨d_53, ed_53⟩ : ∃ z : yD, z = ycs d_46 (S.2.2.1 h0 17) (upd (d_46.2.2.2.1 (S.2.2.1 h0 17)) (v_4 : Int32).toNatClampNeg (vp_nar .byte z_52)) := ⟨_, rfl⟩
      rw [← ed_53] at hP hD
      have hgd_53 : yAg S [9, 45, 46, 47] d d_53 := by rw [ed_53]; exact yAg.cs hgd_46 (by rw [hky_48]; decide)
      have hPod_53 : yPo S d_53 := by rw [ed_53]; exact hPod_46
      have hfd_53 : yK [1] d d_53 h0 := yK.ag hfd_46 (show yAg S [47] d_46 d_53 from by rw [ed_53]; exact yAg.cs yAg.rf (by rw [hky_48]; decide)) (by rw [hk_h0]; decide)
      have hL0d_53 : yAg S [45, 46, 47] d d_53 := by rw [ed_53]; exact yAg.cs hL0d_46 (by rw [hky_48]; decide)
      have hK0d_53 : yK [] d d_53 h0 := yK.ag hK0d_46 (show yAg S [47] d_46 d_53 from by rw [ed_53]; exact yAg.cs yAg.rf (by rw [hky_48]; decide)) (by rw [hk_h0]; decide)
      have hId_53 : yMI S d_53 h0 := yMI.ag hId_46 hSh hm_h0 hk_h0 (show yAg S [47] d_46 d_53 from by rw [ed_53]; exact yAg.cs yAg.rf (by rw [hky_48]; decide)) (yK.ag (F := []) yK.rf (show yAg S [47] d_46 d_53 from by rw [ed_53]; exact yAg.cs yAg.rf (by rw [hky_48]; decide)) (by rw [hk_h0]; decide)) (by decide) (by decide)
      have hE0d_53 : (d_53.1 h0 0).toInt = (d_46.1 h0 0).toInt := congrArg Int32.toInt ((yK.ag (F := []) yK.rf (show yAg S [47] d_46 d_53 from by rw [ed_53]; exact yAg.cs yAg.rf (by rw [hky_48]; decide)) (by rw [hk_h0]; decide)) 0 (by decide))
      have hE1d_53 : (d_53.1 h0 1).toInt = (d_46.1 h0 1).toInt := congrArg Int32.toInt ((yK.ag (F := []) yK.rf (show yAg S [47] d_46 d_53 from by rw [ed_53]; exact yAg.cs yAg.rf (by rw [hky_48]; decide)) (by rw [hk_h0]; decide)) 1 (by decide))
      have hE2d_53 : (d_53.1 h0 2).toInt = (d_46.1 h0 2).toInt := congrArg Int32.toInt ((yK.ag (F := []) yK.rf (show yAg S [47] d_46 d_53 from by rw [ed_53]; exact yAg.cs yAg.rf (by rw [hky_48]; decide)) (by rw [hk_h0]; decide)) 2 (by decide))
      have hE3d_53 : (d_53.1 h0 3).toInt = (d_46.1 h0 3).toInt := congrArg Int32.toInt ((yK.ag (F := []) yK.rf (show yAg S [47] d_46 d_53 from by rw [ed_53]; exact yAg.cs yAg.rf (by rw [hky_48]; decide)) (by rw [hk_h0]; decide)) 3 (by decide))
      have hE63d_53 : (d_53.1 h0 63).toInt = (d_46.1 h0 63).toInt := congrArg Int32.toInt ((yK.ag (F := []) yK.rf (show yAg S [47] d_46 d_53 from by rw [ed_53]; exact yAg.cs yAg.rf (by rw [hky_48]; decide)) (by rw [hk_h0]; decide)) 63 (by decide))
      refine lv_iinc (v := v_4 + (-1)) (lv' := [(4, .int (v_4 + (-1))), (0, .ref h0), (1, .int p0), (2, .int p1), (3, .int p2)]) hx hb dX9_insert_98 hl (k := 0) rfl rfl (by decide) rfl (fun ls hl => ?_)
      refine lv_goto (tgt := 6) hx hb dX9_insert_101 (by decide) ?_
      have hCC_55 := yMI.c hId_53
      have T_56 : ((v_4 + (-1)) : Int32).toInt = (v_4 : Int32).toInt + (-1) := tadd rfl (rfl : (v_4 : Int32).toInt = (v_4 : Int32).toInt) (by decide +kernel : ((-1) : Int32).toInt = (-1)) (by omega) (by omega)
      exact hnext_6 (v_4 + (-1), d_53) _ _ ls (xdnl c_8) ⟨hP, hD, hS, hgd_53, hPod_53, hfd_53, hId_53, hL0d_53, hK0d_53, (show (0 ≤ (((v_4 + (-1))) : Int32).toInt ∧ (((v_4 + (-1))) : Int32).toInt ≤ 4999 ∧ (d_53.1 h0 1).toInt = (d.1 h0 1).toInt) from by have hq0_ : (0 : Int32).toInt = 0 := (by decide +kernel); omega), lv_sub hl [0, 1, 2, 3, 4] rfl⟩
    · refine lv_aload_n hx hb dX9_insert_24 rfl (lv_at hl 1 rfl) ?_
      refine yget (ci := 9) (k := 15) (v := .ref (S.2.2.1 h0 15)) (C := RX9) (T := TX9) (N := 67) C0 hK hP hm_h0 hk_h0 (by decide) rfl inlX9 (by decide) mW122 (fun _ h9 => h9) rfl dX9_insert_25 ?_
      refine lv_iload hx hb dX9_insert_28 (lv_at hl 0 rfl) ?_
      refine lv_iconst (v := 1) hx hb dX9_insert_30 (by decide) ?_
      refine lv_isub hx hb dX9_insert_31 ?_
      refine lv_topi (fun z_57 ez_57 => ?_)
      have F_59 := fnlt (rfl : (p0 : Int32).toInt = (p0 : Int32).toInt) (rfl : (z_33 : Int32).toInt = (z_33 : Int32).toInt) c_34
      have T_60 : (z_57 : Int32).toInt = (v_4 : Int32).toInt - 1 := tsub ez_57 (rfl : (v_4 : Int32).toInt = (v_4 : Int32).toInt) (by decide +kernel : (1 : Int32).toInt = 1) (by omega) (by omega)
      refine yaldB C0 hK hP hmy_28 hky_28 (by decide) rfl 1 rfl (xinT 5000 rfl (by omega) (by omega)) dX9_insert_32 ?_
      refine lv_topi (fun z_61 ez_61 => ?_)
      refine lv_iload_n hx hb dX9_insert_33 rfl (lv_at hl 2 rfl) ?_
      refine lv_icmp_ne (tgt := 104) hx hb dX9_insert_34 (by decide) (fun c_62 => ?_) (fun c_62 => ?_)
      · refine lv_aload_n hx hb dX9_insert_104 rfl (lv_at hl 1 rfl) ?_
        refine yget (ci := 9) (k := 15) (v := .ref (S.2.2.1 h0 15)) (C := RX9) (T := TX9) (N := 67) C0 hK hP hm_h0 hk_h0 (by decide) rfl inlX9 (by decide) mW122 (fun _ h9 => h9) rfl dX9_insert_105 ?_
        refine lv_iload hx hb dX9_insert_108 (lv_at hl 0 rfl) ?_
        refine lv_iload_n hx hb dX9_insert_110 rfl (lv_at hl 2 rfl) ?_
        refine lv_i2b hx hb dX9_insert_111 rfl ?_
        refine lv_topi (fun z_63 ez_63 => ?_)
        have F_65 := fne (rfl : (z_61 : Int32).toInt = (z_61 : Int32).toInt) (rfl : (p0 : Int32).toInt = (p0 : Int32).toInt) c_62
        refine yastB C0 hK hP hD hS hmy_28 hky_28 (by decide) rfl 1 rfl (xinT 5000 rfl (by omega) (by omega)) dX9_insert_112 (fun H locs hP hD hS => ?_)
        obtain ⟨d_66, ed_66⟩ : ∃ z : yD, z = ycs d_5 (S.2.2.1 h0 15) (upd (d_5.2.2.2.1 (S.2.2.1 h0 15)) (v_4 : Int32).toNatClampNeg (vp_nar .byte z_63)) := ⟨_, rfl⟩
        rw [← ed_66] at hP hD
        have hgd_66 : yAg S [9, 45, 46, 47] d d_66 := by rw [ed_66]; exact yAg.cs hgd_5 (by rw [hky_28]; decide)
        have hPod_66 : yPo S d_66 := by rw [ed_66]; exact hPod_5
        have hfd_66 : yK [1] d d_66 h0 := yK.ag hfd_5 (show yAg S [45] d_5 d_66 from by rw [ed_66]; exact yAg.cs yAg.rf (by rw [hky_28]; decide)) (by rw [hk_h0]; decide)
        have hId_66 : yMI S d_66 h0 := yMI.ag hId_5 hSh hm_h0 hk_h0 (show yAg S [45] d_5 d_66 from by rw [ed_66]; exact yAg.cs yAg.rf (by rw [hky_28]; decide)) (yK.ag (F := []) yK.rf (show yAg S [45] d_5 d_66 from by rw [ed_66]; exact yAg.cs yAg.rf (by rw [hky_28]; decide)) (by rw [hk_h0]; decide)) (by decide) (by decide)
        have hE0d_66 : (d_66.1 h0 0).toInt = (d_5.1 h0 0).toInt := congrArg Int32.toInt ((yK.ag (F := []) yK.rf (show yAg S [45] d_5 d_66 from by rw [ed_66]; exact yAg.cs yAg.rf (by rw [hky_28]; decide)) (by rw [hk_h0]; decide)) 0 (by decide))
        have hE1d_66 : (d_66.1 h0 1).toInt = (d_5.1 h0 1).toInt := congrArg Int32.toInt ((yK.ag (F := []) yK.rf (show yAg S [45] d_5 d_66 from by rw [ed_66]; exact yAg.cs yAg.rf (by rw [hky_28]; decide)) (by rw [hk_h0]; decide)) 1 (by decide))
        have hE2d_66 : (d_66.1 h0 2).toInt = (d_5.1 h0 2).toInt := congrArg Int32.toInt ((yK.ag (F := []) yK.rf (show yAg S [45] d_5 d_66 from by rw [ed_66]; exact yAg.cs yAg.rf (by rw [hky_28]; decide)) (by rw [hk_h0]; decide)) 2 (by decide))
        have hE3d_66 : (d_66.1 h0 3).toInt = (d_5.1 h0 3).toInt := congrArg Int32.toInt ((yK.ag (F := []) yK.rf (show yAg S [45] d_5 d_66 from by rw [ed_66]; exact yAg.cs yAg.rf (by rw [hky_28]; decide)) (by rw [hk_h0]; decide)) 3 (by decide))
        have hE63d_66 : (d_66.1 h0 63).toInt = (d_5.1 h0 63).toInt := congrArg Int32.toInt ((yK.ag (F := []) yK.rf (show yAg S [45] d_5 d_66 from by rw [ed_66]; exact yAg.cs yAg.rf (by rw [hky_28]; decide)) (by rw [hk_h0]; decide)) 63 (by decide))
        refine lv_aload_n hx hb dX9_insert_113 rfl (lv_at hl 1 rfl) ?_
        refine yget (ci := 9) (k := 16) (v := .ref (S.2.2.1 h0 16)) (C := RX9) (T := TX9) (N := 67) C0 hK hP hm_h0 hk_h0 (by decide) rfl inlX9 (by decide) mW123 (fun _ h9 => h9) rfl dX9_insert_114 ?_
        obtain ⟨hmy_67, hky_67⟩ := ySh.f9_16 hSh _ hm_h0 hk_h0
        refine lv_iload hx hb dX9_insert_117 (lv_at hl 0 rfl) ?_
        refine lv_iload_n hx hb dX9_insert_119 rfl (lv_at hl 3 rfl) ?_
        have hCC_68 := yMI.c hId_66
        refine yast C0 hK hP hD hS hmy_67 hky_67 (by decide) rfl 0 rfl (xinT 5000 rfl (by omega) (by omega)) dX9_insert_120 (fun H locs hP hD hS => ?_)
        obtain ⟨d_69, ed_69⟩ : ∃ z : yD, z = ycs d_66 (S.2.2.1 h0 16) (upd (d_66.2.2.2.1 (S.2.2.1 h0 16)) (v_4 : Int32).toNatClampNeg p1) := ⟨_, rfl⟩
        rw [← ed_69] at hP hD
        have hgd_69 : yAg S [9, 45, 46, 47] d d_69 := by rw [ed_69]; exact yAg.cs hgd_66 (by rw [hky_67]; decide)
        have hPod_69 : yPo S d_69 := by rw [ed_69]; exact hPod_66
        have hfd_69 : yK [1] d d_69 h0 := yK.ag hfd_66 (show yAg S [46] d_66 d_69 from by rw [ed_69]; exact yAg.cs yAg.rf (by rw [hky_67]; decide)) (by rw [hk_h0]; decide)
        have hId_69 : yMI S d_69 h0 := by rw [ed_69]; exact yMI.w16 hId_66 hSh hm_h0 hk_h0 (yBr.up (yMI.em_ hId_66) ⟨by omega, by omega⟩)
        have hE0d_69 : (d_69.1 h0 0).toInt = (d_66.1 h0 0).toInt := congrArg Int32.toInt ((yK.ag (F := []) yK.rf (show yAg S [46] d_66 d_69 from by rw [ed_69]; exact yAg.cs yAg.rf (by rw [hky_67]; decide)) (by rw [hk_h0]; decide)) 0 (by decide))
        have hE1d_69 : (d_69.1 h0 1).toInt = (d_66.1 h0 1).toInt := congrArg Int32.toInt ((yK.ag (F := []) yK.rf (show yAg S [46] d_66 d_69 from by rw [ed_69]; exact yAg.cs yAg.rf (by rw [hky_67]; decide)) (by rw [hk_h0]; decide)) 1 (by decide))
        have hE2d_69 : (d_69.1 h0 2).toInt = (d_66.1 h0 2).toInt := congrArg Int32.toInt ((yK.ag (F := []) yK.rf (show yAg S [46] d_66 d_69 from by rw [ed_69]; exact yAg.cs yAg.rf (by rw [hky_67]; decide)) (by rw [hk_h0]; decide)) 2 (by decide))
        have hE3d_69 : (d_69.1 h0 3).toInt = (d_66.1 h0 3).toInt := congrArg Int32.toInt ((yK.ag (F := []) yK.rf (show yAg S [46] d_66 d_69 from by rw [ed_69]; exact yAg.cs yAg.rf (by rw [hky_67]; decide)) (by rw [hk_h0]; decide)) 3 (by decide))
        have hE63d_69 : (d_69.1 h0 63).toInt = (d_66.1 h0 63).toInt := congrArg Int32.toInt ((yK.ag (F := []) yK.rf (show yAg S [46] d_66 d_69 from by rw [ed_69]; exact yAg.cs yAg.rf (by rw [hky_67]; decide)) (by rw [hk_h0]; decide)) 63 (by decide))
        refine lv_aload_n hx hb dX9_insert_121 rfl (lv_at hl 1 rfl) ?_
        refine yget (ci := 9) (k := 17) (v := .ref (S.2.2.1 h0 17)) (C := RX9) (T := TX9) (N := 67) C0 hK hP hm_h0 hk_h0 (by decide) rfl inlX9 (by decide) mW124 (fun _ h9 => h9) rfl dX9_insert_122 ?_
        obtain ⟨hmy_70, hky_70⟩ := ySh.f9_17 hSh _ hm_h0 hk_h0
        refine lv_iload hx hb dX9_insert_125 (lv_at hl 0 rfl) ?_
        refine lv_iload_n hx hb dX9_insert_127 rfl (lv_at hl 4 rfl) ?_
        refine lv_i2b hx hb dX9_insert_128 rfl ?_
        refine lv_topi (fun z_71 ez_71 => ?_)
        have hCC_72 := yMI.c hId_69
        refine yastB C0 hK hP hD hS hmy_70 hky_70 (by decide) rfl 1 rfl (xinT 5000 rfl (by omega) (by omega)) dX9_insert_129 (fun H locs hP hD hS => ?_)
        obtain ⟨d_73, ed_73⟩ : ∃ z : yD, z = ycs d_69 (S.2.2.1 h0 17) (upd (d_69.2.2.2.1 (S.2.2.1 h0 17)) (v_4 : Int32).toNatClampNeg (vp_nar .byte z_71)) := ⟨_, rfl⟩
        rw [← ed_73] at hP hD
        have hgd_73 : yAg S [9, 45, 46, 47] d d_73 := by rw [ed_73]; exact yAg.cs hgd_69 (by rw [hky_70]; decide)
        have hPod_73 : yPo S d_73 := by rw [ed_73]; exact hPod_69
        have hfd_73 : yK [1] d d_73 h0 := yK.ag hfd_69 (show yAg S [47] d_69 d_73 from by rw [ed_73]; exact yAg.cs yAg.rf (by rw [hky_70]; decide)) (by rw [hk_h0]; decide)
        have hId_73 : yMI S d_73 h0 := yMI.ag hId_69 hSh hm_h0 hk_h0 (show yAg S [47] d_69 d_73 from by rw [ed_73]; exact yAg.cs yAg.rf (by rw [hky_70]; decide)) (yK.ag (F := []) yK.rf (show yAg S [47] d_69 d_73 from by rw [ed_73]; exact yAg.cs yAg.rf (by rw [hky_70]; decide)) (by rw [hk_h0]; decide)) (by decide) (by decide)
        have hE0d_73 : (d_73.1 h0 0).toInt = (d_69.1 h0 0).toInt := congrArg Int32.toInt ((yK.ag (F := []) yK.rf (show yAg S [47] d_69 d_73 from by rw [ed_73]; exact yAg.cs yAg.rf (by rw [hky_70]; decide)) (by rw [hk_h0]; decide)) 0 (by decide))
        have hE1d_73 : (d_73.1 h0 1).toInt = (d_69.1 h0 1).toInt := congrArg Int32.toInt ((yK.ag (F := []) yK.rf (show yAg S [47] d_69 d_73 from by rw [ed_73]; exact yAg.cs yAg.rf (by rw [hky_70]; decide)) (by rw [hk_h0]; decide)) 1 (by decide))
        have hE2d_73 : (d_73.1 h0 2).toInt = (d_69.1 h0 2).toInt := congrArg Int32.toInt ((yK.ag (F := []) yK.rf (show yAg S [47] d_69 d_73 from by rw [ed_73]; exact yAg.cs yAg.rf (by rw [hky_70]; decide)) (by rw [hk_h0]; decide)) 2 (by decide))
        have hE3d_73 : (d_73.1 h0 3).toInt = (d_69.1 h0 3).toInt := congrArg Int32.toInt ((yK.ag (F := []) yK.rf (show yAg S [47] d_69 d_73 from by rw [ed_73]; exact yAg.cs yAg.rf (by rw [hky_70]; decide)) (by rw [hk_h0]; decide)) 3 (by decide))
        have hE63d_73 : (d_73.1 h0 63).toInt = (d_69.1 h0 63).toInt := congrArg Int32.toInt ((yK.ag (F := []) yK.rf (show yAg S [47] d_69 d_73 from by rw [ed_73]; exact yAg.cs yAg.rf (by rw [hky_70]; decide)) (by rw [hk_h0]; decide)) 63 (by decide))
        refine lv_aload_n hx hb dX9_insert_130 rfl (lv_at hl 1 rfl) ?_
        refine lv_dup hx hb dX9_insert_131 rfl ?_
        refine yget (ci := 9) (k := 1) (v := .int (d_73.1 h0 1)) (C := RX9) (T := TX9) (N := 67) C0 hK hP hm_h0 hk_h0 (by decide) rfl inlX9 (by decide) mW364 (fun _ h9 => h9) rfl dX9_insert_132 ?_
        refine lv_topi (fun z_74 ez_74 => ?_)
        refine lv_iconst (v := 1) hx hb dX9_insert_135 (by decide) ?_
        refine lv_iadd hx hb dX9_insert_136 ?_
        refine lv_topi (fun z_75 ez_75 => ?_)
        refine yputI (ci := 9) (k := 1) (ty := .int) (C := RX9) (T := TX9) (N := 67) C0 hK hP hD hS hm_h0 hk_h0 (by decide) rfl inlX9 tyX9 tyX9_ok nmX9 (by decide) mW364 (fun _ h9 => h9) rfl (by decide +kernel) rfl rfl (Nat.le_of_ble_eq_true rfl) ysi_9_1 dX9_insert_137 (fun H locs hP hD hS => ?_)
        obtain ⟨d_76, ed_76⟩ : ∃ z : yD, z = yi d_73 h0 1 z_75 := ⟨_, rfl⟩
        rw [← ed_76] at hP hD
        have hgd_76 : yAg S [9, 45, 46, 47] d d_76 := by rw [ed_76]; exact yAg.i hgd_73 (by rw [hk_h0]; decide)
        have hPod_76 : yPo S d_76 := by rw [ed_76]; exact yPo.i hPod_73 hk_h0 (Or.inl rfl)
        have hfd_76 : yK [1] d d_76 h0 := by rw [ed_76]; exact yK.i hfd_73 (by decide)
        have hCC_77 := yMI.c hId_73
        have T_79 : (z_74 : Int32).toInt = (d_73.1 h0 1).toInt := by rw [ez_74]
        have T_78 : (z_75 : Int32).toInt = (z_74 : Int32).toInt + 1 := tadd ez_75 (rfl : (z_74 : Int32).toInt = (z_74 : Int32).toInt) (by decide +kernel : (1 : Int32).toInt = 1) (by omega) (by omega)
        have hId_76 : yMI S d_76 h0 := by rw [ed_76]; exact yMI.i1 hId_73 ⟨by omega, by omega⟩
        have hE0d_76 : (d_76.1 h0 0).toInt = (d_73.1 h0 0).toInt := congrArg Int32.toInt ((show yK [1] d_73 d_76 h0 from by rw [ed_76]; exact yK.i yK.rf (by decide)) 0 (by decide))
        have hE1d_76 : (d_76.1 h0 1).toInt = (z_75 : Int32).toInt := by rw [ed_76, yi_self]
        have hE2d_76 : (d_76.1 h0 2).toInt = (d_73.1 h0 2).toInt := congrArg Int32.toInt ((show yK [1] d_73 d_76 h0 from by rw [ed_76]; exact yK.i yK.rf (by decide)) 2 (by decide))
        have hE3d_76 : (d_76.1 h0 3).toInt = (d_73.1 h0 3).toInt := congrArg Int32.toInt ((show yK [1] d_73 d_76 h0 from by rw [ed_76]; exact yK.i yK.rf (by decide)) 3 (by decide))
        have hE63d_76 : (d_76.1 h0 63).toInt = (d_73.1 h0 63).toInt := congrArg Int32.toInt ((show yK [1] d_73 d_76 h0 from by rw [ed_76]; exact yK.i yK.rf (by decide)) 63 (by decide))
        have hCC_80 := yMI.c hId_76
        exact W.vret hx hb hr (fun t ht hW => ⟨⟨d_76, rfl, ⟨hgd_76, (fun _ => hPod_76), hfd_76, ⟨hId_76, by omega⟩⟩, by rw [ht]; exact hP, hD⟩, hS.F ht⟩) hS.2.2 dX9_insert_140
      · refine lv_aload_n hx hb dX9_insert_37 rfl (lv_at hl 1 rfl) ?_
        refine yget (ci := 9) (k := 16) (v := .ref (S.2.2.1 h0 16)) (C := RX9) (T := TX9) (N := 67) C0 hK hP hm_h0 hk_h0 (by decide) rfl inlX9 (by decide) mW123 (fun _ h9 => h9) rfl dX9_insert_38 ?_
        obtain ⟨hmy_81, hky_81⟩ := ySh.f9_16 hSh _ hm_h0 hk_h0
        refine lv_iload hx hb dX9_insert_41 (lv_at hl 0 rfl) ?_
        refine lv_iconst (v := 1) hx hb dX9_insert_43 (by decide) ?_
        refine lv_isub hx hb dX9_insert_44 ?_
        refine lv_topi (fun z_82 ez_82 => ?_)
        have F_84 := feq (rfl : (z_61 : Int32).toInt = (z_61 : Int32).toInt) (rfl : (p0 : Int32).toInt = (p0 : Int32).toInt) c_62
        have T_85 : (z_82 : Int32).toInt = (v_4 : Int32).toInt - 1 := tsub ez_82 (rfl : (v_4 : Int32).toInt = (v_4 : Int32).toInt) (by decide +kernel : (1 : Int32).toInt = 1) (by omega) (by omega)
        refine yald C0 hK hP hmy_81 hky_81 (by decide) rfl 0 rfl (xinT 5000 rfl (by omega) (by omega)) dX9_insert_45 ?_
        refine lv_topi (fun z_86 ez_86 => ?_)
        have hvz_86 : 0 ≤ (z_86 : Int32).toInt ∧ (z_86 : Int32).toInt ≤ 129599 := by rw [ez_86]; exact yMI.em_ hId_5 _
        refine lv_iload_n hx hb dX9_insert_46 rfl (lv_at hl 3 rfl) ?_
        refine lv_icmp_le (tgt := 104) hx hb dX9_insert_47 (by decide) (fun c_87 => ?_) (fun c_87 => ?_)
        · refine lv_aload_n hx hb dX9_insert_104 rfl (lv_at hl 1 rfl) ?_
          refine yget (ci := 9) (k := 15) (v := .ref (S.2.2.1 h0 15)) (C := RX9) (T := TX9) (N := 67) C0 hK hP hm_h0 hk_h0 (by decide) rfl inlX9 (by decide) mW122 (fun _ h9 => h9) rfl dX9_insert_105 ?_
          refine lv_iload hx hb dX9_insert_108 (lv_at hl 0 rfl) ?_
          refine lv_iload_n hx hb dX9_insert_110 rfl (lv_at hl 2 rfl) ?_
          refine lv_i2b hx hb dX9_insert_111 rfl ?_
          refine lv_topi (fun z_88 ez_88 => ?_)
          have F_90 := fle (rfl : (z_86 : Int32).toInt = (z_86 : Int32).toInt) (rfl : (p1 : Int32).toInt = (p1 : Int32).toInt) c_87
          refine yastB C0 hK hP hD hS hmy_28 hky_28 (by decide) rfl 1 rfl (xinT 5000 rfl (by omega) (by omega)) dX9_insert_112 (fun H locs hP hD hS => ?_)
          obtain ⟨d_91, ed_91⟩ : ∃ z : yD, z = ycs d_5 (S.2.2.1 h0 15) (upd (d_5.2.2.2.1 (S.2.2.1 h0 15)) (v_4 : Int32).toNatClampNeg (vp_nar .byte z_88)) := ⟨_, rfl⟩
          rw [← ed_91] at hP hD
          have hgd_91 : yAg S [9, 45, 46, 47] d d_91 := by rw [ed_91]; exact yAg.cs hgd_5 (by rw [hky_28]; decide)
          have hPod_91 : yPo S d_91 := by rw [ed_91]; exact hPod_5
          have hfd_91 : yK [1] d d_91 h0 := yK.ag hfd_5 (show yAg S [45] d_5 d_91 from by rw [ed_91]; exact yAg.cs yAg.rf (by rw [hky_28]; decide)) (by rw [hk_h0]; decide)
          have hId_91 : yMI S d_91 h0 := yMI.ag hId_5 hSh hm_h0 hk_h0 (show yAg S [45] d_5 d_91 from by rw [ed_91]; exact yAg.cs yAg.rf (by rw [hky_28]; decide)) (yK.ag (F := []) yK.rf (show yAg S [45] d_5 d_91 from by rw [ed_91]; exact yAg.cs yAg.rf (by rw [hky_28]; decide)) (by rw [hk_h0]; decide)) (by decide) (by decide)
          have hE0d_91 : (d_91.1 h0 0).toInt = (d_5.1 h0 0).toInt := congrArg Int32.toInt ((yK.ag (F := []) yK.rf (show yAg S [45] d_5 d_91 from by rw [ed_91]; exact yAg.cs yAg.rf (by rw [hky_28]; decide)) (by rw [hk_h0]; decide)) 0 (by decide))
          have hE1d_91 : (d_91.1 h0 1).toInt = (d_5.1 h0 1).toInt := congrArg Int32.toInt ((yK.ag (F := []) yK.rf (show yAg S [45] d_5 d_91 from by rw [ed_91]; exact yAg.cs yAg.rf (by rw [hky_28]; decide)) (by rw [hk_h0]; decide)) 1 (by decide))
          have hE2d_91 : (d_91.1 h0 2).toInt = (d_5.1 h0 2).toInt := congrArg Int32.toInt ((yK.ag (F := []) yK.rf (show yAg S [45] d_5 d_91 from by rw [ed_91]; exact yAg.cs yAg.rf (by rw [hky_28]; decide)) (by rw [hk_h0]; decide)) 2 (by decide))
          have hE3d_91 : (d_91.1 h0 3).toInt = (d_5.1 h0 3).toInt := congrArg Int32.toInt ((yK.ag (F := []) yK.rf (show yAg S [45] d_5 d_91 from by rw [ed_91]; exact yAg.cs yAg.rf (by rw [hky_28]; decide)) (by rw [hk_h0]; decide)) 3 (by decide))
          have hE63d_91 : (d_91.1 h0 63).toInt = (d_5.1 h0 63).toInt := congrArg Int32.toInt ((yK.ag (F := []) yK.rf (show yAg S [45] d_5 d_91 from by rw [ed_91]; exact yAg.cs yAg.rf (by rw [hky_28]; decide)) (by rw [hk_h0]; decide)) 63 (by decide))
          refine lv_aload_n hx hb dX9_insert_113 rfl (lv_at hl 1 rfl) ?_
          refine yget (ci := 9) (k := 16) (v := .ref (S.2.2.1 h0 16)) (C := RX9) (T := TX9) (N := 67) C0 hK hP hm_h0 hk_h0 (by decide) rfl inlX9 (by decide) mW123 (fun _ h9 => h9) rfl dX9_insert_114 ?_
          refine lv_iload hx hb dX9_insert_117 (lv_at hl 0 rfl) ?_
          refine lv_iload_n hx hb dX9_insert_119 rfl (lv_at hl 3 rfl) ?_
          have hCC_92 := yMI.c hId_91
          refine yast C0 hK hP hD hS hmy_81 hky_81 (by decide) rfl 0 rfl (xinT 5000 rfl (by omega) (by omega)) dX9_insert_120 (fun H locs hP hD hS => ?_)
          obtain ⟨d_93, ed_93⟩ : ∃ z : yD, z = ycs d_91 (S.2.2.1 h0 16) (upd (d_91.2.2.2.1 (S.2.2.1 h0 16)) (v_4 : Int32).toNatClampNeg p1) := ⟨_, rfl⟩
          rw [← ed_93] at hP hD
          have hgd_93 : yAg S [9, 45, 46, 47] d d_93 := by rw [ed_93]; exact yAg.cs hgd_91 (by rw [hky_81]; decide)
          have hPod_93 : yPo S d_93 := by rw [ed_93]; exact hPod_91
          have hfd_93 : yK [1] d d_93 h0 := yK.ag hfd_91 (show yAg S [46] d_91 d_93 from by rw [ed_93]; exact yAg.cs yAg.rf (by rw [hky_81]; decide)) (by rw [hk_h0]; decide)
          have hId_93 : yMI S d_93 h0 := by rw [ed_93]; exact yMI.w16 hId_91 hSh hm_h0 hk_h0 (yBr.up (yMI.em_ hId_91) ⟨by omega, by omega⟩)
          have hE0d_93 : (d_93.1 h0 0).toInt = (d_91.1 h0 0).toInt := congrArg Int32.toInt ((yK.ag (F := []) yK.rf (show yAg S [46] d_91 d_93 from by rw [ed_93]; exact yAg.cs yAg.rf (by rw [hky_81]; decide)) (by rw [hk_h0]; decide)) 0 (by decide))
          have hE1d_93 : (d_93.1 h0 1).toInt = (d_91.1 h0 1).toInt := congrArg Int32.toInt ((yK.ag (F := []) yK.rf (show yAg S [46] d_91 d_93 from by rw [ed_93]; exact yAg.cs yAg.rf (by rw [hky_81]; decide)) (by rw [hk_h0]; decide)) 1 (by decide))
          have hE2d_93 : (d_93.1 h0 2).toInt = (d_91.1 h0 2).toInt := congrArg Int32.toInt ((yK.ag (F := []) yK.rf (show yAg S [46] d_91 d_93 from by rw [ed_93]; exact yAg.cs yAg.rf (by rw [hky_81]; decide)) (by rw [hk_h0]; decide)) 2 (by decide))
          have hE3d_93 : (d_93.1 h0 3).toInt = (d_91.1 h0 3).toInt := congrArg Int32.toInt ((yK.ag (F := []) yK.rf (show yAg S [46] d_91 d_93 from by rw [ed_93]; exact yAg.cs yAg.rf (by rw [hky_81]; decide)) (by rw [hk_h0]; decide)) 3 (by decide))
          have hE63d_93 : (d_93.1 h0 63).toInt = (d_91.1 h0 63).toInt := congrArg Int32.toInt ((yK.ag (F := []) yK.rf (show yAg S [46] d_91 d_93 from by rw [ed_93]; exact yAg.cs yAg.rf (by rw [hky_81]; decide)) (by rw [hk_h0]; decide)) 63 (by decide))
          refine lv_aload_n hx hb dX9_insert_121 rfl (lv_at hl 1 rfl) ?_
          refine yget (ci := 9) (k := 17) (v := .ref (S.2.2.1 h0 17)) (C := RX9) (T := TX9) (N := 67) C0 hK hP hm_h0 hk_h0 (by decide) rfl inlX9 (by decide) mW124 (fun _ h9 => h9) rfl dX9_insert_122 ?_
          obtain ⟨hmy_94, hky_94⟩ := ySh.f9_17 hSh _ hm_h0 hk_h0
          refine lv_iload hx hb dX9_insert_125 (lv_at hl 0 rfl) ?_
          refine lv_iload_n hx hb dX9_insert_127 rfl (lv_at hl 4 rfl) ?_
          refine lv_i2b hx hb dX9_insert_128 rfl ?_
          refine lv_topi (fun z_95 ez_95 => ?_)
          have hCC_96 := yMI.c hId_93
          refine yastB C0 hK hP hD hS hmy_94 hky_94 (by decide) rfl 1 rfl (xinT 5000 rfl (by omega) (by omega)) dX9_insert_129 (fun H locs hP hD hS => ?_)
          obtain ⟨d_97, ed_97⟩ : ∃ z : yD, z = ycs d_93 (S.2.2.1 h0 17) (upd (d_93.2.2.2.1 (S.2.2.1 h0 17)) (v_4 : Int32).toNatClampNeg (vp_nar .byte z_95)) := ⟨_, rfl⟩
          rw [← ed_97] at hP hD
          have hgd_97 : yAg S [9, 45, 46, 47] d d_97 := by rw [ed_97]; exact yAg.cs hgd_93 (by rw [hky_94]; decide)
          have hPod_97 : yPo S d_97 := by rw [ed_97]; exact hPod_93
          have hfd_97 : yK [1] d d_97 h0 := yK.ag hfd_93 (show yAg S [47] d_93 d_97 from by rw [ed_97]; exact yAg.cs yAg.rf (by rw [hky_94]; decide)) (by rw [hk_h0]; decide)
          have hId_97 : yMI S d_97 h0 := yMI.ag hId_93 hSh hm_h0 hk_h0 (show yAg S [47] d_93 d_97 from by rw [ed_97]; exact yAg.cs yAg.rf (by rw [hky_94]; decide)) (yK.ag (F := []) yK.rf (show yAg S [47] d_93 d_97 from by rw [ed_97]; exact yAg.cs yAg.rf (by rw [hky_94]; decide)) (by rw [hk_h0]; decide)) (by decide) (by decide)
          have hE0d_97 : (d_97.1 h0 0).toInt = (d_93.1 h0 0).toInt := congrArg Int32.toInt ((yK.ag (F := []) yK.rf (show yAg S [47] d_93 d_97 from by rw [ed_97]; exact yAg.cs yAg.rf (by rw [hky_94]; decide)) (by rw [hk_h0]; decide)) 0 (by decide))
          have hE1d_97 : (d_97.1 h0 1).toInt = (d_93.1 h0 1).toInt := congrArg Int32.toInt ((yK.ag (F := []) yK.rf (show yAg S [47] d_93 d_97 from by rw [ed_97]; exact yAg.cs yAg.rf (by rw [hky_94]; decide)) (by rw [hk_h0]; decide)) 1 (by decide))
          have hE2d_97 : (d_97.1 h0 2).toInt = (d_93.1 h0 2).toInt := congrArg Int32.toInt ((yK.ag (F := []) yK.rf (show yAg S [47] d_93 d_97 from by rw [ed_97]; exact yAg.cs yAg.rf (by rw [hky_94]; decide)) (by rw [hk_h0]; decide)) 2 (by decide))
          have hE3d_97 : (d_97.1 h0 3).toInt = (d_93.1 h0 3).toInt := congrArg Int32.toInt ((yK.ag (F := []) yK.rf (show yAg S [47] d_93 d_97 from by rw [ed_97]; exact yAg.cs yAg.rf (by rw [hky_94]; decide)) (by rw [hk_h0]; decide)) 3 (by decide))
          have hE63d_97 : (d_97.1 h0 63).toInt = (d_93.1 h0 63).toInt := congrArg Int32.toInt ((yK.ag (F := []) yK.rf (show yAg S [47] d_93 d_97 from by rw [ed_97]; exact yAg.cs yAg.rf (by rw [hky_94]; decide)) (by rw [hk_h0]; decide)) 63 (by decide))
          refine lv_aload_n hx hb dX9_insert_130 rfl (lv_at hl 1 rfl) ?_
          refine lv_dup hx hb dX9_insert_131 rfl ?_
          refine yget (ci := 9) (k := 1) (v := .int (d_97.1 h0 1)) (C := RX9) (T := TX9) (N := 67) C0 hK hP hm_h0 hk_h0 (by decide) rfl inlX9 (by decide) mW364 (fun _ h9 => h9) rfl dX9_insert_132 ?_
          refine lv_topi (fun z_98 ez_98 => ?_)
          refine lv_iconst (v := 1) hx hb dX9_insert_135 (by decide) ?_
          refine lv_iadd hx hb dX9_insert_136 ?_
          refine lv_topi (fun z_99 ez_99 => ?_)
          refine yputI (ci := 9) (k := 1) (ty := .int) (C := RX9) (T := TX9) (N := 67) C0 hK hP hD hS hm_h0 hk_h0 (by decide) rfl inlX9 tyX9 tyX9_ok nmX9 (by decide) mW364 (fun _ h9 => h9) rfl (by decide +kernel) rfl rfl (Nat.le_of_ble_eq_true rfl) ysi_9_1 dX9_insert_137 (fun H locs hP hD hS => ?_)
          obtain ⟨d_100, ed_100⟩ : ∃ z : yD, z = yi d_97 h0 1 z_99 := ⟨_, rfl⟩
          rw [← ed_100] at hP hD
          have hgd_100 : yAg S [9, 45, 46, 47] d d_100 := by rw [ed_100]; exact yAg.i hgd_97 (by rw [hk_h0]; decide)
          have hPod_100 : yPo S d_100 := by rw [ed_100]; exact yPo.i hPod_97 hk_h0 (Or.inl rfl)
          have hfd_100 : yK [1] d d_100 h0 := by rw [ed_100]; exact yK.i hfd_97 (by decide)
          have hCC_101 := yMI.c hId_97
          have T_103 : (z_98 : Int32).toInt = (d_97.1 h0 1).toInt := by rw [ez_98]
          have T_102 : (z_99 : Int32).toInt = (z_98 : Int32).toInt + 1 := tadd ez_99 (rfl : (z_98 : Int32).toInt = (z_98 : Int32).toInt) (by decide +kernel : (1 : Int32).toInt = 1) (by omega) (by omega)
          have hId_100 : yMI S d_100 h0 := by rw [ed_100]; exact yMI.i1 hId_97 ⟨by omega, by omega⟩
          have hE0d_100 : (d_100.1 h0 0).toInt = (d_97.1 h0 0).toInt := congrArg Int32.toInt ((show yK [1] d_97 d_100 h0 from by rw [ed_100]; exact yK.i yK.rf (by decide)) 0 (by decide))
          have hE1d_100 : (d_100.1 h0 1).toInt = (z_99 : Int32).toInt := by rw [ed_100, yi_self]
          have hE2d_100 : (d_100.1 h0 2).toInt = (d_97.1 h0 2).toInt := congrArg Int32.toInt ((show yK [1] d_97 d_100 h0 from by rw [ed_100]; exact yK.i yK.rf (by decide)) 2 (by decide))
          have hE3d_100 : (d_100.1 h0 3).toInt = (d_97.1 h0 3).toInt := congrArg Int32.toInt ((show yK [1] d_97 d_100 h0 from by rw [ed_100]; exact yK.i yK.rf (by decide)) 3 (by decide))
          have hE63d_100 : (d_100.1 h0 63).toInt = (d_97.1 h0 63).toInt := congrArg Int32.toInt ((show yK [1] d_97 d_100 h0 from by rw [ed_100]; exact yK.i yK.rf (by decide)) 63 (by decide))
          have hCC_104 := yMI.c hId_100
          exact W.vret hx hb hr (fun t ht hW => ⟨⟨d_100, rfl, ⟨hgd_100, (fun _ => hPod_100), hfd_100, ⟨hId_100, by omega⟩⟩, by rw [ht]; exact hP, hD⟩, hS.F ht⟩) hS.2.2 dX9_insert_140
        · refine lv_aload_n hx hb dX9_insert_50 rfl (lv_at hl 1 rfl) ?_
          refine yget (ci := 9) (k := 15) (v := .ref (S.2.2.1 h0 15)) (C := RX9) (T := TX9) (N := 67) C0 hK hP hm_h0 hk_h0 (by decide) rfl inlX9 (by decide) mW122 (fun _ h9 => h9) rfl dX9_insert_51 ?_
          refine lv_iload hx hb dX9_insert_54 (lv_at hl 0 rfl) ?_
          refine lv_aload_n hx hb dX9_insert_56 rfl (lv_at hl 1 rfl) ?_
          refine yget (ci := 9) (k := 15) (v := .ref (S.2.2.1 h0 15)) (C := RX9) (T := TX9) (N := 67) C0 hK hP hm_h0 hk_h0 (by decide) rfl inlX9 (by decide) mW122 (fun _ h9 => h9) rfl dX9_insert_57 ?_
          refine lv_iload hx hb dX9_insert_60 (lv_at hl 0 rfl) ?_
          refine lv_iconst (v := 1) hx hb dX9_insert_62 (by decide) ?_
          refine lv_isub hx hb dX9_insert_63 ?_
          refine lv_topi (fun z_105 ez_105 => ?_)
          have F_107 := fnle (rfl : (z_86 : Int32).toInt = (z_86 : Int32).toInt) (rfl : (p1 : Int32).toInt = (p1 : Int32).toInt) c_87
          have T_108 : (z_105 : Int32).toInt = (v_4 : Int32).toInt - 1 := tsub ez_105 (rfl : (v_4 : Int32).toInt = (v_4 : Int32).toInt) (by decide +kernel : (1 : Int32).toInt = 1) (by omega) (by omega)
          refine yaldB C0 hK hP hmy_28 hky_28 (by decide) rfl 1 rfl (xinT 5000 rfl (by omega) (by omega)) dX9_insert_64 ?_
          refine lv_topi (fun z_109 ez_109 => ?_)
          refine yastB C0 hK hP hD hS hmy_28 hky_28 (by decide) rfl 1 rfl (xinT 5000 rfl (by omega) (by omega)) dX9_insert_65 (fun H locs hP hD hS => ?_)
          obtain ⟨d_110, ed_110⟩ : ∃ z : yD, z = ycs d_5 (S.2.2.1 h0 15) (upd (d_5.2.2.2.1 (S.2.2.1 h0 15)) (v_4 : Int32).toNatClampNeg (vp_nar .byte z_109)) := ⟨_, rfl⟩
          rw [← ed_110] at hP hD
          have hgd_110 : yAg S [9, 45, 46, 47] d d_110 := by rw [ed_110]; exact yAg.cs hgd_5 (by rw [hky_28]; decide)
          have hPod_110 : yPo S d_110 := by rw [ed_110]; exact hPod_5
          have hfd_110 : yK [1] d d_110 h0 := yK.ag hfd_5 (show yAg S [45] d_5 d_110 from by rw [ed_110]; exact yAg.cs yAg.rf (by rw [hky_28]; decide)) (by rw [hk_h0]; decide)
          have hL0d_110 : yAg S [45, 46, 47] d d_110 := by rw [ed_110]; exact yAg.cs hLJd_5 (by rw [hky_28]; decide)
          have hK0d_110 : yK [] d d_110 h0 := yK.ag hKJd_5 (show yAg S [45] d_5 d_110 from by rw [ed_110]; exact yAg.cs yAg.rf (by rw [hky_28]; decide)) (by rw [hk_h0]; decide)
          have hId_110 : yMI S d_110 h0 := yMI.ag hId_5 hSh hm_h0 hk_h0 (show yAg S [45] d_5 d_110 from by rw [ed_110]; exact yAg.cs yAg.rf (by rw [hky_28]; decide)) (yK.ag (F := []) yK.rf (show yAg S [45] d_5 d_110 from by rw [ed_110]; exact yAg.cs yAg.rf (by rw [hky_28]; decide)) (by rw [hk_h0]; decide)) (by decide) (by decide)
          have hE0d_110 : (d_110.1 h0 0).toInt = (d_5.1 h0 0).toInt := congrArg Int32.toInt ((yK.ag (F := []) yK.rf (show yAg S [45] d_5 d_110 from by rw [ed_110]; exact yAg.cs yAg.rf (by rw [hky_28]; decide)) (by rw [hk_h0]; decide)) 0 (by decide))
          have hE1d_110 : (d_110.1 h0 1).toInt = (d_5.1 h0 1).toInt := congrArg Int32.toInt ((yK.ag (F := []) yK.rf (show yAg S [45] d_5 d_110 from by rw [ed_110]; exact yAg.cs yAg.rf (by rw [hky_28]; decide)) (by rw [hk_h0]; decide)) 1 (by decide))
          have hE2d_110 : (d_110.1 h0 2).toInt = (d_5.1 h0 2).toInt := congrArg Int32.toInt ((yK.ag (F := []) yK.rf (show yAg S [45] d_5 d_110 from by rw [ed_110]; exact yAg.cs yAg.rf (by rw [hky_28]; decide)) (by rw [hk_h0]; decide)) 2 (by decide))
          have hE3d_110 : (d_110.1 h0 3).toInt = (d_5.1 h0 3).toInt := congrArg Int32.toInt ((yK.ag (F := []) yK.rf (show yAg S [45] d_5 d_110 from by rw [ed_110]; exact yAg.cs yAg.rf (by rw [hky_28]; decide)) (by rw [hk_h0]; decide)) 3 (by decide))
          have hE63d_110 : (d_110.1 h0 63).toInt = (d_5.1 h0 63).toInt := congrArg Int32.toInt ((yK.ag (F := []) yK.rf (show yAg S [45] d_5 d_110 from by rw [ed_110]; exact yAg.cs yAg.rf (by rw [hky_28]; decide)) (by rw [hk_h0]; decide)) 63 (by decide))
          refine lv_aload_n hx hb dX9_insert_66 rfl (lv_at hl 1 rfl) ?_
          refine yget (ci := 9) (k := 16) (v := .ref (S.2.2.1 h0 16)) (C := RX9) (T := TX9) (N := 67) C0 hK hP hm_h0 hk_h0 (by decide) rfl inlX9 (by decide) mW123 (fun _ h9 => h9) rfl dX9_insert_67 ?_
          refine lv_iload hx hb dX9_insert_70 (lv_at hl 0 rfl) ?_
          refine lv_aload_n hx hb dX9_insert_72 rfl (lv_at hl 1 rfl) ?_
          refine yget (ci := 9) (k := 16) (v := .ref (S.2.2.1 h0 16)) (C := RX9) (T := TX9) (N := 67) C0 hK hP hm_h0 hk_h0 (by decide) rfl inlX9 (by decide) mW123 (fun _ h9 => h9) rfl dX9_insert_73 ?_
          refine lv_iload hx hb dX9_insert_76 (lv_at hl 0 rfl) ?_
          refine lv_iconst (v := 1) hx hb dX9_insert_78 (by decide) ?_
          refine lv_isub hx hb dX9_insert_79 ?_
          refine lv_topi (fun z_111 ez_111 => ?_)
          have hCC_112 := yMI.c hId_110
          have T_113 : (z_111 : Int32).toInt = (v_4 : Int32).toInt - 1 := tsub ez_111 (rfl : (v_4 : Int32).toInt = (v_4 : Int32).toInt) (by decide +kernel : (1 : Int32).toInt = 1) (by omega) (by omega)
          refine yald C0 hK hP hmy_81 hky_81 (by decide) rfl 0 rfl (xinT 5000 rfl (by omega) (by omega)) dX9_insert_80 ?_
          refine lv_topi (fun z_114 ez_114 => ?_)
          have hvz_114 : 0 ≤ (z_114 : Int32).toInt ∧ (z_114 : Int32).toInt ≤ 129599 := by rw [ez_114]; exact yMI.em_ hId_110 _
          refine yast C0 hK hP hD hS hmy_81 hky_81 (by decide) rfl 0 rfl (xinT 5000 rfl (by omega) (by omega)) dX9_insert_81 (fun H locs hP hD hS => ?_)
          obtain ⟨d_115, ed_115⟩ : ∃ z : yD, z = ycs d_110 (S.2.2.1 h0 16) (upd (d_110.2.2.2.1 (S.2.2.1 h0 16)) (v_4 : Int32).toNatClampNeg z_114) := ⟨_, rfl⟩
          rw [← ed_115] at hP hD
          have hgd_115 : yAg S [9, 45, 46, 47] d d_115 := by rw [ed_115]; exact yAg.cs hgd_110 (by rw [hky_81]; decide)
          have hPod_115 : yPo S d_115 := by rw [ed_115]; exact hPod_110
          have hfd_115 : yK [1] d d_115 h0 := yK.ag hfd_110 (show yAg S [46] d_110 d_115 from by rw [ed_115]; exact yAg.cs yAg.rf (by rw [hky_81]; decide)) (by rw [hk_h0]; decide)
          have hL0d_115 : yAg S [45, 46, 47] d d_115 := by rw [ed_115]; exact yAg.cs hL0d_110 (by rw [hky_81]; decide)
          have hK0d_115 : yK [] d d_115 h0 := yK.ag hK0d_110 (show yAg S [46] d_110 d_115 from by rw [ed_115]; exact yAg.cs yAg.rf (by rw [hky_81]; decide)) (by rw [hk_h0]; decide)
          have hId_115 : yMI S d_115 h0 := by rw [ed_115]; exact yMI.w16 hId_110 hSh hm_h0 hk_h0 (yBr.up (yMI.em_ hId_110) ⟨by omega, by omega⟩)
          have hE0d_115 : (d_115.1 h0 0).toInt = (d_110.1 h0 0).toInt := congrArg Int32.toInt ((yK.ag (F := []) yK.rf (show yAg S [46] d_110 d_115 from by rw [ed_115]; exact yAg.cs yAg.rf (by rw [hky_81]; decide)) (by rw [hk_h0]; decide)) 0 (by decide))
          have hE1d_115 : (d_115.1 h0 1).toInt = (d_110.1 h0 1).toInt := congrArg Int32.toInt ((yK.ag (F := []) yK.rf (show yAg S [46] d_110 d_115 from by rw [ed_115]; exact yAg.cs yAg.rf (by rw [hky_81]; decide)) (by rw [hk_h0]; decide)) 1 (by decide))
          have hE2d_115 : (d_115.1 h0 2).toInt = (d_110.1 h0 2).toInt := congrArg Int32.toInt ((yK.ag (F := []) yK.rf (show yAg S [46] d_110 d_115 from by rw [ed_115]; exact yAg.cs yAg.rf (by rw [hky_81]; decide)) (by rw [hk_h0]; decide)) 2 (by decide))
          have hE3d_115 : (d_115.1 h0 3).toInt = (d_110.1 h0 3).toInt := congrArg Int32.toInt ((yK.ag (F := []) yK.rf (show yAg S [46] d_110 d_115 from by rw [ed_115]; exact yAg.cs yAg.rf (by rw [hky_81]; decide)) (by rw [hk_h0]; decide)) 3 (by decide))
          have hE63d_115 : (d_115.1 h0 63).toInt = (d_110.1 h0 63).toInt := congrArg Int32.toInt ((yK.ag (F := []) yK.rf (show yAg S [46] d_110 d_115 from by rw [ed_115]; exact yAg.cs yAg.rf (by rw [hky_81]; decide)) (by rw [hk_h0]; decide)) 63 (by decide))
          refine lv_aload_n hx hb dX9_insert_82 rfl (lv_at hl 1 rfl) ?_
          refine yget (ci := 9) (k := 17) (v := .ref (S.2.2.1 h0 17)) (C := RX9) (T := TX9) (N := 67) C0 hK hP hm_h0 hk_h0 (by decide) rfl inlX9 (by decide) mW124 (fun _ h9 => h9) rfl dX9_insert_83 ?_
          obtain ⟨hmy_117, hky_117⟩ := ySh.f9_17 hSh _ hm_h0 hk_h0
          refine lv_iload hx hb dX9_insert_86 (lv_at hl 0 rfl) ?_
          refine lv_aload_n hx hb dX9_insert_88 rfl (lv_at hl 1 rfl) ?_
          refine yget (ci := 9) (k := 17) (v := .ref (S.2.2.1 h0 17)) (C := RX9) (T := TX9) (N := 67) C0 hK hP hm_h0 hk_h0 (by decide) rfl inlX9 (by decide) mW124 (fun _ h9 => h9) rfl dX9_insert_89 ?_
          refine lv_iload hx hb dX9_insert_92 (lv_at hl 0 rfl) ?_
          refine lv_iconst (v := 1) hx hb dX9_insert_94 (by decide) ?_
          refine lv_isub hx hb dX9_insert_95 ?_
          refine lv_topi (fun z_118 ez_118 => ?_)
          have hCC_119 := yMI.c hId_115
          have T_120 : (z_118 : Int32).toInt = (v_4 : Int32).toInt - 1 := tsub ez_118 (rfl : (v_4 : Int32).toInt = (v_4 : Int32).toInt) (by decide +kernel : (1 : Int32).toInt = 1) (by omega) (by omega)
          refine yaldB C0 hK hP hmy_117 hky_117 (by decide) rfl 1 rfl (xinT 5000 rfl (by omega) (by omega)) dX9_insert_96 ?_
          refine lv_topi (fun z_121 ez_121 => ?_)
          refine yastB C0 hK hP hD hS hmy_117 hky_117 (by decide) rfl 1 rfl (xinT 5000 rfl (by omega) (by omega)) dX9_insert_97 (fun H locs hP hD hS => ?_)
          obtain ⟨d_122, ed_122⟩ : ∃ z : yD, z = ycs d_115 (S.2.2.1 h0 17) (upd (d_115.2.2.2.1 (S.2.2.1 h0 17)) (v_4 : Int32).toNatClampNeg (vp_nar .byte z_121)) := ⟨_, rfl⟩
          rw [← ed_122] at hP hD
          have hgd_122 : yAg S [9, 45, 46, 47] d d_122 := by rw [ed_122]; exact yAg.cs hgd_115 (by rw [hky_117]; decide)
          have hPod_122 : yPo S d_122 := by rw [ed_122]; exact hPod_115
          have hfd_122 : yK [1] d d_122 h0 := yK.ag hfd_115 (show yAg S [47] d_115 d_122 from by rw [ed_122]; exact yAg.cs yAg.rf (by rw [hky_117]; decide)) (by rw [hk_h0]; decide)
          have hL0d_122 : yAg S [45, 46, 47] d d_122 := by rw [ed_122]; exact yAg.cs hL0d_115 (by rw [hky_117]; decide)
          have hK0d_122 : yK [] d d_122 h0 := yK.ag hK0d_115 (show yAg S [47] d_115 d_122 from by rw [ed_122]; exact yAg.cs yAg.rf (by rw [hky_117]; decide)) (by rw [hk_h0]; decide)
          have hId_122 : yMI S d_122 h0 := yMI.ag hId_115 hSh hm_h0 hk_h0 (show yAg S [47] d_115 d_122 from by rw [ed_122]; exact yAg.cs yAg.rf (by rw [hky_117]; decide)) (yK.ag (F := []) yK.rf (show yAg S [47] d_115 d_122 from by rw [ed_122]; exact yAg.cs yAg.rf (by rw [hky_117]; decide)) (by rw [hk_h0]; decide)) (by decide) (by decide)
          have hE0d_122 : (d_122.1 h0 0).toInt = (d_115.1 h0 0).toInt := congrArg Int32.toInt ((yK.ag (F := []) yK.rf (show yAg S [47] d_115 d_122 from by rw [ed_122]; exact yAg.cs yAg.rf (by rw [hky_117]; decide)) (by rw [hk_h0]; decide)) 0 (by decide))
          have hE1d_122 : (d_122.1 h0 1).toInt = (d_115.1 h0 1).toInt := congrArg Int32.toInt ((yK.ag (F := []) yK.rf (show yAg S [47] d_115 d_122 from by rw [ed_122]; exact yAg.cs yAg.rf (by rw [hky_117]; decide)) (by rw [hk_h0]; decide)) 1 (by decide))
          have hE2d_122 : (d_122.1 h0 2).toInt = (d_115.1 h0 2).toInt := congrArg Int32.toInt ((yK.ag (F := []) yK.rf (show yAg S [47] d_115 d_122 from by rw [ed_122]; exact yAg.cs yAg.rf (by rw [hky_117]; decide)) (by rw [hk_h0]; decide)) 2 (by decide))
          have hE3d_122 : (d_122.1 h0 3).toInt = (d_115.1 h0 3).toInt := congrArg Int32.toInt ((yK.ag (F := []) yK.rf (show yAg S [47] d_115 d_122 from by rw [ed_122]; exact yAg.cs yAg.rf (by rw [hky_117]; decide)) (by rw [hk_h0]; decide)) 3 (by decide))
          have hE63d_122 : (d_122.1 h0 63).toInt = (d_115.1 h0 63).toInt := congrArg Int32.toInt ((yK.ag (F := []) yK.rf (show yAg S [47] d_115 d_122 from by rw [ed_122]; exact yAg.cs yAg.rf (by rw [hky_117]; decide)) (by rw [hk_h0]; decide)) 63 (by decide))
          refine lv_iinc (v := v_4 + (-1)) (lv' := [(4, .int (v_4 + (-1))), (0, .ref h0), (1, .int p0), (2, .int p1), (3, .int p2)]) hx hb dX9_insert_98 hl (k := 0) rfl rfl (by decide) rfl (fun ls hl => ?_)
          refine lv_goto (tgt := 6) hx hb dX9_insert_101 (by decide) ?_
          have hCC_124 := yMI.c hId_122
          have T_125 : ((v_4 + (-1)) : Int32).toInt = (v_4 : Int32).toInt + (-1) := tadd rfl (rfl : (v_4 : Int32).toInt = (v_4 : Int32).toInt) (by decide +kernel : ((-1) : Int32).toInt = (-1)) (by omega) (by omega)
          exact hnext_6 (v_4 + (-1), d_122) _ _ ls (xdnl c_8) ⟨hP, hD, hS, hgd_122, hPod_122, hfd_122, hId_122, hL0d_122, hK0d_122, (show (0 ≤ (((v_4 + (-1))) : Int32).toInt ∧ (((v_4 + (-1))) : Int32).toInt ≤ 4999 ∧ (d_122.1 h0 1).toInt = (d.1 h0 1).toInt) from by have hq0_ : (0 : Int32).toInt = 0 := (by decide +kernel); omega), lv_sub hl [0, 1, 2, 3, 4] rfl⟩
theorem dX9_close_0 : decode cX9_close 0 = .ok (.aload_n 0, 1) := by decide +kernel
theorem dX9_close_1 : decode cX9_close 1 = .ok (.iconst 0, 1) := by decide +kernel
theorem dX9_close_2 : decode cX9_close 2 = .ok (.putfield 147, 3) := by decide +kernel
theorem dX9_close_5 : decode cX9_close 5 = .ok (.aload_n 0, 1) := by decide +kernel
theorem dX9_close_6 : decode cX9_close 6 = .ok (.iload_n 1, 1) := by decide +kernel
theorem dX9_close_7 : decode cX9_close 7 = .ok (.invokevirtual 165, 3) := by decide +kernel
theorem dX9_close_10 : decode cX9_close 10 = .ok (.istore_n 2, 1) := by decide +kernel
theorem dX9_close_11 : decode cX9_close 11 = .ok (.iload_n 2, 1) := by decide +kernel
theorem dX9_close_12 : decode cX9_close 12 = .ok (.ifCond .eq 11, 3) := by decide +kernel
theorem dX9_close_15 : decode cX9_close 15 = .ok (.aload_n 0, 1) := by decide +kernel
theorem dX9_close_16 : decode cX9_close 16 = .ok (.iload_n 2, 1) := by decide +kernel
theorem dX9_close_17 : decode cX9_close 17 = .ok (.invokevirtual 168, 3) := by decide +kernel
theorem dX9_close_20 : decode cX9_close 20 = .ok (.pop, 1) := by decide +kernel
theorem dX9_close_21 : decode cX9_close 21 = .ok (.iconst 0, 1) := by decide +kernel
theorem dX9_close_22 : decode cX9_close 22 = .ok (.ireturn, 1) := by decide +kernel
theorem dX9_close_23 : decode cX9_close 23 = .ok (.aload_n 0, 1) := by decide +kernel
theorem dX9_close_24 : decode cX9_close 24 = .ok (.iload_n 1, 1) := by decide +kernel
theorem dX9_close_25 : decode cX9_close 25 = .ok (.iconst 0, 1) := by decide +kernel
theorem dX9_close_26 : decode cX9_close 26 = .ok (.ldc 174, 2) := by decide +kernel
theorem dX9_close_28 : decode cX9_close 28 = .ok (.invokevirtual 183, 3) := by decide +kernel
theorem dX9_close_31 : decode cX9_close 31 = .ok (.pop, 1) := by decide +kernel
theorem dX9_close_32 : decode cX9_close 32 = .ok (.aload_n 0, 1) := by decide +kernel
theorem dX9_close_33 : decode cX9_close 33 = .ok (.getfield 36, 3) := by decide +kernel
theorem dX9_close_36 : decode cX9_close 36 = .ok (.bipush 12, 2) := by decide +kernel
theorem dX9_close_38 : decode cX9_close 38 = .ok (.iload_n 1, 1) := by decide +kernel
theorem dX9_close_39 : decode cX9_close 39 = .ok (.imul, 1) := by decide +kernel
theorem dX9_close_40 : decode cX9_close 40 = .ok (.lconst 0, 1) := by decide +kernel
theorem dX9_close_41 : decode cX9_close 41 = .ok (.lastore, 1) := by decide +kernel
theorem dX9_close_42 : decode cX9_close 42 = .ok (.aload_n 0, 1) := by decide +kernel
theorem dX9_close_43 : decode cX9_close 43 = .ok (.iload_n 1, 1) := by decide +kernel
theorem dX9_close_44 : decode cX9_close 44 = .ok (.invokevirtual 189, 3) := by decide +kernel
theorem dX9_close_47 : decode cX9_close 47 = .ok (.iconst 1, 1) := by decide +kernel
theorem dX9_close_48 : decode cX9_close 48 = .ok (.ireturn, 1) := by decide +kernel
set_option maxHeartbeats 4000000 in
set_option maxRecDepth 100000 in
theorem g_X9_close (l : Launch) (G : xG) (S : yS) (d : yD) (h0 : Nat) (p0 : Int32) (hSh : ySh S) (hPo : yPo S d) (hm_h0 : h0 ∈ S.1) (hk_h0 : S.2.1 h0 = 9) (hI : yMI S d h0) : xWi l G yX9_close cX9_close 3 (some .boolean) 2 42 0 0 [.ref h0, .int p0] (yW G S d) (fun r (u : yD) => yAg S [9, 41, 45, 46, 47, 69] d u ∧ (yPo S d → yPo S u) ∧ yK [1, 38] d u h0 ∧ (yMI S u h0)) (fun u => yW G S u) := by
  intro sz
  refine xstart (by decide) (Nat.le_of_ble_eq_true rfl) (fun p e s m args below meth c ls C0 hr hlocks hin hsz hP hK hD hN hl => ?_)
  obtain ⟨hx, hb, hml, hown, htl⟩ := id C0
  subst hsz
  have hD := hD.self (sz := s.heap.size)
  generalize hAe : va_A (yW G S d) s.heap.size = A at hD ⊢
  have hA : ∀ q : Nat, s.heap.size ≤ q → A q := fun q h => by rw [← hAe]; exact Or.inr h
  have hS : va_S A s.heap s.heap [] := va_S.rf
  have hg0 : yAg S [9, 41, 45, 46, 47, 69] d d := yAg.rf
  have hl : lv_has ls 3 [(0, .ref h0), (1, .int p0)] := hl
  refine lv_aload_n hx hb dX9_close_0 rfl (lv_at hl 0 rfl) ?_
  refine lv_iconst (v := 0) hx hb dX9_close_1 (by decide) ?_
  refine yputI (ci := 9) (k := 38) (ty := .int) (C := RX9) (T := TX9) (N := 67) C0 hK hP hD hS hm_h0 hk_h0 (by decide) rfl inlX9 tyX9 tyX9_ok nmX9 (by decide) mW175 (fun _ h9 => h9) rfl (by decide +kernel) rfl rfl (Nat.le_of_ble_eq_true rfl) ysi_9_38 dX9_close_2 (fun H locs hP hD hS => ?_)
  obtain ⟨d_1, ed_1⟩ : ∃ z : yD, z = yi d h0 38 0 := ⟨_, rfl⟩
  rw [← ed_1] at hP hD
  have hgd_1 : yAg S [9, 41, 45, 46, 47, 69] d d_1 := by rw [ed_1]; exact yAg.i hg0 (by rw [hk_h0]; decide)
  have hPod_1 : yPo S d_1 := by rw [ed_1]; exact yPo.i hPo hk_h0 (Or.inl rfl)
  have hfd_1 : yK [1, 38] d d_1 h0 := by rw [ed_1]; exact yK.i yK.rf (by decide)
  have hId_1 : yMI S d_1 h0 := yMI.ag hI hSh hm_h0 hk_h0 (show yAg S [9] d d_1 from by rw [ed_1]; exact yAg.i yAg.rf (by rw [hk_h0]; decide)) (show yK [38] d d_1 h0 from by rw [ed_1]; exact yK.i yK.rf (by decide)) (by decide) (by decide)
  have hE0d_1 : (d_1.1 h0 0).toInt = (d.1 h0 0).toInt := congrArg Int32.toInt ((show yK [38] d d_1 h0 from by rw [ed_1]; exact yK.i yK.rf (by decide)) 0 (by decide))
  have hE1d_1 : (d_1.1 h0 1).toInt = (d.1 h0 1).toInt := congrArg Int32.toInt ((show yK [38] d d_1 h0 from by rw [ed_1]; exact yK.i yK.rf (by decide)) 1 (by decide))
  have hE2d_1 : (d_1.1 h0 2).toInt = (d.1 h0 2).toInt := congrArg Int32.toInt ((show yK [38] d d_1 h0 from by rw [ed_1]; exact yK.i yK.rf (by decide)) 2 (by decide))
  have hE3d_1 : (d_1.1 h0 3).toInt = (d.1 h0 3).toInt := congrArg Int32.toInt ((show yK [38] d d_1 h0 from by rw [ed_1]; exact yK.i yK.rf (by decide)) 3 (by decide))
  have hE63d_1 : (d_1.1 h0 63).toInt = (d.1 h0 63).toInt := congrArg Int32.toInt ((show yK [38] d d_1 h0 from by rw [ed_1]; exact yK.i yK.rf (by decide)) 63 (by decide))
  refine lv_aload_n hx hb dX9_close_5 rfl (lv_at hl 0 rfl) ?_
  refine lv_iload_n hx hb dX9_close_6 rfl (lv_at hl 1 rfl) ?_
  refine yVri (As := [.int p0]) (rest := []) C0 (g_X9_portWhy l G S d_1 h0 p0 hSh hm_h0 hk_h0) ok_X9_portWhy (mW387 : Cond.methodLink RX9 165 yX9_portWhy ∈ wsT) ⟨Nat.le_of_ble_eq_true rfl, Nat.le_of_ble_eq_true rfl⟩ hP hD hK hN hm_h0 hk_h0 (by decide) rfl rfl rfl hl.1 rfl (Nat.le_of_ble_eq_true rfl) ⟨Nat.le_of_ble_eq_true rfl, Nat.le_of_ble_eq_true rfl⟩ dX9_close_7 (fun r_2 hr_2 => ?_)
  refine lv_istore_n (lv' := [(2, .int r_2), (0, .ref h0), (1, .int p0)]) hx hb dX9_close_10 rfl hl (by decide) rfl (fun ls hl => ?_)
  refine lv_iload_n hx hb dX9_close_11 rfl (lv_at hl 0 rfl) ?_
  refine lv_if_eq (tgt := 23) hx hb dX9_close_12 (by decide) (fun c_3 => ?_) (fun c_3 => ?_)
  · refine lv_aload_n hx hb dX9_close_23 rfl (lv_at hl 1 rfl) ?_
    refine lv_iload_n hx hb dX9_close_24 rfl (lv_at hl 2 rfl) ?_
    refine lv_iconst (v := 0) hx hb dX9_close_25 (by decide) ?_
    refine lv_ldc (v := 129600) hx hb hown (htl (.constant RX9 174 (129600)) mW221) dX9_close_26 ?_
    refine yVwi (As := [.int p0, .int 0, .int 129600]) (rest := []) C0 (g_X9_clear l G S d_1 h0 p0 0 129600 hSh hPod_1 hm_h0 hk_h0 hId_1) ok_X9_clear (mW360 : Cond.methodLink RX9 183 yX9_clear ∈ wsT) ⟨Nat.le_of_ble_eq_true rfl, Nat.le_of_ble_eq_true rfl⟩ hP hD hS hA hK hN hm_h0 hk_h0 (by decide) rfl rfl rfl hl.1 rfl (Nat.le_of_ble_eq_true rfl) ⟨Nat.le_of_ble_eq_true rfl, Nat.le_of_ble_eq_true rfl⟩ dX9_close_28 (fun r_4 d_5 H locs hr_4 hP hD hS => ?_)
    obtain ⟨hgad_5, hpad_5, hfad_5, hxd_5⟩ := hr_4
    have hfd_5 : yK [1, 38] d d_5 h0 := yK.tr hfd_1 hfad_5 (by decide)
    have hE0d_5 : (d_5.1 h0 0).toInt = (d_1.1 h0 0).toInt := congrArg Int32.toInt (hfad_5 0 (by decide))
    have hE2d_5 : (d_5.1 h0 2).toInt = (d_1.1 h0 2).toInt := congrArg Int32.toInt (hfad_5 2 (by decide))
    have hE3d_5 : (d_5.1 h0 3).toInt = (d_1.1 h0 3).toInt := congrArg Int32.toInt (hfad_5 3 (by decide))
    have hE63d_5 : (d_5.1 h0 63).toInt = (d_1.1 h0 63).toInt := congrArg Int32.toInt (hfad_5 63 (by decide))
    have hId_5 : yMI S d_5 h0 := hxd_5.1
    have hgd_5 : yAg S [9, 41, 45, 46, 47, 69] d d_5 := yAg.tr hgd_1 hgad_5 (by first | decide | exact fun _ h => h)
    have hPod_5 : yPo S d_5 := hpad_5 hPod_1
    refine lv_pop hx hb dX9_close_31 rfl ?_
    refine lv_aload_n hx hb dX9_close_32 rfl (lv_at hl 1 rfl) ?_
    refine yget (ci := 9) (k := 11) (v := .ref (S.2.2.1 h0 11)) (C := RX9) (T := TX9) (N := 67) C0 hK hP hm_h0 hk_h0 (by decide) rfl inlX9 (by decide) mW116 (fun _ h9 => h9) rfl dX9_close_33 ?_
    obtain ⟨hmy_6, hky_6⟩ := ySh.f9_11 hSh _ hm_h0 hk_h0
    refine lv_bipush (v := 12) hx hb dX9_close_36 (by decide) ?_
    refine lv_iload_n hx hb dX9_close_38 rfl (lv_at hl 2 rfl) ?_
    refine lv_imul hx hb dX9_close_39 ?_
    refine lv_topi (fun z_7 ez_7 => ?_)
    refine lv_lconst (v := 0) hx hb dX9_close_40 (by decide) ?_
    have hCC_8 := yMI.c hId_5
    have F_9 := feq (rfl : (r_2 : Int32).toInt = (r_2 : Int32).toInt) (by decide +kernel : (0 : Int32).toInt = 0) c_3
    have T_10 : (z_7 : Int32).toInt = 12 * (p0 : Int32).toInt := tmul ez_7 (by decide +kernel : (12 : Int32).toInt = 12) (rfl : (p0 : Int32).toInt = (p0 : Int32).toInt) (by omega) (by omega)
    refine yastJ C0 hK hP hD hS hmy_6 hky_6 (by decide) rfl 4 rfl (xinT 96 rfl (by omega) (by omega)) dX9_close_41 (fun H locs hP hD hS => ?_)
    obtain ⟨d_11, ed_11⟩ : ∃ z : yD, z = ye d_5 (S.2.2.1 h0 11) (z_7 : Int32).toNatClampNeg 0 := ⟨_, rfl⟩
    rw [← ed_11] at hP hD
    have hgd_11 : yAg S [9, 41, 45, 46, 47, 69] d d_11 := by rw [ed_11]; exact yAg.e hgd_5 (by rw [hky_6]; decide)
    have hPod_11 : yPo S d_11 := by rw [ed_11]; exact hPod_5
    have hfd_11 : yK [1, 38] d d_11 h0 := yK.ag hfd_5 (show yAg S [41] d_5 d_11 from by rw [ed_11]; exact yAg.e yAg.rf (by rw [hky_6]; decide)) (by rw [hk_h0]; decide)
    have T_12 : (0 : Int64).toInt = 0 := by decide +kernel
    have hId_11 : yMI S d_11 h0 := by rw [ed_11]; exact yMI.w11 hId_5 hSh hm_h0 hk_h0 (yBp.up (yMI.bp_ hId_5) (fun p hp e => by have e_ : (z_7 : Int32).toInt.toNat = 12 * p + 1 := e; refine ⟨?_, ?_⟩ <;> omega) (fun p hp e => by have e_ : (z_7 : Int32).toInt.toNat = 12 * p + 2 := e; refine ⟨?_, ?_⟩ <;> omega) (fun p hp e => by have e_ : (z_7 : Int32).toInt.toNat = 12 * p + 6 := e; refine ⟨?_, ?_⟩ <;> omega))
    have hE0d_11 : (d_11.1 h0 0).toInt = (d_5.1 h0 0).toInt := congrArg Int32.toInt ((yK.ag (F := []) yK.rf (show yAg S [41] d_5 d_11 from by rw [ed_11]; exact yAg.e yAg.rf (by rw [hky_6]; decide)) (by rw [hk_h0]; decide)) 0 (by decide))
    have hE1d_11 : (d_11.1 h0 1).toInt = (d_5.1 h0 1).toInt := congrArg Int32.toInt ((yK.ag (F := []) yK.rf (show yAg S [41] d_5 d_11 from by rw [ed_11]; exact yAg.e yAg.rf (by rw [hky_6]; decide)) (by rw [hk_h0]; decide)) 1 (by decide))
    have hE2d_11 : (d_11.1 h0 2).toInt = (d_5.1 h0 2).toInt := congrArg Int32.toInt ((yK.ag (F := []) yK.rf (show yAg S [41] d_5 d_11 from by rw [ed_11]; exact yAg.e yAg.rf (by rw [hky_6]; decide)) (by rw [hk_h0]; decide)) 2 (by decide))
    have hE3d_11 : (d_11.1 h0 3).toInt = (d_5.1 h0 3).toInt := congrArg Int32.toInt ((yK.ag (F := []) yK.rf (show yAg S [41] d_5 d_11 from by rw [ed_11]; exact yAg.e yAg.rf (by rw [hky_6]; decide)) (by rw [hk_h0]; decide)) 3 (by decide))
    have hE63d_11 : (d_11.1 h0 63).toInt = (d_5.1 h0 63).toInt := congrArg Int32.toInt ((yK.ag (F := []) yK.rf (show yAg S [41] d_5 d_11 from by rw [ed_11]; exact yAg.e yAg.rf (by rw [hky_6]; decide)) (by rw [hk_h0]; decide)) 63 (by decide))
    refine lv_aload_n hx hb dX9_close_42 rfl (lv_at hl 1 rfl) ?_
    refine lv_iload_n hx hb dX9_close_43 rfl (lv_at hl 2 rfl) ?_
    refine yVwv (As := [.int p0]) (rest := []) C0 (g_X9_part l G S d_11 h0 p0 hSh hPod_11 hm_h0 hk_h0 hId_11 (by refine ⟨?_, ?_⟩ <;> omega)) ok_X9_part (mW365 : Cond.methodLink RX9 189 yX9_part ∈ wsT) ⟨Nat.le_of_ble_eq_true rfl, Nat.le_of_ble_eq_true rfl⟩ hP hD hS hA hK hN hm_h0 hk_h0 (by decide) rfl rfl rfl hl.1 rfl (Nat.le_of_ble_eq_true rfl) ⟨Nat.le_of_ble_eq_true rfl, Nat.le_of_ble_eq_true rfl⟩ dX9_close_44 (fun d_14 H locs hr_13 hP hD hS => ?_)
    obtain ⟨hgad_14, hpad_14, hfad_14, hxd_14⟩ := hr_13
    have hfd_14 : yK [1, 38] d d_14 h0 := yK.tr hfd_11 hfad_14 (by decide)
    have hE0d_14 : (d_14.1 h0 0).toInt = (d_11.1 h0 0).toInt := congrArg Int32.toInt (hfad_14 0 (by decide))
    have hE1d_14 : (d_14.1 h0 1).toInt = (d_11.1 h0 1).toInt := congrArg Int32.toInt (hfad_14 1 (by decide))
    have hE2d_14 : (d_14.1 h0 2).toInt = (d_11.1 h0 2).toInt := congrArg Int32.toInt (hfad_14 2 (by decide))
    have hE3d_14 : (d_14.1 h0 3).toInt = (d_11.1 h0 3).toInt := congrArg Int32.toInt (hfad_14 3 (by decide))
    have hE63d_14 : (d_14.1 h0 63).toInt = (d_11.1 h0 63).toInt := congrArg Int32.toInt (hfad_14 63 (by decide))
    have hId_14 : yMI S d_14 h0 := hxd_14
    have hgd_14 : yAg S [9, 41, 45, 46, 47, 69] d d_14 := yAg.tr hgd_11 hgad_14 (by first | decide | exact fun _ h => h)
    have hPod_14 : yPo S d_14 := hpad_14 hPod_11
    refine lv_iconst (v := 1) hx hb dX9_close_47 (by decide) ?_
    exact W.zret (v := 1) (ty := .boolean) hx hb hr rfl (fun t ht hW => ⟨⟨1, d_14, rfl, ⟨hgd_14, (fun _ => hPod_14), hfd_14, hId_14⟩, by rw [ht]; exact hP, hD⟩, hS.F ht⟩) hS.2.2 dX9_close_48
  · refine lv_aload_n hx hb dX9_close_15 rfl (lv_at hl 1 rfl) ?_
    refine lv_iload_n hx hb dX9_close_16 rfl (lv_at hl 0 rfl) ?_
    have F_15 := fne (rfl : (r_2 : Int32).toInt = (r_2 : Int32).toInt) (by decide +kernel : (0 : Int32).toInt = 0) c_3
    refine yVwi (As := [.int r_2]) (rest := []) C0 (g_X9_no l G S d_1 h0 r_2 hSh hPod_1 hm_h0 hk_h0 (by refine ⟨?_, ?_⟩ <;> omega)) ok_X9_no (mW177 : Cond.methodLink RX9 168 yX9_no ∈ wsT) ⟨Nat.le_of_ble_eq_true rfl, Nat.le_of_ble_eq_true rfl⟩ hP hD hS hA hK hN hm_h0 hk_h0 (by decide) rfl rfl rfl hl.1 rfl (Nat.le_of_ble_eq_true rfl) ⟨Nat.le_of_ble_eq_true rfl, Nat.le_of_ble_eq_true rfl⟩ dX9_close_17 (fun r_16 d_17 H locs hr_16 hP hD hS => ?_)
    obtain ⟨hgad_17, hpad_17, hfad_17, hxd_17⟩ := hr_16
    have hfd_17 : yK [1, 38] d d_17 h0 := yK.tr hfd_1 hfad_17 (by decide)
    have hE0d_17 : (d_17.1 h0 0).toInt = (d_1.1 h0 0).toInt := congrArg Int32.toInt (hfad_17 0 (by decide))
    have hE1d_17 : (d_17.1 h0 1).toInt = (d_1.1 h0 1).toInt := congrArg Int32.toInt (hfad_17 1 (by decide))
    have hE2d_17 : (d_17.1 h0 2).toInt = (d_1.1 h0 2).toInt := congrArg Int32.toInt (hfad_17 2 (by decide))
    have hE3d_17 : (d_17.1 h0 3).toInt = (d_1.1 h0 3).toInt := congrArg Int32.toInt (hfad_17 3 (by decide))
    have hE63d_17 : (d_17.1 h0 63).toInt = (d_1.1 h0 63).toInt := congrArg Int32.toInt (hfad_17 63 (by decide))
    have hId_17 : yMI S d_17 h0 := yMI.ag hId_1 hSh hm_h0 hk_h0 hgad_17 hfad_17 (by decide) (by decide)
    have hgd_17 : yAg S [9, 41, 45, 46, 47, 69] d d_17 := yAg.tr hgd_1 hgad_17 (by first | decide | exact fun _ h => h)
    have hPod_17 : yPo S d_17 := hpad_17 hPod_1
    refine lv_pop hx hb dX9_close_20 rfl ?_
    refine lv_iconst (v := 0) hx hb dX9_close_21 (by decide) ?_
    exact W.zret (v := 0) (ty := .boolean) hx hb hr rfl (fun t ht hW => ⟨⟨0, d_17, rfl, ⟨hgd_17, (fun _ => hPod_17), hfd_17, hId_17⟩, by rw [ht]; exact hP, hD⟩, hS.F ht⟩) hS.2.2 dX9_close_22
theorem dX9_event_0 : decode cX9_event 0 = .ok (.aload_n 0, 1) := by decide +kernel
theorem dX9_event_1 : decode cX9_event 1 = .ok (.iconst 0, 1) := by decide +kernel
theorem dX9_event_2 : decode cX9_event 2 = .ok (.putfield 147, 3) := by decide +kernel
theorem dX9_event_5 : decode cX9_event 5 = .ok (.iload_n 3, 1) := by decide +kernel
theorem dX9_event_6 : decode cX9_event 6 = .ok (.ifCond .lt 9, 3) := by decide +kernel
theorem dX9_event_9 : decode cX9_event 9 = .ok (.iload_n 3, 1) := by decide +kernel
theorem dX9_event_10 : decode cX9_event 10 = .ok (.bipush 7, 2) := by decide +kernel
theorem dX9_event_12 : decode cX9_event 12 = .ok (.if_icmp .le 7, 3) := by decide +kernel
theorem dX9_event_15 : decode cX9_event 15 = .ok (.iconst 1, 1) := by decide +kernel
theorem dX9_event_16 : decode cX9_event 16 = .ok (.goto 9, 3) := by decide +kernel
theorem dX9_event_19 : decode cX9_event 19 = .ok (.aload_n 0, 1) := by decide +kernel
theorem dX9_event_20 : decode cX9_event 20 = .ok (.iload_n 1, 1) := by decide +kernel
theorem dX9_event_21 : decode cX9_event 21 = .ok (.iload_n 2, 1) := by decide +kernel
theorem dX9_event_22 : decode cX9_event 22 = .ok (.invokevirtual 195, 3) := by decide +kernel
theorem dX9_event_25 : decode cX9_event 25 = .ok (.istore 4, 2) := by decide +kernel
theorem dX9_event_27 : decode cX9_event 27 = .ok (.iload 4, 2) := by decide +kernel
theorem dX9_event_29 : decode cX9_event 29 = .ok (.ifCond .ne 15, 3) := by decide +kernel
theorem dX9_event_32 : decode cX9_event 32 = .ok (.aload_n 0, 1) := by decide +kernel
theorem dX9_event_33 : decode cX9_event 33 = .ok (.iload_n 1, 1) := by decide +kernel
theorem dX9_event_34 : decode cX9_event 34 = .ok (.iload_n 2, 1) := by decide +kernel
theorem dX9_event_35 : decode cX9_event 35 = .ok (.invokevirtual 198, 3) := by decide +kernel
theorem dX9_event_38 : decode cX9_event 38 = .ok (.ifCond .ne 6, 3) := by decide +kernel
theorem dX9_event_41 : decode cX9_event 41 = .ok (.iconst 2, 1) := by decide +kernel
theorem dX9_event_42 : decode cX9_event 42 = .ok (.istore 4, 2) := by decide +kernel
theorem dX9_event_44 : decode cX9_event 44 = .ok (.iload 4, 2) := by decide +kernel
theorem dX9_event_46 : decode cX9_event 46 = .ok (.ifCond .ne 16, 3) := by decide +kernel
theorem dX9_event_49 : decode cX9_event 49 = .ok (.aload_n 0, 1) := by decide +kernel
theorem dX9_event_50 : decode cX9_event 50 = .ok (.getfield 180, 3) := by decide +kernel
theorem dX9_event_53 : decode cX9_event 53 = .ok (.sipush 5000, 3) := by decide +kernel
theorem dX9_event_56 : decode cX9_event 56 = .ok (.if_icmp .ne 6, 3) := by decide +kernel
theorem dX9_event_59 : decode cX9_event 59 = .ok (.iconst 5, 1) := by decide +kernel
theorem dX9_event_60 : decode cX9_event 60 = .ok (.istore 4, 2) := by decide +kernel
theorem dX9_event_62 : decode cX9_event 62 = .ok (.iload 4, 2) := by decide +kernel
theorem dX9_event_64 : decode cX9_event 64 = .ok (.ifCond .eq 12, 3) := by decide +kernel
theorem dX9_event_67 : decode cX9_event 67 = .ok (.aload_n 0, 1) := by decide +kernel
theorem dX9_event_68 : decode cX9_event 68 = .ok (.iload 4, 2) := by decide +kernel
theorem dX9_event_70 : decode cX9_event 70 = .ok (.invokevirtual 168, 3) := by decide +kernel
theorem dX9_event_73 : decode cX9_event 73 = .ok (.pop, 1) := by decide +kernel
theorem dX9_event_74 : decode cX9_event 74 = .ok (.iconst 0, 1) := by decide +kernel
theorem dX9_event_75 : decode cX9_event 75 = .ok (.ireturn, 1) := by decide +kernel
theorem dX9_event_76 : decode cX9_event 76 = .ok (.aload_n 0, 1) := by decide +kernel
theorem dX9_event_77 : decode cX9_event 77 = .ok (.iload_n 1, 1) := by decide +kernel
theorem dX9_event_78 : decode cX9_event 78 = .ok (.iload_n 2, 1) := by decide +kernel
theorem dX9_event_79 : decode cX9_event 79 = .ok (.iload_n 3, 1) := by decide +kernel
theorem dX9_event_80 : decode cX9_event 80 = .ok (.invokevirtual 202, 3) := by decide +kernel
theorem dX9_event_83 : decode cX9_event 83 = .ok (.iconst 1, 1) := by decide +kernel
theorem dX9_event_84 : decode cX9_event 84 = .ok (.ireturn, 1) := by decide +kernel
set_option maxHeartbeats 4000000 in
set_option maxRecDepth 100000 in
theorem g_X9_event (l : Launch) (G : xG) (S : yS) (d : yD) (h0 : Nat) (p0 : Int32) (p1 : Int32) (p2 : Int32) (hSh : ySh S) (hPo : yPo S d) (hm_h0 : h0 ∈ S.1) (hk_h0 : S.2.1 h0 = 9) (hI : yMI S d h0) : xWi l G yX9_event cX9_event 5 (some .boolean) 3 65 0 0 [.ref h0, .int p0, .int p1, .int p2] (yW G S d) (fun r (u : yD) => yAg S [9, 45, 46, 47, 69] d u ∧ (yPo S d → yPo S u) ∧ yK [1, 38] d u h0 ∧ (yMI S u h0)) (fun u => yW G S u) := by
  intro sz
  refine xstart (by decide) (Nat.le_of_ble_eq_true rfl) (fun p e s m args below meth c ls C0 hr hlocks hin hsz hP hK hD hN hl => ?_)
  obtain ⟨hx, hb, hml, hown, htl⟩ := id C0
  subst hsz
  have hD := hD.self (sz := s.heap.size)
  generalize hAe : va_A (yW G S d) s.heap.size = A at hD ⊢
  have hA : ∀ q : Nat, s.heap.size ≤ q → A q := fun q h => by rw [← hAe]; exact Or.inr h
  have hS : va_S A s.heap s.heap [] := va_S.rf
  have hg0 : yAg S [9, 45, 46, 47, 69] d d := yAg.rf
  have hl : lv_has ls 5 [(0, .ref h0), (1, .int p0), (2, .int p1), (3, .int p2)] := hl
  refine lv_aload_n hx hb dX9_event_0 rfl (lv_at hl 0 rfl) ?_
  refine lv_iconst (v := 0) hx hb dX9_event_1 (by decide) ?_
  refine yputI (ci := 9) (k := 38) (ty := .int) (C := RX9) (T := TX9) (N := 67) C0 hK hP hD hS hm_h0 hk_h0 (by decide) rfl inlX9 tyX9 tyX9_ok nmX9 (by decide) mW175 (fun _ h9 => h9) rfl (by decide +kernel) rfl rfl (Nat.le_of_ble_eq_true rfl) ysi_9_38 dX9_event_2 (fun H locs hP hD hS => ?_)
  obtain ⟨d_1, ed_1⟩ : ∃ z : yD, z = yi d h0 38 0 := ⟨_, rfl⟩
  rw [← ed_1] at hP hD
  have hgd_1 : yAg S [9, 45, 46, 47, 69] d d_1 := by rw [ed_1]; exact yAg.i hg0 (by rw [hk_h0]; decide)
  have hPod_1 : yPo S d_1 := by rw [ed_1]; exact yPo.i hPo hk_h0 (Or.inl rfl)
  have hfd_1 : yK [1, 38] d d_1 h0 := by rw [ed_1]; exact yK.i yK.rf (by decide)
  have hId_1 : yMI S d_1 h0 := yMI.ag hI hSh hm_h0 hk_h0 (show yAg S [9] d d_1 from by rw [ed_1]; exact yAg.i yAg.rf (by rw [hk_h0]; decide)) (show yK [38] d d_1 h0 from by rw [ed_1]; exact yK.i yK.rf (by decide)) (by decide) (by decide)
  have hE0d_1 : (d_1.1 h0 0).toInt = (d.1 h0 0).toInt := congrArg Int32.toInt ((show yK [38] d d_1 h0 from by rw [ed_1]; exact yK.i yK.rf (by decide)) 0 (by decide))
  have hE1d_1 : (d_1.1 h0 1).toInt = (d.1 h0 1).toInt := congrArg Int32.toInt ((show yK [38] d d_1 h0 from by rw [ed_1]; exact yK.i yK.rf (by decide)) 1 (by decide))
  have hE2d_1 : (d_1.1 h0 2).toInt = (d.1 h0 2).toInt := congrArg Int32.toInt ((show yK [38] d d_1 h0 from by rw [ed_1]; exact yK.i yK.rf (by decide)) 2 (by decide))
  have hE3d_1 : (d_1.1 h0 3).toInt = (d.1 h0 3).toInt := congrArg Int32.toInt ((show yK [38] d d_1 h0 from by rw [ed_1]; exact yK.i yK.rf (by decide)) 3 (by decide))
  have hE63d_1 : (d_1.1 h0 63).toInt = (d.1 h0 63).toInt := congrArg Int32.toInt ((show yK [38] d d_1 h0 from by rw [ed_1]; exact yK.i yK.rf (by decide)) 63 (by decide))
  refine lv_iload_n hx hb dX9_event_5 rfl (lv_at hl 3 rfl) ?_
  refine lv_if_lt (tgt := 15) hx hb dX9_event_6 (by decide) (fun c_2 => ?_) (fun c_2 => ?_)
  · refine lv_iconst (v := 1) hx hb dX9_event_15 (by decide) ?_
    refine lv_goto (tgt := 25) hx hb dX9_event_16 (by decide) ?_
    refine lv_istore (lv' := [(4, .int 1), (0, .ref h0), (1, .int p0), (2, .int p1), (3, .int p2)]) hx hb dX9_event_25 hl (by decide) rfl (fun ls hl => ?_)
    refine lv_iload hx hb dX9_event_27 (lv_at hl 0 rfl) ?_
    refine lv_if_ne (tgt := 44) hx hb dX9_event_29 (by decide) (fun c_3 => ?_) (fun c_3 => absurd c_3 (by decide +kernel))
    refine lv_iload hx hb dX9_event_44 (lv_at hl 0 rfl) ?_
    refine lv_if_ne (tgt := 62) hx hb dX9_event_46 (by decide) (fun c_4 => ?_) (fun c_4 => absurd c_4 (by decide +kernel))
    refine lv_iload hx hb dX9_event_62 (lv_at hl 0 rfl) ?_
    refine lv_if_eq (tgt := 76) hx hb dX9_event_64 (by decide) (fun c_5 => absurd c_5 (by decide +kernel)) (fun c_5 => ?_)
    refine lv_aload_n hx hb dX9_event_67 rfl (lv_at hl 1 rfl) ?_
    refine lv_iload hx hb dX9_event_68 (lv_at hl 0 rfl) ?_
    refine yVwi (As := [.int 1]) (rest := []) C0 (g_X9_no l G S d_1 h0 1 hSh hPod_1 hm_h0 hk_h0 (by decide +kernel)) ok_X9_no (mW177 : Cond.methodLink RX9 168 yX9_no ∈ wsT) ⟨Nat.le_of_ble_eq_true rfl, Nat.le_of_ble_eq_true rfl⟩ hP hD hS hA hK hN hm_h0 hk_h0 (by decide) rfl rfl rfl hl.1 rfl (Nat.le_of_ble_eq_true rfl) ⟨Nat.le_of_ble_eq_true rfl, Nat.le_of_ble_eq_true rfl⟩ dX9_event_70 (fun r_6 d_7 H locs hr_6 hP hD hS => ?_)
    obtain ⟨hgad_7, hpad_7, hfad_7, hxd_7⟩ := hr_6
    have hfd_7 : yK [1, 38] d d_7 h0 := yK.tr hfd_1 hfad_7 (by decide)
    have hE0d_7 : (d_7.1 h0 0).toInt = (d_1.1 h0 0).toInt := congrArg Int32.toInt (hfad_7 0 (by decide))
    have hE1d_7 : (d_7.1 h0 1).toInt = (d_1.1 h0 1).toInt := congrArg Int32.toInt (hfad_7 1 (by decide))
    have hE2d_7 : (d_7.1 h0 2).toInt = (d_1.1 h0 2).toInt := congrArg Int32.toInt (hfad_7 2 (by decide))
    have hE3d_7 : (d_7.1 h0 3).toInt = (d_1.1 h0 3).toInt := congrArg Int32.toInt (hfad_7 3 (by decide))
    have hE63d_7 : (d_7.1 h0 63).toInt = (d_1.1 h0 63).toInt := congrArg Int32.toInt (hfad_7 63 (by decide))
    have hId_7 : yMI S d_7 h0 := yMI.ag hId_1 hSh hm_h0 hk_h0 hgad_7 hfad_7 (by decide) (by decide)
    have hgd_7 : yAg S [9, 45, 46, 47, 69] d d_7 := yAg.tr hgd_1 hgad_7 (by first | decide | exact fun _ h => h)
    have hPod_7 : yPo S d_7 := hpad_7 hPod_1
    refine lv_pop hx hb dX9_event_73 rfl ?_
    refine lv_iconst (v := 0) hx hb dX9_event_74 (by decide) ?_
    exact W.zret (v := 0) (ty := .boolean) hx hb hr rfl (fun t ht hW => ⟨⟨0, d_7, rfl, ⟨hgd_7, (fun _ => hPod_7), hfd_7, hId_7⟩, by rw [ht]; exact hP, hD⟩, hS.F ht⟩) hS.2.2 dX9_event_75
  · refine lv_iload_n hx hb dX9_event_9 rfl (lv_at hl 3 rfl) ?_
    refine lv_bipush (v := 7) hx hb dX9_event_10 (by decide) ?_
    refine lv_icmp_le (tgt := 19) hx hb dX9_event_12 (by decide) (fun c_8 => ?_) (fun c_8 => ?_)
    · refine lv_aload_n hx hb dX9_event_19 rfl (lv_at hl 0 rfl) ?_
      refine lv_iload_n hx hb dX9_event_20 rfl (lv_at hl 1 rfl) ?_
      refine lv_iload_n hx hb dX9_event_21 rfl (lv_at hl 2 rfl) ?_
      refine yVri (As := [.int p0, .int p1]) (rest := []) C0 (g_X9_minuteWhy l G S d_1 h0 p0 p1 hSh hm_h0 hk_h0 hId_1) ok_X9_minuteWhy (mW421 : Cond.methodLink RX9 195 yX9_minuteWhy ∈ wsT) ⟨Nat.le_of_ble_eq_true rfl, Nat.le_of_ble_eq_true rfl⟩ hP hD hK hN hm_h0 hk_h0 (by decide) rfl rfl rfl hl.1 rfl (Nat.le_of_ble_eq_true rfl) ⟨Nat.le_of_ble_eq_true rfl, Nat.le_of_ble_eq_true rfl⟩ dX9_event_22 (fun r_9 hr_9 => ?_)
      refine lv_istore (lv' := [(4, .int r_9), (0, .ref h0), (1, .int p0), (2, .int p1), (3, .int p2)]) hx hb dX9_event_25 hl (by decide) rfl (fun ls hl => ?_)
      refine lv_iload hx hb dX9_event_27 (lv_at hl 0 rfl) ?_
      refine lv_if_ne (tgt := 44) hx hb dX9_event_29 (by decide) (fun c_10 => ?_) (fun c_10 => ?_)
      · refine lv_iload hx hb dX9_event_44 (lv_at hl 0 rfl) ?_
        refine lv_if_ne (tgt := 62) hx hb dX9_event_46 (by decide) (fun c_11 => ?_) (fun c_11 => absurd c_11 c_10)
        refine lv_iload hx hb dX9_event_62 (lv_at hl 0 rfl) ?_
        refine lv_if_eq (tgt := 76) hx hb dX9_event_64 (by decide) (fun c_12 => absurd c_12 c_10) (fun c_12 => ?_)
        refine lv_aload_n hx hb dX9_event_67 rfl (lv_at hl 1 rfl) ?_
        refine lv_iload hx hb dX9_event_68 (lv_at hl 0 rfl) ?_
        have F_13 := fnlt (rfl : (p2 : Int32).toInt = (p2 : Int32).toInt) (by decide +kernel : (0 : Int32).toInt = 0) c_2
        have F_14 := fle (rfl : (p2 : Int32).toInt = (p2 : Int32).toInt) (by decide +kernel : (7 : Int32).toInt = 7) c_8
        have F_15 := fne (rfl : (r_9 : Int32).toInt = (r_9 : Int32).toInt) (by decide +kernel : (0 : Int32).toInt = 0) c_10
        have F_16 := fne (rfl : (r_9 : Int32).toInt = (r_9 : Int32).toInt) (by decide +kernel : (0 : Int32).toInt = 0) c_11
        have F_17 := fne (rfl : (r_9 : Int32).toInt = (r_9 : Int32).toInt) (by decide +kernel : (0 : Int32).toInt = 0) c_12
        refine yVwi (As := [.int r_9]) (rest := []) C0 (g_X9_no l G S d_1 h0 r_9 hSh hPod_1 hm_h0 hk_h0 (by refine ⟨?_, ?_⟩ <;> omega)) ok_X9_no (mW177 : Cond.methodLink RX9 168 yX9_no ∈ wsT) ⟨Nat.le_of_ble_eq_true rfl, Nat.le_of_ble_eq_true rfl⟩ hP hD hS hA hK hN hm_h0 hk_h0 (by decide) rfl rfl rfl hl.1 rfl (Nat.le_of_ble_eq_true rfl) ⟨Nat.le_of_ble_eq_true rfl, Nat.le_of_ble_eq_true rfl⟩ dX9_event_70 (fun r_18 d_19 H locs hr_18 hP hD hS => ?_)
        obtain ⟨hgad_19, hpad_19, hfad_19, hxd_19⟩ := hr_18
        have hfd_19 : yK [1, 38] d d_19 h0 := yK.tr hfd_1 hfad_19 (by decide)
        have hE0d_19 : (d_19.1 h0 0).toInt = (d_1.1 h0 0).toInt := congrArg Int32.toInt (hfad_19 0 (by decide))
        have hE1d_19 : (d_19.1 h0 1).toInt = (d_1.1 h0 1).toInt := congrArg Int32.toInt (hfad_19 1 (by decide))
        have hE2d_19 : (d_19.1 h0 2).toInt = (d_1.1 h0 2).toInt := congrArg Int32.toInt (hfad_19 2 (by decide))
        have hE3d_19 : (d_19.1 h0 3).toInt = (d_1.1 h0 3).toInt := congrArg Int32.toInt (hfad_19 3 (by decide))
        have hE63d_19 : (d_19.1 h0 63).toInt = (d_1.1 h0 63).toInt := congrArg Int32.toInt (hfad_19 63 (by decide))
        have hId_19 : yMI S d_19 h0 := yMI.ag hId_1 hSh hm_h0 hk_h0 hgad_19 hfad_19 (by decide) (by decide)
        have hgd_19 : yAg S [9, 45, 46, 47, 69] d d_19 := yAg.tr hgd_1 hgad_19 (by first | decide | exact fun _ h => h)
        have hPod_19 : yPo S d_19 := hpad_19 hPod_1
        refine lv_pop hx hb dX9_event_73 rfl ?_
        refine lv_iconst (v := 0) hx hb dX9_event_74 (by decide) ?_
        exact W.zret (v := 0) (ty := .boolean) hx hb hr rfl (fun t ht hW => ⟨⟨0, d_19, rfl, ⟨hgd_19, (fun _ => hPod_19), hfd_19, hId_19⟩, by rw [ht]; exact hP, hD⟩, hS.F ht⟩) hS.2.2 dX9_event_75
      · refine lv_aload_n hx hb dX9_event_32 rfl (lv_at hl 1 rfl) ?_
        refine lv_iload_n hx hb dX9_event_33 rfl (lv_at hl 2 rfl) ?_
        refine lv_iload_n hx hb dX9_event_34 rfl (lv_at hl 3 rfl) ?_
        have F_20 := fnlt (rfl : (p2 : Int32).toInt = (p2 : Int32).toInt) (by decide +kernel : (0 : Int32).toInt = 0) c_2
        have F_21 := fle (rfl : (p2 : Int32).toInt = (p2 : Int32).toInt) (by decide +kernel : (7 : Int32).toInt = 7) c_8
        have F_22 := feq (rfl : (r_9 : Int32).toInt = (r_9 : Int32).toInt) (by decide +kernel : (0 : Int32).toInt = 0) c_10
        refine yVri (As := [.int p0, .int p1]) (rest := []) C0 (g_X9_isKnown l G S d_1 h0 p0 p1 hSh hm_h0 hk_h0 (by refine ⟨?_, ?_⟩ <;> omega) (by refine ⟨?_, ?_⟩ <;> omega)) ok_X9_isKnown (mW429 : Cond.methodLink RX9 198 yX9_isKnown ∈ wsT) ⟨Nat.le_of_ble_eq_true rfl, Nat.le_of_ble_eq_true rfl⟩ hP hD hK hN hm_h0 hk_h0 (by decide) rfl rfl rfl hl.1 rfl (Nat.le_of_ble_eq_true rfl) ⟨Nat.le_of_ble_eq_true rfl, Nat.le_of_ble_eq_true rfl⟩ dX9_event_35 (fun r_23 hr_23 => ?_)
        refine lv_if_ne (tgt := 44) hx hb dX9_event_38 (by decide) (fun c_24 => ?_) (fun c_24 => ?_)
        · refine lv_iload hx hb dX9_event_44 (lv_at hl 0 rfl) ?_
          refine lv_if_ne (tgt := 62) hx hb dX9_event_46 (by decide) (fun c_25 => absurd c_10 c_25) (fun c_25 => ?_)
          refine lv_aload_n hx hb dX9_event_49 rfl (lv_at hl 1 rfl) ?_
          refine yget (ci := 9) (k := 1) (v := .int (d_1.1 h0 1)) (C := RX9) (T := TX9) (N := 67) C0 hK hP hm_h0 hk_h0 (by decide) rfl inlX9 (by decide) mW364 (fun _ h9 => h9) rfl dX9_event_50 ?_
          refine lv_topi (fun z_26 ez_26 => ?_)
          refine lv_sipush (v := 5000) hx hb dX9_event_53 (by decide) ?_
          refine lv_icmp_ne (tgt := 62) hx hb dX9_event_56 (by decide) (fun c_27 => ?_) (fun c_27 => ?_)
          · refine lv_iload hx hb dX9_event_62 (lv_at hl 0 rfl) ?_
            refine lv_if_eq (tgt := 76) hx hb dX9_event_64 (by decide) (fun c_28 => ?_) (fun c_28 => absurd c_10 c_28)
            refine lv_aload_n hx hb dX9_event_76 rfl (lv_at hl 1 rfl) ?_
            refine lv_iload_n hx hb dX9_event_77 rfl (lv_at hl 2 rfl) ?_
            refine lv_iload_n hx hb dX9_event_78 rfl (lv_at hl 3 rfl) ?_
            refine lv_iload_n hx hb dX9_event_79 rfl (lv_at hl 4 rfl) ?_
            have hCC_29 := yMI.c hId_1
            have F_30 := fne (rfl : (r_23 : Int32).toInt = (r_23 : Int32).toInt) (by decide +kernel : (0 : Int32).toInt = 0) c_24
            have F_31 := feq (rfl : (r_9 : Int32).toInt = (r_9 : Int32).toInt) (by decide +kernel : (0 : Int32).toInt = 0) c_25
            have T_32 : (z_26 : Int32).toInt = (d_1.1 h0 1).toInt := by rw [ez_26]
            have F_33 := fne (rfl : (z_26 : Int32).toInt = (z_26 : Int32).toInt) (by decide +kernel : (5000 : Int32).toInt = 5000) c_27
            have F_34 := feq (rfl : (r_9 : Int32).toInt = (r_9 : Int32).toInt) (by decide +kernel : (0 : Int32).toInt = 0) c_28
            refine yVwv (As := [.int p0, .int p1, .int p2]) (rest := []) C0 (g_X9_insert l G S d_1 h0 p0 p1 p2 hSh hPod_1 hm_h0 hk_h0 hId_1 (by omega) (by refine ⟨?_, ?_⟩ <;> omega)) ok_X9_insert (mW433 : Cond.methodLink RX9 202 yX9_insert ∈ wsT) ⟨Nat.le_of_ble_eq_true rfl, Nat.le_of_ble_eq_true rfl⟩ hP hD hS hA hK hN hm_h0 hk_h0 (by decide) rfl rfl rfl hl.1 rfl (Nat.le_of_ble_eq_true rfl) ⟨Nat.le_of_ble_eq_true rfl, Nat.le_of_ble_eq_true rfl⟩ dX9_event_80 (fun d_36 H locs hr_35 hP hD hS => ?_)
            obtain ⟨hgad_36, hpad_36, hfad_36, hxd_36⟩ := hr_35
            have hfd_36 : yK [1, 38] d d_36 h0 := yK.tr hfd_1 hfad_36 (by decide)
            have hE0d_36 : (d_36.1 h0 0).toInt = (d_1.1 h0 0).toInt := congrArg Int32.toInt (hfad_36 0 (by decide))
            have hE2d_36 : (d_36.1 h0 2).toInt = (d_1.1 h0 2).toInt := congrArg Int32.toInt (hfad_36 2 (by decide))
            have hE3d_36 : (d_36.1 h0 3).toInt = (d_1.1 h0 3).toInt := congrArg Int32.toInt (hfad_36 3 (by decide))
            have hE63d_36 : (d_36.1 h0 63).toInt = (d_1.1 h0 63).toInt := congrArg Int32.toInt (hfad_36 63 (by decide))
            have hId_36 : yMI S d_36 h0 := hxd_36.1
            have hgd_36 : yAg S [9, 45, 46, 47, 69] d d_36 := yAg.tr hgd_1 hgad_36 (by first | decide | exact fun _ h => h)
            have hPod_36 : yPo S d_36 := hpad_36 hPod_1
            refine lv_iconst (v := 1) hx hb dX9_event_83 (by decide) ?_
            exact W.zret (v := 1) (ty := .boolean) hx hb hr rfl (fun t ht hW => ⟨⟨1, d_36, rfl, ⟨hgd_36, (fun _ => hPod_36), hfd_36, hId_36⟩, by rw [ht]; exact hP, hD⟩, hS.F ht⟩) hS.2.2 dX9_event_84
          · refine lv_iconst (v := 5) hx hb dX9_event_59 (by decide) ?_
            refine lv_istore (lv' := [(4, .int 5), (0, .ref h0), (1, .int p0), (2, .int p1), (3, .int p2)]) hx hb dX9_event_60 hl (by decide) rfl (fun ls hl => ?_)
            refine lv_iload hx hb dX9_event_62 (lv_at hl 0 rfl) ?_
            refine lv_if_eq (tgt := 76) hx hb dX9_event_64 (by decide) (fun c_37 => absurd c_37 (by decide +kernel)) (fun c_37 => ?_)
            refine lv_aload_n hx hb dX9_event_67 rfl (lv_at hl 1 rfl) ?_
            refine lv_iload hx hb dX9_event_68 (lv_at hl 0 rfl) ?_
            refine yVwi (As := [.int 5]) (rest := []) C0 (g_X9_no l G S d_1 h0 5 hSh hPod_1 hm_h0 hk_h0 (by decide +kernel)) ok_X9_no (mW177 : Cond.methodLink RX9 168 yX9_no ∈ wsT) ⟨Nat.le_of_ble_eq_true rfl, Nat.le_of_ble_eq_true rfl⟩ hP hD hS hA hK hN hm_h0 hk_h0 (by decide) rfl rfl rfl hl.1 rfl (Nat.le_of_ble_eq_true rfl) ⟨Nat.le_of_ble_eq_true rfl, Nat.le_of_ble_eq_true rfl⟩ dX9_event_70 (fun r_38 d_39 H locs hr_38 hP hD hS => ?_)
            obtain ⟨hgad_39, hpad_39, hfad_39, hxd_39⟩ := hr_38
            have hfd_39 : yK [1, 38] d d_39 h0 := yK.tr hfd_1 hfad_39 (by decide)
            have hE0d_39 : (d_39.1 h0 0).toInt = (d_1.1 h0 0).toInt := congrArg Int32.toInt (hfad_39 0 (by decide))
            have hE1d_39 : (d_39.1 h0 1).toInt = (d_1.1 h0 1).toInt := congrArg Int32.toInt (hfad_39 1 (by decide))
            have hE2d_39 : (d_39.1 h0 2).toInt = (d_1.1 h0 2).toInt := congrArg Int32.toInt (hfad_39 2 (by decide))
            have hE3d_39 : (d_39.1 h0 3).toInt = (d_1.1 h0 3).toInt := congrArg Int32.toInt (hfad_39 3 (by decide))
            have hE63d_39 : (d_39.1 h0 63).toInt = (d_1.1 h0 63).toInt := congrArg Int32.toInt (hfad_39 63 (by decide))
            have hId_39 : yMI S d_39 h0 := yMI.ag hId_1 hSh hm_h0 hk_h0 hgad_39 hfad_39 (by decide) (by decide)
            have hgd_39 : yAg S [9, 45, 46, 47, 69] d d_39 := yAg.tr hgd_1 hgad_39 (by first | decide | exact fun _ h => h)
            have hPod_39 : yPo S d_39 := hpad_39 hPod_1
            refine lv_pop hx hb dX9_event_73 rfl ?_
            refine lv_iconst (v := 0) hx hb dX9_event_74 (by decide) ?_
            exact W.zret (v := 0) (ty := .boolean) hx hb hr rfl (fun t ht hW => ⟨⟨0, d_39, rfl, ⟨hgd_39, (fun _ => hPod_39), hfd_39, hId_39⟩, by rw [ht]; exact hP, hD⟩, hS.F ht⟩) hS.2.2 dX9_event_75
        · refine lv_iconst (v := 2) hx hb dX9_event_41 (by decide) ?_
          refine lv_istore (lv' := [(4, .int 2), (0, .ref h0), (1, .int p0), (2, .int p1), (3, .int p2)]) hx hb dX9_event_42 hl (by decide) rfl (fun ls hl => ?_)
          refine lv_iload hx hb dX9_event_44 (lv_at hl 0 rfl) ?_
          refine lv_if_ne (tgt := 62) hx hb dX9_event_46 (by decide) (fun c_40 => ?_) (fun c_40 => absurd c_40 (by decide +kernel))
          refine lv_iload hx hb dX9_event_62 (lv_at hl 0 rfl) ?_
          refine lv_if_eq (tgt := 76) hx hb dX9_event_64 (by decide) (fun c_41 => absurd c_41 (by decide +kernel)) (fun c_41 => ?_)
          refine lv_aload_n hx hb dX9_event_67 rfl (lv_at hl 1 rfl) ?_
          refine lv_iload hx hb dX9_event_68 (lv_at hl 0 rfl) ?_
          refine yVwi (As := [.int 2]) (rest := []) C0 (g_X9_no l G S d_1 h0 2 hSh hPod_1 hm_h0 hk_h0 (by decide +kernel)) ok_X9_no (mW177 : Cond.methodLink RX9 168 yX9_no ∈ wsT) ⟨Nat.le_of_ble_eq_true rfl, Nat.le_of_ble_eq_true rfl⟩ hP hD hS hA hK hN hm_h0 hk_h0 (by decide) rfl rfl rfl hl.1 rfl (Nat.le_of_ble_eq_true rfl) ⟨Nat.le_of_ble_eq_true rfl, Nat.le_of_ble_eq_true rfl⟩ dX9_event_70 (fun r_42 d_43 H locs hr_42 hP hD hS => ?_)
          obtain ⟨hgad_43, hpad_43, hfad_43, hxd_43⟩ := hr_42
          have hfd_43 : yK [1, 38] d d_43 h0 := yK.tr hfd_1 hfad_43 (by decide)
          have hE0d_43 : (d_43.1 h0 0).toInt = (d_1.1 h0 0).toInt := congrArg Int32.toInt (hfad_43 0 (by decide))
          have hE1d_43 : (d_43.1 h0 1).toInt = (d_1.1 h0 1).toInt := congrArg Int32.toInt (hfad_43 1 (by decide))
          have hE2d_43 : (d_43.1 h0 2).toInt = (d_1.1 h0 2).toInt := congrArg Int32.toInt (hfad_43 2 (by decide))
          have hE3d_43 : (d_43.1 h0 3).toInt = (d_1.1 h0 3).toInt := congrArg Int32.toInt (hfad_43 3 (by decide))
          have hE63d_43 : (d_43.1 h0 63).toInt = (d_1.1 h0 63).toInt := congrArg Int32.toInt (hfad_43 63 (by decide))
          have hId_43 : yMI S d_43 h0 := yMI.ag hId_1 hSh hm_h0 hk_h0 hgad_43 hfad_43 (by decide) (by decide)
          have hgd_43 : yAg S [9, 45, 46, 47, 69] d d_43 := yAg.tr hgd_1 hgad_43 (by first | decide | exact fun _ h => h)
          have hPod_43 : yPo S d_43 := hpad_43 hPod_1
          refine lv_pop hx hb dX9_event_73 rfl ?_
          refine lv_iconst (v := 0) hx hb dX9_event_74 (by decide) ?_
          exact W.zret (v := 0) (ty := .boolean) hx hb hr rfl (fun t ht hW => ⟨⟨0, d_43, rfl, ⟨hgd_43, (fun _ => hPod_43), hfd_43, hId_43⟩, by rw [ht]; exact hP, hD⟩, hS.F ht⟩) hS.2.2 dX9_event_75
    · refine lv_iconst (v := 1) hx hb dX9_event_15 (by decide) ?_
      refine lv_goto (tgt := 25) hx hb dX9_event_16 (by decide) ?_
      refine lv_istore (lv' := [(4, .int 1), (0, .ref h0), (1, .int p0), (2, .int p1), (3, .int p2)]) hx hb dX9_event_25 hl (by decide) rfl (fun ls hl => ?_)
      refine lv_iload hx hb dX9_event_27 (lv_at hl 0 rfl) ?_
      refine lv_if_ne (tgt := 44) hx hb dX9_event_29 (by decide) (fun c_44 => ?_) (fun c_44 => absurd c_44 (by decide +kernel))
      refine lv_iload hx hb dX9_event_44 (lv_at hl 0 rfl) ?_
      refine lv_if_ne (tgt := 62) hx hb dX9_event_46 (by decide) (fun c_45 => ?_) (fun c_45 => absurd c_45 (by decide +kernel))
      refine lv_iload hx hb dX9_event_62 (lv_at hl 0 rfl) ?_
      refine lv_if_eq (tgt := 76) hx hb dX9_event_64 (by decide) (fun c_46 => absurd c_46 (by decide +kernel)) (fun c_46 => ?_)
      refine lv_aload_n hx hb dX9_event_67 rfl (lv_at hl 1 rfl) ?_
      refine lv_iload hx hb dX9_event_68 (lv_at hl 0 rfl) ?_
      refine yVwi (As := [.int 1]) (rest := []) C0 (g_X9_no l G S d_1 h0 1 hSh hPod_1 hm_h0 hk_h0 (by decide +kernel)) ok_X9_no (mW177 : Cond.methodLink RX9 168 yX9_no ∈ wsT) ⟨Nat.le_of_ble_eq_true rfl, Nat.le_of_ble_eq_true rfl⟩ hP hD hS hA hK hN hm_h0 hk_h0 (by decide) rfl rfl rfl hl.1 rfl (Nat.le_of_ble_eq_true rfl) ⟨Nat.le_of_ble_eq_true rfl, Nat.le_of_ble_eq_true rfl⟩ dX9_event_70 (fun r_47 d_48 H locs hr_47 hP hD hS => ?_)
      obtain ⟨hgad_48, hpad_48, hfad_48, hxd_48⟩ := hr_47
      have hfd_48 : yK [1, 38] d d_48 h0 := yK.tr hfd_1 hfad_48 (by decide)
      have hE0d_48 : (d_48.1 h0 0).toInt = (d_1.1 h0 0).toInt := congrArg Int32.toInt (hfad_48 0 (by decide))
      have hE1d_48 : (d_48.1 h0 1).toInt = (d_1.1 h0 1).toInt := congrArg Int32.toInt (hfad_48 1 (by decide))
      have hE2d_48 : (d_48.1 h0 2).toInt = (d_1.1 h0 2).toInt := congrArg Int32.toInt (hfad_48 2 (by decide))
      have hE3d_48 : (d_48.1 h0 3).toInt = (d_1.1 h0 3).toInt := congrArg Int32.toInt (hfad_48 3 (by decide))
      have hE63d_48 : (d_48.1 h0 63).toInt = (d_1.1 h0 63).toInt := congrArg Int32.toInt (hfad_48 63 (by decide))
      have hId_48 : yMI S d_48 h0 := yMI.ag hId_1 hSh hm_h0 hk_h0 hgad_48 hfad_48 (by decide) (by decide)
      have hgd_48 : yAg S [9, 45, 46, 47, 69] d d_48 := yAg.tr hgd_1 hgad_48 (by first | decide | exact fun _ h => h)
      have hPod_48 : yPo S d_48 := hpad_48 hPod_1
      refine lv_pop hx hb dX9_event_73 rfl ?_
      refine lv_iconst (v := 0) hx hb dX9_event_74 (by decide) ?_
      exact W.zret (v := 0) (ty := .boolean) hx hb hr rfl (fun t ht hW => ⟨⟨0, d_48, rfl, ⟨hgd_48, (fun _ => hPod_48), hfd_48, hId_48⟩, by rw [ht]; exact hP, hD⟩, hS.F ht⟩) hS.2.2 dX9_event_75
theorem dX9_day_0 : decode cX9_day 0 = .ok (.aload_n 0, 1) := by decide +kernel
theorem dX9_day_1 : decode cX9_day 1 = .ok (.iconst 0, 1) := by decide +kernel
theorem dX9_day_2 : decode cX9_day 2 = .ok (.putfield 147, 3) := by decide +kernel
theorem dX9_day_5 : decode cX9_day 5 = .ok (.aload_n 0, 1) := by decide +kernel
theorem dX9_day_6 : decode cX9_day 6 = .ok (.iload_n 1, 1) := by decide +kernel
theorem dX9_day_7 : decode cX9_day 7 = .ok (.iload_n 2, 1) := by decide +kernel
theorem dX9_day_8 : decode cX9_day 8 = .ok (.invokevirtual 206, 3) := by decide +kernel
theorem dX9_day_11 : decode cX9_day 11 = .ok (.istore 4, 2) := by decide +kernel
theorem dX9_day_13 : decode cX9_day 13 = .ok (.iload 4, 2) := by decide +kernel
theorem dX9_day_15 : decode cX9_day 15 = .ok (.ifCond .eq 12, 3) := by decide +kernel
theorem dX9_day_18 : decode cX9_day 18 = .ok (.aload_n 0, 1) := by decide +kernel
theorem dX9_day_19 : decode cX9_day 19 = .ok (.iload 4, 2) := by decide +kernel
theorem dX9_day_21 : decode cX9_day 21 = .ok (.invokevirtual 168, 3) := by decide +kernel
theorem dX9_day_24 : decode cX9_day 24 = .ok (.pop, 1) := by decide +kernel
theorem dX9_day_25 : decode cX9_day 25 = .ok (.iconst 0, 1) := by decide +kernel
theorem dX9_day_26 : decode cX9_day 26 = .ok (.ireturn, 1) := by decide +kernel
theorem dX9_day_27 : decode cX9_day 27 = .ok (.aload_n 0, 1) := by decide +kernel
theorem dX9_day_28 : decode cX9_day 28 = .ok (.iload_n 1, 1) := by decide +kernel
theorem dX9_day_29 : decode cX9_day 29 = .ok (.sipush 1440, 3) := by decide +kernel
theorem dX9_day_32 : decode cX9_day 32 = .ok (.iload_n 2, 1) := by decide +kernel
theorem dX9_day_33 : decode cX9_day 33 = .ok (.imul, 1) := by decide +kernel
theorem dX9_day_34 : decode cX9_day 34 = .ok (.sipush 1440, 3) := by decide +kernel
theorem dX9_day_37 : decode cX9_day 37 = .ok (.iload_n 2, 1) := by decide +kernel
theorem dX9_day_38 : decode cX9_day 38 = .ok (.imul, 1) := by decide +kernel
theorem dX9_day_39 : decode cX9_day 39 = .ok (.sipush 1440, 3) := by decide +kernel
theorem dX9_day_42 : decode cX9_day 42 = .ok (.iadd, 1) := by decide +kernel
theorem dX9_day_43 : decode cX9_day 43 = .ok (.invokevirtual 183, 3) := by decide +kernel
theorem dX9_day_46 : decode cX9_day 46 = .ok (.pop, 1) := by decide +kernel
theorem dX9_day_47 : decode cX9_day 47 = .ok (.aload_n 0, 1) := by decide +kernel
theorem dX9_day_48 : decode cX9_day 48 = .ok (.getfield 44, 3) := by decide +kernel
theorem dX9_day_51 : decode cX9_day 51 = .ok (.bipush 90, 2) := by decide +kernel
theorem dX9_day_53 : decode cX9_day 53 = .ok (.iload_n 1, 1) := by decide +kernel
theorem dX9_day_54 : decode cX9_day 54 = .ok (.imul, 1) := by decide +kernel
theorem dX9_day_55 : decode cX9_day 55 = .ok (.iload_n 2, 1) := by decide +kernel
theorem dX9_day_56 : decode cX9_day 56 = .ok (.iadd, 1) := by decide +kernel
theorem dX9_day_57 : decode cX9_day 57 = .ok (.iload_n 3, 1) := by decide +kernel
theorem dX9_day_58 : decode cX9_day 58 = .ok (.ifCond .ne 7, 3) := by decide +kernel
theorem dX9_day_61 : decode cX9_day 61 = .ok (.iconst 1, 1) := by decide +kernel
theorem dX9_day_62 : decode cX9_day 62 = .ok (.goto 4, 3) := by decide +kernel
theorem dX9_day_65 : decode cX9_day 65 = .ok (.iconst 0, 1) := by decide +kernel
theorem dX9_day_66 : decode cX9_day 66 = .ok (.bastore, 1) := by decide +kernel
theorem dX9_day_67 : decode cX9_day 67 = .ok (.aload_n 0, 1) := by decide +kernel
theorem dX9_day_68 : decode cX9_day 68 = .ok (.getfield 40, 3) := by decide +kernel
theorem dX9_day_71 : decode cX9_day 71 = .ok (.bipush 90, 2) := by decide +kernel
theorem dX9_day_73 : decode cX9_day 73 = .ok (.iload_n 1, 1) := by decide +kernel
theorem dX9_day_74 : decode cX9_day 74 = .ok (.imul, 1) := by decide +kernel
theorem dX9_day_75 : decode cX9_day 75 = .ok (.iload_n 2, 1) := by decide +kernel
theorem dX9_day_76 : decode cX9_day 76 = .ok (.iadd, 1) := by decide +kernel
theorem dX9_day_77 : decode cX9_day 77 = .ok (.sipush 1440, 3) := by decide +kernel
theorem dX9_day_80 : decode cX9_day 80 = .ok (.sastore, 1) := by decide +kernel
theorem dX9_day_81 : decode cX9_day 81 = .ok (.iconst 1, 1) := by decide +kernel
theorem dX9_day_82 : decode cX9_day 82 = .ok (.ireturn, 1) := by decide +kernel
set_option maxHeartbeats 4000000 in
set_option maxRecDepth 100000 in
theorem g_X9_day (l : Launch) (G : xG) (S : yS) (d : yD) (h0 : Nat) (p0 : Int32) (p1 : Int32) (p2 : Int32) (hSh : ySh S) (hPo : yPo S d) (hm_h0 : h0 ∈ S.1) (hk_h0 : S.2.1 h0 = 9) (hI : yMI S d h0) (hz_p2 : p2 = 0 ∨ p2 = 1) : xWi l G yX9_day cX9_day 5 (some .boolean) 3 65 0 0 [.ref h0, .int p0, .int p1, .int p2] (yW G S d) (fun r (u : yD) => yAg S [9, 42, 43, 45, 46, 47, 69] d u ∧ (yPo S d → yPo S u) ∧ yK [1, 38] d u h0 ∧ (yMI S u h0)) (fun u => yW G S u) := by
  intro sz
  refine xstart (by decide) (Nat.le_of_ble_eq_true rfl) (fun p e s m args below meth c ls C0 hr hlocks hin hsz hP hK hD hN hl => ?_)
  obtain ⟨hx, hb, hml, hown, htl⟩ := id C0
  subst hsz
  have hD := hD.self (sz := s.heap.size)
  generalize hAe : va_A (yW G S d) s.heap.size = A at hD ⊢
  have hA : ∀ q : Nat, s.heap.size ≤ q → A q := fun q h => by rw [← hAe]; exact Or.inr h
  have hS : va_S A s.heap s.heap [] := va_S.rf
  have hg0 : yAg S [9, 42, 43, 45, 46, 47, 69] d d := yAg.rf
  have hl : lv_has ls 5 [(0, .ref h0), (1, .int p0), (2, .int p1), (3, .int p2)] := hl
  refine lv_aload_n hx hb dX9_day_0 rfl (lv_at hl 0 rfl) ?_
  refine lv_iconst (v := 0) hx hb dX9_day_1 (by decide) ?_
  refine yputI (ci := 9) (k := 38) (ty := .int) (C := RX9) (T := TX9) (N := 67) C0 hK hP hD hS hm_h0 hk_h0 (by decide) rfl inlX9 tyX9 tyX9_ok nmX9 (by decide) mW175 (fun _ h9 => h9) rfl (by decide +kernel) rfl rfl (Nat.le_of_ble_eq_true rfl) ysi_9_38 dX9_day_2 (fun H locs hP hD hS => ?_)
  obtain ⟨d_1, ed_1⟩ : ∃ z : yD, z = yi d h0 38 0 := ⟨_, rfl⟩
  rw [← ed_1] at hP hD
  have hgd_1 : yAg S [9, 42, 43, 45, 46, 47, 69] d d_1 := by rw [ed_1]; exact yAg.i hg0 (by rw [hk_h0]; decide)
  have hPod_1 : yPo S d_1 := by rw [ed_1]; exact yPo.i hPo hk_h0 (Or.inl rfl)
  have hfd_1 : yK [1, 38] d d_1 h0 := by rw [ed_1]; exact yK.i yK.rf (by decide)
  have hId_1 : yMI S d_1 h0 := yMI.ag hI hSh hm_h0 hk_h0 (show yAg S [9] d d_1 from by rw [ed_1]; exact yAg.i yAg.rf (by rw [hk_h0]; decide)) (show yK [38] d d_1 h0 from by rw [ed_1]; exact yK.i yK.rf (by decide)) (by decide) (by decide)
  have hE0d_1 : (d_1.1 h0 0).toInt = (d.1 h0 0).toInt := congrArg Int32.toInt ((show yK [38] d d_1 h0 from by rw [ed_1]; exact yK.i yK.rf (by decide)) 0 (by decide))
  have hE1d_1 : (d_1.1 h0 1).toInt = (d.1 h0 1).toInt := congrArg Int32.toInt ((show yK [38] d d_1 h0 from by rw [ed_1]; exact yK.i yK.rf (by decide)) 1 (by decide))
  have hE2d_1 : (d_1.1 h0 2).toInt = (d.1 h0 2).toInt := congrArg Int32.toInt ((show yK [38] d d_1 h0 from by rw [ed_1]; exact yK.i yK.rf (by decide)) 2 (by decide))
  have hE3d_1 : (d_1.1 h0 3).toInt = (d.1 h0 3).toInt := congrArg Int32.toInt ((show yK [38] d d_1 h0 from by rw [ed_1]; exact yK.i yK.rf (by decide)) 3 (by decide))
  have hE63d_1 : (d_1.1 h0 63).toInt = (d.1 h0 63).toInt := congrArg Int32.toInt ((show yK [38] d d_1 h0 from by rw [ed_1]; exact yK.i yK.rf (by decide)) 63 (by decide))
  refine lv_aload_n hx hb dX9_day_5 rfl (lv_at hl 0 rfl) ?_
  refine lv_iload_n hx hb dX9_day_6 rfl (lv_at hl 1 rfl) ?_
  refine lv_iload_n hx hb dX9_day_7 rfl (lv_at hl 2 rfl) ?_
  refine yVri (As := [.int p0, .int p1]) (rest := []) C0 (g_X9_dayWhy l G S d_1 h0 p0 p1 hSh hm_h0 hk_h0 hId_1) ok_X9_dayWhy (mW450 : Cond.methodLink RX9 206 yX9_dayWhy ∈ wsT) ⟨Nat.le_of_ble_eq_true rfl, Nat.le_of_ble_eq_true rfl⟩ hP hD hK hN hm_h0 hk_h0 (by decide) rfl rfl rfl hl.1 rfl (Nat.le_of_ble_eq_true rfl) ⟨Nat.le_of_ble_eq_true rfl, Nat.le_of_ble_eq_true rfl⟩ dX9_day_8 (fun r_2 hr_2 => ?_)
  refine lv_istore (lv' := [(4, .int r_2), (0, .ref h0), (1, .int p0), (2, .int p1), (3, .int p2)]) hx hb dX9_day_11 hl (by decide) rfl (fun ls hl => ?_)
  refine lv_iload hx hb dX9_day_13 (lv_at hl 0 rfl) ?_
  refine lv_if_eq (tgt := 27) hx hb dX9_day_15 (by decide) (fun c_3 => ?_) (fun c_3 => ?_)
  · refine lv_aload_n hx hb dX9_day_27 rfl (lv_at hl 1 rfl) ?_
    refine lv_iload_n hx hb dX9_day_28 rfl (lv_at hl 2 rfl) ?_
    refine lv_sipush (v := 1440) hx hb dX9_day_29 (by decide) ?_
    refine lv_iload_n hx hb dX9_day_32 rfl (lv_at hl 3 rfl) ?_
    refine lv_imul hx hb dX9_day_33 ?_
    refine lv_topi (fun z_4 ez_4 => ?_)
    refine lv_sipush (v := 1440) hx hb dX9_day_34 (by decide) ?_
    refine lv_iload_n hx hb dX9_day_37 rfl (lv_at hl 3 rfl) ?_
    refine lv_imul hx hb dX9_day_38 ?_
    refine lv_topi (fun z_5 ez_5 => ?_)
    refine lv_sipush (v := 1440) hx hb dX9_day_39 (by decide) ?_
    refine lv_iadd hx hb dX9_day_42 ?_
    refine lv_topi (fun z_6 ez_6 => ?_)
    refine yVwi (As := [.int p0, .int z_4, .int z_6]) (rest := []) C0 (g_X9_clear l G S d_1 h0 p0 z_4 z_6 hSh hPod_1 hm_h0 hk_h0 hId_1) ok_X9_clear (mW360 : Cond.methodLink RX9 183 yX9_clear ∈ wsT) ⟨Nat.le_of_ble_eq_true rfl, Nat.le_of_ble_eq_true rfl⟩ hP hD hS hA hK hN hm_h0 hk_h0 (by decide) rfl rfl rfl hl.1 rfl (Nat.le_of_ble_eq_true rfl) ⟨Nat.le_of_ble_eq_true rfl, Nat.le_of_ble_eq_true rfl⟩ dX9_day_43 (fun r_7 d_8 H locs hr_7 hP hD hS => ?_)
    obtain ⟨hgad_8, hpad_8, hfad_8, hxd_8⟩ := hr_7
    have hfd_8 : yK [1, 38] d d_8 h0 := yK.tr hfd_1 hfad_8 (by decide)
    have hE0d_8 : (d_8.1 h0 0).toInt = (d_1.1 h0 0).toInt := congrArg Int32.toInt (hfad_8 0 (by decide))
    have hE2d_8 : (d_8.1 h0 2).toInt = (d_1.1 h0 2).toInt := congrArg Int32.toInt (hfad_8 2 (by decide))
    have hE3d_8 : (d_8.1 h0 3).toInt = (d_1.1 h0 3).toInt := congrArg Int32.toInt (hfad_8 3 (by decide))
    have hE63d_8 : (d_8.1 h0 63).toInt = (d_1.1 h0 63).toInt := congrArg Int32.toInt (hfad_8 63 (by decide))
    have hId_8 : yMI S d_8 h0 := hxd_8.1
    have hgd_8 : yAg S [9, 42, 43, 45, 46, 47, 69] d d_8 := yAg.tr hgd_1 hgad_8 (by first | decide | exact fun _ h => h)
    have hPod_8 : yPo S d_8 := hpad_8 hPod_1
    refine lv_pop hx hb dX9_day_46 rfl ?_
    refine lv_aload_n hx hb dX9_day_47 rfl (lv_at hl 1 rfl) ?_
    refine yget (ci := 9) (k := 13) (v := .ref (S.2.2.1 h0 13)) (C := RX9) (T := TX9) (N := 67) C0 hK hP hm_h0 hk_h0 (by decide) rfl inlX9 (by decide) mW120 (fun _ h9 => h9) rfl dX9_day_48 ?_
    obtain ⟨hmy_9, hky_9⟩ := ySh.f9_13 hSh _ hm_h0 hk_h0
    refine lv_bipush (v := 90) hx hb dX9_day_51 (by decide) ?_
    refine lv_iload_n hx hb dX9_day_53 rfl (lv_at hl 2 rfl) ?_
    refine lv_imul hx hb dX9_day_54 ?_
    refine lv_topi (fun z_10 ez_10 => ?_)
    refine lv_iload_n hx hb dX9_day_55 rfl (lv_at hl 3 rfl) ?_
    refine lv_iadd hx hb dX9_day_56 ?_
    refine lv_topi (fun z_11 ez_11 => ?_)
    refine lv_iload_n hx hb dX9_day_57 rfl (lv_at hl 4 rfl) ?_
    refine lv_if_ne (tgt := 65) hx hb dX9_day_58 (by decide) (fun c_12 => ?_) (fun c_12 => ?_)
    · refine lv_iconst (v := 0) hx hb dX9_day_65 (by decide) ?_
      have hCC_13 := yMI.c hId_8
      have F_14 := feq (rfl : (r_2 : Int32).toInt = (r_2 : Int32).toInt) (by decide +kernel : (0 : Int32).toInt = 0) c_3
      have F_15 := fne (rfl : (p2 : Int32).toInt = (p2 : Int32).toInt) (by decide +kernel : (0 : Int32).toInt = 0) c_12
      have T_17 : (z_10 : Int32).toInt = 90 * (p0 : Int32).toInt := tmul ez_10 (by decide +kernel : (90 : Int32).toInt = 90) (rfl : (p0 : Int32).toInt = (p0 : Int32).toInt) (by omega) (by omega)
      have T_16 : (z_11 : Int32).toInt = (z_10 : Int32).toInt + (p1 : Int32).toInt := tadd ez_11 (rfl : (z_10 : Int32).toInt = (z_10 : Int32).toInt) (rfl : (p1 : Int32).toInt = (p1 : Int32).toInt) (by omega) (by omega)
      refine yastZ C0 hK hP hD hS hmy_9 hky_9 (by decide) rfl 3 rfl (xinT 720 rfl (by omega) (by omega)) dX9_day_66 (fun H locs hP hD hS => ?_)
      obtain ⟨d_18, ed_18⟩ : ∃ z : yD, z = ycs d_8 (S.2.2.1 h0 13) (upd (d_8.2.2.2.1 (S.2.2.1 h0 13)) (z_11 : Int32).toNatClampNeg (vp_nar .boolean 0)) := ⟨_, rfl⟩
      rw [← ed_18] at hP hD
      have hgd_18 : yAg S [9, 42, 43, 45, 46, 47, 69] d d_18 := by rw [ed_18]; exact yAg.cs hgd_8 (by rw [hky_9]; decide)
      have hPod_18 : yPo S d_18 := by rw [ed_18]; exact hPod_8
      have hfd_18 : yK [1, 38] d d_18 h0 := yK.ag hfd_8 (show yAg S [43] d_8 d_18 from by rw [ed_18]; exact yAg.cs yAg.rf (by rw [hky_9]; decide)) (by rw [hk_h0]; decide)
      have hId_18 : yMI S d_18 h0 := yMI.ag hId_8 hSh hm_h0 hk_h0 (show yAg S [43] d_8 d_18 from by rw [ed_18]; exact yAg.cs yAg.rf (by rw [hky_9]; decide)) (yK.ag (F := []) yK.rf (show yAg S [43] d_8 d_18 from by rw [ed_18]; exact yAg.cs yAg.rf (by rw [hky_9]; decide)) (by rw [hk_h0]; decide)) (by decide) (by decide)
      have hE0d_18 : (d_18.1 h0 0).toInt = (d_8.1 h0 0).toInt := congrArg Int32.toInt ((yK.ag (F := []) yK.rf (show yAg S [43] d_8 d_18 from by rw [ed_18]; exact yAg.cs yAg.rf (by rw [hky_9]; decide)) (by rw [hk_h0]; decide)) 0 (by decide))
      have hE1d_18 : (d_18.1 h0 1).toInt = (d_8.1 h0 1).toInt := congrArg Int32.toInt ((yK.ag (F := []) yK.rf (show yAg S [43] d_8 d_18 from by rw [ed_18]; exact yAg.cs yAg.rf (by rw [hky_9]; decide)) (by rw [hk_h0]; decide)) 1 (by decide))
      have hE2d_18 : (d_18.1 h0 2).toInt = (d_8.1 h0 2).toInt := congrArg Int32.toInt ((yK.ag (F := []) yK.rf (show yAg S [43] d_8 d_18 from by rw [ed_18]; exact yAg.cs yAg.rf (by rw [hky_9]; decide)) (by rw [hk_h0]; decide)) 2 (by decide))
      have hE3d_18 : (d_18.1 h0 3).toInt = (d_8.1 h0 3).toInt := congrArg Int32.toInt ((yK.ag (F := []) yK.rf (show yAg S [43] d_8 d_18 from by rw [ed_18]; exact yAg.cs yAg.rf (by rw [hky_9]; decide)) (by rw [hk_h0]; decide)) 3 (by decide))
      have hE63d_18 : (d_18.1 h0 63).toInt = (d_8.1 h0 63).toInt := congrArg Int32.toInt ((yK.ag (F := []) yK.rf (show yAg S [43] d_8 d_18 from by rw [ed_18]; exact yAg.cs yAg.rf (by rw [hky_9]; decide)) (by rw [hk_h0]; decide)) 63 (by decide))
      refine lv_aload_n hx hb dX9_day_67 rfl (lv_at hl 1 rfl) ?_
      refine yget (ci := 9) (k := 12) (v := .ref (S.2.2.1 h0 12)) (C := RX9) (T := TX9) (N := 67) C0 hK hP hm_h0 hk_h0 (by decide) rfl inlX9 (by decide) mW118 (fun _ h9 => h9) rfl dX9_day_68 ?_
      obtain ⟨hmy_19, hky_19⟩ := ySh.f9_12 hSh _ hm_h0 hk_h0
      refine lv_bipush (v := 90) hx hb dX9_day_71 (by decide) ?_
      refine lv_iload_n hx hb dX9_day_73 rfl (lv_at hl 2 rfl) ?_
      refine lv_imul hx hb dX9_day_74 ?_
      refine lv_topi (fun z_20 ez_20 => ?_)
      refine lv_iload_n hx hb dX9_day_75 rfl (lv_at hl 3 rfl) ?_
      refine lv_iadd hx hb dX9_day_76 ?_
      refine lv_topi (fun z_21 ez_21 => ?_)
      refine lv_sipush (v := 1440) hx hb dX9_day_77 (by decide) ?_
      have hCC_22 := yMI.c hId_18
      have T_24 : (z_20 : Int32).toInt = 90 * (p0 : Int32).toInt := tmul ez_20 (by decide +kernel : (90 : Int32).toInt = 90) (rfl : (p0 : Int32).toInt = (p0 : Int32).toInt) (by omega) (by omega)
      have T_23 : (z_21 : Int32).toInt = (z_20 : Int32).toInt + (p1 : Int32).toInt := tadd ez_21 (rfl : (z_20 : Int32).toInt = (z_20 : Int32).toInt) (rfl : (p1 : Int32).toInt = (p1 : Int32).toInt) (by omega) (by omega)
      refine yastS C0 hK hP hD hS hmy_19 hky_19 (by decide) rfl 2 rfl (xinT 720 rfl (by omega) (by omega)) dX9_day_80 (fun H locs hP hD hS => ?_)
      obtain ⟨d_25, ed_25⟩ : ∃ z : yD, z = ycs d_18 (S.2.2.1 h0 12) (upd (d_18.2.2.2.1 (S.2.2.1 h0 12)) (z_21 : Int32).toNatClampNeg (vp_nar .short 1440)) := ⟨_, rfl⟩
      rw [← ed_25] at hP hD
      have hgd_25 : yAg S [9, 42, 43, 45, 46, 47, 69] d d_25 := by rw [ed_25]; exact yAg.cs hgd_18 (by rw [hky_19]; decide)
      have hPod_25 : yPo S d_25 := by rw [ed_25]; exact hPod_18
      have hfd_25 : yK [1, 38] d d_25 h0 := yK.ag hfd_18 (show yAg S [42] d_18 d_25 from by rw [ed_25]; exact yAg.cs yAg.rf (by rw [hky_19]; decide)) (by rw [hk_h0]; decide)
      have hId_25 : yMI S d_25 h0 := yMI.ag hId_18 hSh hm_h0 hk_h0 (show yAg S [42] d_18 d_25 from by rw [ed_25]; exact yAg.cs yAg.rf (by rw [hky_19]; decide)) (yK.ag (F := []) yK.rf (show yAg S [42] d_18 d_25 from by rw [ed_25]; exact yAg.cs yAg.rf (by rw [hky_19]; decide)) (by rw [hk_h0]; decide)) (by decide) (by decide)
      have hE0d_25 : (d_25.1 h0 0).toInt = (d_18.1 h0 0).toInt := congrArg Int32.toInt ((yK.ag (F := []) yK.rf (show yAg S [42] d_18 d_25 from by rw [ed_25]; exact yAg.cs yAg.rf (by rw [hky_19]; decide)) (by rw [hk_h0]; decide)) 0 (by decide))
      have hE1d_25 : (d_25.1 h0 1).toInt = (d_18.1 h0 1).toInt := congrArg Int32.toInt ((yK.ag (F := []) yK.rf (show yAg S [42] d_18 d_25 from by rw [ed_25]; exact yAg.cs yAg.rf (by rw [hky_19]; decide)) (by rw [hk_h0]; decide)) 1 (by decide))
      have hE2d_25 : (d_25.1 h0 2).toInt = (d_18.1 h0 2).toInt := congrArg Int32.toInt ((yK.ag (F := []) yK.rf (show yAg S [42] d_18 d_25 from by rw [ed_25]; exact yAg.cs yAg.rf (by rw [hky_19]; decide)) (by rw [hk_h0]; decide)) 2 (by decide))
      have hE3d_25 : (d_25.1 h0 3).toInt = (d_18.1 h0 3).toInt := congrArg Int32.toInt ((yK.ag (F := []) yK.rf (show yAg S [42] d_18 d_25 from by rw [ed_25]; exact yAg.cs yAg.rf (by rw [hky_19]; decide)) (by rw [hk_h0]; decide)) 3 (by decide))
      have hE63d_25 : (d_25.1 h0 63).toInt = (d_18.1 h0 63).toInt := congrArg Int32.toInt ((yK.ag (F := []) yK.rf (show yAg S [42] d_18 d_25 from by rw [ed_25]; exact yAg.cs yAg.rf (by rw [hky_19]; decide)) (by rw [hk_h0]; decide)) 63 (by decide))
      refine lv_iconst (v := 1) hx hb dX9_day_81 (by decide) ?_
      exact W.zret (v := 1) (ty := .boolean) hx hb hr rfl (fun t ht hW => ⟨⟨1, d_25, rfl, ⟨hgd_25, (fun _ => hPod_25), hfd_25, hId_25⟩, by rw [ht]; exact hP, hD⟩, hS.F ht⟩) hS.2.2 dX9_day_82
    · refine lv_iconst (v := 1) hx hb dX9_day_61 (by decide) ?_
      refine lv_goto (tgt := 66) hx hb dX9_day_62 (by decide) ?_
      have hCC_26 := yMI.c hId_8
      have F_27 := feq (rfl : (r_2 : Int32).toInt = (r_2 : Int32).toInt) (by decide +kernel : (0 : Int32).toInt = 0) c_3
      have F_28 := feq (rfl : (p2 : Int32).toInt = (p2 : Int32).toInt) (by decide +kernel : (0 : Int32).toInt = 0) c_12
      have T_30 : (z_10 : Int32).toInt = 90 * (p0 : Int32).toInt := tmul ez_10 (by decide +kernel : (90 : Int32).toInt = 90) (rfl : (p0 : Int32).toInt = (p0 : Int32).toInt) (by omega) (by omega)
      have T_29 : (z_11 : Int32).toInt = (z_10 : Int32).toInt + (p1 : Int32).toInt := tadd ez_11 (rfl : (z_10 : Int32).toInt = (z_10 : Int32).toInt) (rfl : (p1 : Int32).toInt = (p1 : Int32).toInt) (by omega) (by omega)
      refine yastZ C0 hK hP hD hS hmy_9 hky_9 (by decide) rfl 3 rfl (xinT 720 rfl (by omega) (by omega)) dX9_day_66 (fun H locs hP hD hS => ?_)
      obtain ⟨d_31, ed_31⟩ : ∃ z : yD, z = ycs d_8 (S.2.2.1 h0 13) (upd (d_8.2.2.2.1 (S.2.2.1 h0 13)) (z_11 : Int32).toNatClampNeg (vp_nar .boolean 1)) := ⟨_, rfl⟩
      rw [← ed_31] at hP hD
      have hgd_31 : yAg S [9, 42, 43, 45, 46, 47, 69] d d_31 := by rw [ed_31]; exact yAg.cs hgd_8 (by rw [hky_9]; decide)
      have hPod_31 : yPo S d_31 := by rw [ed_31]; exact hPod_8
      have hfd_31 : yK [1, 38] d d_31 h0 := yK.ag hfd_8 (show yAg S [43] d_8 d_31 from by rw [ed_31]; exact yAg.cs yAg.rf (by rw [hky_9]; decide)) (by rw [hk_h0]; decide)
      have hId_31 : yMI S d_31 h0 := yMI.ag hId_8 hSh hm_h0 hk_h0 (show yAg S [43] d_8 d_31 from by rw [ed_31]; exact yAg.cs yAg.rf (by rw [hky_9]; decide)) (yK.ag (F := []) yK.rf (show yAg S [43] d_8 d_31 from by rw [ed_31]; exact yAg.cs yAg.rf (by rw [hky_9]; decide)) (by rw [hk_h0]; decide)) (by decide) (by decide)
      have hE0d_31 : (d_31.1 h0 0).toInt = (d_8.1 h0 0).toInt := congrArg Int32.toInt ((yK.ag (F := []) yK.rf (show yAg S [43] d_8 d_31 from by rw [ed_31]; exact yAg.cs yAg.rf (by rw [hky_9]; decide)) (by rw [hk_h0]; decide)) 0 (by decide))
      have hE1d_31 : (d_31.1 h0 1).toInt = (d_8.1 h0 1).toInt := congrArg Int32.toInt ((yK.ag (F := []) yK.rf (show yAg S [43] d_8 d_31 from by rw [ed_31]; exact yAg.cs yAg.rf (by rw [hky_9]; decide)) (by rw [hk_h0]; decide)) 1 (by decide))
      have hE2d_31 : (d_31.1 h0 2).toInt = (d_8.1 h0 2).toInt := congrArg Int32.toInt ((yK.ag (F := []) yK.rf (show yAg S [43] d_8 d_31 from by rw [ed_31]; exact yAg.cs yAg.rf (by rw [hky_9]; decide)) (by rw [hk_h0]; decide)) 2 (by decide))
      have hE3d_31 : (d_31.1 h0 3).toInt = (d_8.1 h0 3).toInt := congrArg Int32.toInt ((yK.ag (F := []) yK.rf (show yAg S [43] d_8 d_31 from by rw [ed_31]; exact yAg.cs yAg.rf (by rw [hky_9]; decide)) (by rw [hk_h0]; decide)) 3 (by decide))
      have hE63d_31 : (d_31.1 h0 63).toInt = (d_8.1 h0 63).toInt := congrArg Int32.toInt ((yK.ag (F := []) yK.rf (show yAg S [43] d_8 d_31 from by rw [ed_31]; exact yAg.cs yAg.rf (by rw [hky_9]; decide)) (by rw [hk_h0]; decide)) 63 (by decide))
      refine lv_aload_n hx hb dX9_day_67 rfl (lv_at hl 1 rfl) ?_
      refine yget (ci := 9) (k := 12) (v := .ref (S.2.2.1 h0 12)) (C := RX9) (T := TX9) (N := 67) C0 hK hP hm_h0 hk_h0 (by decide) rfl inlX9 (by decide) mW118 (fun _ h9 => h9) rfl dX9_day_68 ?_
      obtain ⟨hmy_32, hky_32⟩ := ySh.f9_12 hSh _ hm_h0 hk_h0
      refine lv_bipush (v := 90) hx hb dX9_day_71 (by decide) ?_
      refine lv_iload_n hx hb dX9_day_73 rfl (lv_at hl 2 rfl) ?_
      refine lv_imul hx hb dX9_day_74 ?_
      refine lv_topi (fun z_33 ez_33 => ?_)
      refine lv_iload_n hx hb dX9_day_75 rfl (lv_at hl 3 rfl) ?_
      refine lv_iadd hx hb dX9_day_76 ?_
      refine lv_topi (fun z_34 ez_34 => ?_)
      refine lv_sipush (v := 1440) hx hb dX9_day_77 (by decide) ?_
      have hCC_35 := yMI.c hId_31
      have T_37 : (z_33 : Int32).toInt = 90 * (p0 : Int32).toInt := tmul ez_33 (by decide +kernel : (90 : Int32).toInt = 90) (rfl : (p0 : Int32).toInt = (p0 : Int32).toInt) (by omega) (by omega)
      have T_36 : (z_34 : Int32).toInt = (z_33 : Int32).toInt + (p1 : Int32).toInt := tadd ez_34 (rfl : (z_33 : Int32).toInt = (z_33 : Int32).toInt) (rfl : (p1 : Int32).toInt = (p1 : Int32).toInt) (by omega) (by omega)
      refine yastS C0 hK hP hD hS hmy_32 hky_32 (by decide) rfl 2 rfl (xinT 720 rfl (by omega) (by omega)) dX9_day_80 (fun H locs hP hD hS => ?_)
      obtain ⟨d_38, ed_38⟩ : ∃ z : yD, z = ycs d_31 (S.2.2.1 h0 12) (upd (d_31.2.2.2.1 (S.2.2.1 h0 12)) (z_34 : Int32).toNatClampNeg (vp_nar .short 1440)) := ⟨_, rfl⟩
      rw [← ed_38] at hP hD
      have hgd_38 : yAg S [9, 42, 43, 45, 46, 47, 69] d d_38 := by rw [ed_38]; exact yAg.cs hgd_31 (by rw [hky_32]; decide)
      have hPod_38 : yPo S d_38 := by rw [ed_38]; exact hPod_31
      have hfd_38 : yK [1, 38] d d_38 h0 := yK.ag hfd_31 (show yAg S [42] d_31 d_38 from by rw [ed_38]; exact yAg.cs yAg.rf (by rw [hky_32]; decide)) (by rw [hk_h0]; decide)
      have hId_38 : yMI S d_38 h0 := yMI.ag hId_31 hSh hm_h0 hk_h0 (show yAg S [42] d_31 d_38 from by rw [ed_38]; exact yAg.cs yAg.rf (by rw [hky_32]; decide)) (yK.ag (F := []) yK.rf (show yAg S [42] d_31 d_38 from by rw [ed_38]; exact yAg.cs yAg.rf (by rw [hky_32]; decide)) (by rw [hk_h0]; decide)) (by decide) (by decide)
      have hE0d_38 : (d_38.1 h0 0).toInt = (d_31.1 h0 0).toInt := congrArg Int32.toInt ((yK.ag (F := []) yK.rf (show yAg S [42] d_31 d_38 from by rw [ed_38]; exact yAg.cs yAg.rf (by rw [hky_32]; decide)) (by rw [hk_h0]; decide)) 0 (by decide))
      have hE1d_38 : (d_38.1 h0 1).toInt = (d_31.1 h0 1).toInt := congrArg Int32.toInt ((yK.ag (F := []) yK.rf (show yAg S [42] d_31 d_38 from by rw [ed_38]; exact yAg.cs yAg.rf (by rw [hky_32]; decide)) (by rw [hk_h0]; decide)) 1 (by decide))
      have hE2d_38 : (d_38.1 h0 2).toInt = (d_31.1 h0 2).toInt := congrArg Int32.toInt ((yK.ag (F := []) yK.rf (show yAg S [42] d_31 d_38 from by rw [ed_38]; exact yAg.cs yAg.rf (by rw [hky_32]; decide)) (by rw [hk_h0]; decide)) 2 (by decide))
      have hE3d_38 : (d_38.1 h0 3).toInt = (d_31.1 h0 3).toInt := congrArg Int32.toInt ((yK.ag (F := []) yK.rf (show yAg S [42] d_31 d_38 from by rw [ed_38]; exact yAg.cs yAg.rf (by rw [hky_32]; decide)) (by rw [hk_h0]; decide)) 3 (by decide))
      have hE63d_38 : (d_38.1 h0 63).toInt = (d_31.1 h0 63).toInt := congrArg Int32.toInt ((yK.ag (F := []) yK.rf (show yAg S [42] d_31 d_38 from by rw [ed_38]; exact yAg.cs yAg.rf (by rw [hky_32]; decide)) (by rw [hk_h0]; decide)) 63 (by decide))
      refine lv_iconst (v := 1) hx hb dX9_day_81 (by decide) ?_
      exact W.zret (v := 1) (ty := .boolean) hx hb hr rfl (fun t ht hW => ⟨⟨1, d_38, rfl, ⟨hgd_38, (fun _ => hPod_38), hfd_38, hId_38⟩, by rw [ht]; exact hP, hD⟩, hS.F ht⟩) hS.2.2 dX9_day_82
  · refine lv_aload_n hx hb dX9_day_18 rfl (lv_at hl 1 rfl) ?_
    refine lv_iload hx hb dX9_day_19 (lv_at hl 0 rfl) ?_
    have F_39 := fne (rfl : (r_2 : Int32).toInt = (r_2 : Int32).toInt) (by decide +kernel : (0 : Int32).toInt = 0) c_3
    refine yVwi (As := [.int r_2]) (rest := []) C0 (g_X9_no l G S d_1 h0 r_2 hSh hPod_1 hm_h0 hk_h0 (by refine ⟨?_, ?_⟩ <;> omega)) ok_X9_no (mW177 : Cond.methodLink RX9 168 yX9_no ∈ wsT) ⟨Nat.le_of_ble_eq_true rfl, Nat.le_of_ble_eq_true rfl⟩ hP hD hS hA hK hN hm_h0 hk_h0 (by decide) rfl rfl rfl hl.1 rfl (Nat.le_of_ble_eq_true rfl) ⟨Nat.le_of_ble_eq_true rfl, Nat.le_of_ble_eq_true rfl⟩ dX9_day_21 (fun r_40 d_41 H locs hr_40 hP hD hS => ?_)
    obtain ⟨hgad_41, hpad_41, hfad_41, hxd_41⟩ := hr_40
    have hfd_41 : yK [1, 38] d d_41 h0 := yK.tr hfd_1 hfad_41 (by decide)
    have hE0d_41 : (d_41.1 h0 0).toInt = (d_1.1 h0 0).toInt := congrArg Int32.toInt (hfad_41 0 (by decide))
    have hE1d_41 : (d_41.1 h0 1).toInt = (d_1.1 h0 1).toInt := congrArg Int32.toInt (hfad_41 1 (by decide))
    have hE2d_41 : (d_41.1 h0 2).toInt = (d_1.1 h0 2).toInt := congrArg Int32.toInt (hfad_41 2 (by decide))
    have hE3d_41 : (d_41.1 h0 3).toInt = (d_1.1 h0 3).toInt := congrArg Int32.toInt (hfad_41 3 (by decide))
    have hE63d_41 : (d_41.1 h0 63).toInt = (d_1.1 h0 63).toInt := congrArg Int32.toInt (hfad_41 63 (by decide))
    have hId_41 : yMI S d_41 h0 := yMI.ag hId_1 hSh hm_h0 hk_h0 hgad_41 hfad_41 (by decide) (by decide)
    have hgd_41 : yAg S [9, 42, 43, 45, 46, 47, 69] d d_41 := yAg.tr hgd_1 hgad_41 (by first | decide | exact fun _ h => h)
    have hPod_41 : yPo S d_41 := hpad_41 hPod_1
    refine lv_pop hx hb dX9_day_24 rfl ?_
    refine lv_iconst (v := 0) hx hb dX9_day_25 (by decide) ?_
    exact W.zret (v := 0) (ty := .boolean) hx hb hr rfl (fun t ht hW => ⟨⟨0, d_41, rfl, ⟨hgd_41, (fun _ => hPod_41), hfd_41, hId_41⟩, by rw [ht]; exact hP, hD⟩, hS.F ht⟩) hS.2.2 dX9_day_26
theorem dX9_tear_0 : decode cX9_tear 0 = .ok (.aload_n 0, 1) := by decide +kernel
theorem dX9_tear_1 : decode cX9_tear 1 = .ok (.iconst 0, 1) := by decide +kernel
theorem dX9_tear_2 : decode cX9_tear 2 = .ok (.putfield 147, 3) := by decide +kernel
theorem dX9_tear_5 : decode cX9_tear 5 = .ok (.iload_n 3, 1) := by decide +kernel
theorem dX9_tear_6 : decode cX9_tear 6 = .ok (.ifCond .lt 10, 3) := by decide +kernel
theorem dX9_tear_9 : decode cX9_tear 9 = .ok (.iload_n 3, 1) := by decide +kernel
theorem dX9_tear_10 : decode cX9_tear 10 = .ok (.sipush 1440, 3) := by decide +kernel
theorem dX9_tear_13 : decode cX9_tear 13 = .ok (.if_icmp .lt 7, 3) := by decide +kernel
theorem dX9_tear_16 : decode cX9_tear 16 = .ok (.iconst 1, 1) := by decide +kernel
theorem dX9_tear_17 : decode cX9_tear 17 = .ok (.goto 9, 3) := by decide +kernel
theorem dX9_tear_20 : decode cX9_tear 20 = .ok (.aload_n 0, 1) := by decide +kernel
theorem dX9_tear_21 : decode cX9_tear 21 = .ok (.iload_n 1, 1) := by decide +kernel
theorem dX9_tear_22 : decode cX9_tear 22 = .ok (.iload_n 2, 1) := by decide +kernel
theorem dX9_tear_23 : decode cX9_tear 23 = .ok (.invokevirtual 206, 3) := by decide +kernel
theorem dX9_tear_26 : decode cX9_tear 26 = .ok (.istore 4, 2) := by decide +kernel
theorem dX9_tear_28 : decode cX9_tear 28 = .ok (.iload 4, 2) := by decide +kernel
theorem dX9_tear_30 : decode cX9_tear 30 = .ok (.ifCond .ne 20, 3) := by decide +kernel
theorem dX9_tear_33 : decode cX9_tear 33 = .ok (.aload_n 0, 1) := by decide +kernel
theorem dX9_tear_34 : decode cX9_tear 34 = .ok (.getfield 44, 3) := by decide +kernel
theorem dX9_tear_37 : decode cX9_tear 37 = .ok (.bipush 90, 2) := by decide +kernel
theorem dX9_tear_39 : decode cX9_tear 39 = .ok (.iload_n 1, 1) := by decide +kernel
theorem dX9_tear_40 : decode cX9_tear 40 = .ok (.imul, 1) := by decide +kernel
theorem dX9_tear_41 : decode cX9_tear 41 = .ok (.iload_n 2, 1) := by decide +kernel
theorem dX9_tear_42 : decode cX9_tear 42 = .ok (.iadd, 1) := by decide +kernel
theorem dX9_tear_43 : decode cX9_tear 43 = .ok (.baload, 1) := by decide +kernel
theorem dX9_tear_44 : decode cX9_tear 44 = .ok (.ifCond .eq 6, 3) := by decide +kernel
theorem dX9_tear_47 : decode cX9_tear 47 = .ok (.iconst 2, 1) := by decide +kernel
theorem dX9_tear_48 : decode cX9_tear 48 = .ok (.istore 4, 2) := by decide +kernel
theorem dX9_tear_50 : decode cX9_tear 50 = .ok (.iload 4, 2) := by decide +kernel
theorem dX9_tear_52 : decode cX9_tear 52 = .ok (.ifCond .eq 10, 3) := by decide +kernel
theorem dX9_tear_55 : decode cX9_tear 55 = .ok (.aload_n 0, 1) := by decide +kernel
theorem dX9_tear_56 : decode cX9_tear 56 = .ok (.iload 4, 2) := by decide +kernel
theorem dX9_tear_58 : decode cX9_tear 58 = .ok (.invokevirtual 168, 3) := by decide +kernel
theorem dX9_tear_61 : decode cX9_tear 61 = .ok (.ireturn, 1) := by decide +kernel
theorem dX9_tear_62 : decode cX9_tear 62 = .ok (.iload_n 3, 1) := by decide +kernel
theorem dX9_tear_63 : decode cX9_tear 63 = .ok (.aload_n 0, 1) := by decide +kernel
theorem dX9_tear_64 : decode cX9_tear 64 = .ok (.getfield 40, 3) := by decide +kernel
theorem dX9_tear_67 : decode cX9_tear 67 = .ok (.bipush 90, 2) := by decide +kernel
theorem dX9_tear_69 : decode cX9_tear 69 = .ok (.iload_n 1, 1) := by decide +kernel
theorem dX9_tear_70 : decode cX9_tear 70 = .ok (.imul, 1) := by decide +kernel
theorem dX9_tear_71 : decode cX9_tear 71 = .ok (.iload_n 2, 1) := by decide +kernel
theorem dX9_tear_72 : decode cX9_tear 72 = .ok (.iadd, 1) := by decide +kernel
theorem dX9_tear_73 : decode cX9_tear 73 = .ok (.saload, 1) := by decide +kernel
theorem dX9_tear_74 : decode cX9_tear 74 = .ok (.if_icmp .ge 16, 3) := by decide +kernel
theorem dX9_tear_77 : decode cX9_tear 77 = .ok (.aload_n 0, 1) := by decide +kernel
theorem dX9_tear_78 : decode cX9_tear 78 = .ok (.getfield 40, 3) := by decide +kernel
theorem dX9_tear_81 : decode cX9_tear 81 = .ok (.bipush 90, 2) := by decide +kernel
theorem dX9_tear_83 : decode cX9_tear 83 = .ok (.iload_n 1, 1) := by decide +kernel
theorem dX9_tear_84 : decode cX9_tear 84 = .ok (.imul, 1) := by decide +kernel
theorem dX9_tear_85 : decode cX9_tear 85 = .ok (.iload_n 2, 1) := by decide +kernel
theorem dX9_tear_86 : decode cX9_tear 86 = .ok (.iadd, 1) := by decide +kernel
theorem dX9_tear_87 : decode cX9_tear 87 = .ok (.iload_n 3, 1) := by decide +kernel
theorem dX9_tear_88 : decode cX9_tear 88 = .ok (.i2s, 1) := by decide +kernel
theorem dX9_tear_89 : decode cX9_tear 89 = .ok (.sastore, 1) := by decide +kernel
theorem dX9_tear_90 : decode cX9_tear 90 = .ok (.aload_n 0, 1) := by decide +kernel
theorem dX9_tear_91 : decode cX9_tear 91 = .ok (.iload_n 1, 1) := by decide +kernel
theorem dX9_tear_92 : decode cX9_tear 92 = .ok (.sipush 1440, 3) := by decide +kernel
theorem dX9_tear_95 : decode cX9_tear 95 = .ok (.iload_n 2, 1) := by decide +kernel
theorem dX9_tear_96 : decode cX9_tear 96 = .ok (.imul, 1) := by decide +kernel
theorem dX9_tear_97 : decode cX9_tear 97 = .ok (.aload_n 0, 1) := by decide +kernel
theorem dX9_tear_98 : decode cX9_tear 98 = .ok (.getfield 40, 3) := by decide +kernel
theorem dX9_tear_101 : decode cX9_tear 101 = .ok (.bipush 90, 2) := by decide +kernel
theorem dX9_tear_103 : decode cX9_tear 103 = .ok (.iload_n 1, 1) := by decide +kernel
theorem dX9_tear_104 : decode cX9_tear 104 = .ok (.imul, 1) := by decide +kernel
theorem dX9_tear_105 : decode cX9_tear 105 = .ok (.iload_n 2, 1) := by decide +kernel
theorem dX9_tear_106 : decode cX9_tear 106 = .ok (.iadd, 1) := by decide +kernel
theorem dX9_tear_107 : decode cX9_tear 107 = .ok (.saload, 1) := by decide +kernel
theorem dX9_tear_108 : decode cX9_tear 108 = .ok (.iadd, 1) := by decide +kernel
theorem dX9_tear_109 : decode cX9_tear 109 = .ok (.sipush 1440, 3) := by decide +kernel
theorem dX9_tear_112 : decode cX9_tear 112 = .ok (.iload_n 2, 1) := by decide +kernel
theorem dX9_tear_113 : decode cX9_tear 113 = .ok (.imul, 1) := by decide +kernel
theorem dX9_tear_114 : decode cX9_tear 114 = .ok (.sipush 1440, 3) := by decide +kernel
theorem dX9_tear_117 : decode cX9_tear 117 = .ok (.iadd, 1) := by decide +kernel
theorem dX9_tear_118 : decode cX9_tear 118 = .ok (.invokevirtual 183, 3) := by decide +kernel
theorem dX9_tear_121 : decode cX9_tear 121 = .ok (.ireturn, 1) := by decide +kernel
set_option maxHeartbeats 4000000 in
set_option maxRecDepth 100000 in
theorem g_X9_tear (l : Launch) (G : xG) (S : yS) (d : yD) (h0 : Nat) (p0 : Int32) (p1 : Int32) (p2 : Int32) (hSh : ySh S) (hPo : yPo S d) (hm_h0 : h0 ∈ S.1) (hk_h0 : S.2.1 h0 = 9) (hI : yMI S d h0) : xWi l G yX9_tear cX9_tear 5 (some .int) 3 65 0 0 [.ref h0, .int p0, .int p1, .int p2] (yW G S d) (fun r (u : yD) => yAg S [9, 42, 45, 46, 47, 69] d u ∧ (yPo S d → yPo S u) ∧ yK [1, 38] d u h0 ∧ (yMI S u h0)) (fun u => yW G S u) := by
  intro sz
  refine xstart (by decide) (Nat.le_of_ble_eq_true rfl) (fun p e s m args below meth c ls C0 hr hlocks hin hsz hP hK hD hN hl => ?_)
  obtain ⟨hx, hb, hml, hown, htl⟩ := id C0
  subst hsz
  have hD := hD.self (sz := s.heap.size)
  generalize hAe : va_A (yW G S d) s.heap.size = A at hD ⊢
  have hA : ∀ q : Nat, s.heap.size ≤ q → A q := fun q h => by rw [← hAe]; exact Or.inr h
  have hS : va_S A s.heap s.heap [] := va_S.rf
  have hg0 : yAg S [9, 42, 45, 46, 47, 69] d d := yAg.rf
  have hl : lv_has ls 5 [(0, .ref h0), (1, .int p0), (2, .int p1), (3, .int p2)] := hl
  refine lv_aload_n hx hb dX9_tear_0 rfl (lv_at hl 0 rfl) ?_
  refine lv_iconst (v := 0) hx hb dX9_tear_1 (by decide) ?_
  refine yputI (ci := 9) (k := 38) (ty := .int) (C := RX9) (T := TX9) (N := 67) C0 hK hP hD hS hm_h0 hk_h0 (by decide) rfl inlX9 tyX9 tyX9_ok nmX9 (by decide) mW175 (fun _ h9 => h9) rfl (by decide +kernel) rfl rfl (Nat.le_of_ble_eq_true rfl) ysi_9_38 dX9_tear_2 (fun H locs hP hD hS => ?_)
  obtain ⟨d_1, ed_1⟩ : ∃ z : yD, z = yi d h0 38 0 := ⟨_, rfl⟩
  rw [← ed_1] at hP hD
  have hgd_1 : yAg S [9, 42, 45, 46, 47, 69] d d_1 := by rw [ed_1]; exact yAg.i hg0 (by rw [hk_h0]; decide)
  have hPod_1 : yPo S d_1 := by rw [ed_1]; exact yPo.i hPo hk_h0 (Or.inl rfl)
  have hfd_1 : yK [1, 38] d d_1 h0 := by rw [ed_1]; exact yK.i yK.rf (by decide)
  have hId_1 : yMI S d_1 h0 := yMI.ag hI hSh hm_h0 hk_h0 (show yAg S [9] d d_1 from by rw [ed_1]; exact yAg.i yAg.rf (by rw [hk_h0]; decide)) (show yK [38] d d_1 h0 from by rw [ed_1]; exact yK.i yK.rf (by decide)) (by decide) (by decide)
  have hE0d_1 : (d_1.1 h0 0).toInt = (d.1 h0 0).toInt := congrArg Int32.toInt ((show yK [38] d d_1 h0 from by rw [ed_1]; exact yK.i yK.rf (by decide)) 0 (by decide))
  have hE1d_1 : (d_1.1 h0 1).toInt = (d.1 h0 1).toInt := congrArg Int32.toInt ((show yK [38] d d_1 h0 from by rw [ed_1]; exact yK.i yK.rf (by decide)) 1 (by decide))
  have hE2d_1 : (d_1.1 h0 2).toInt = (d.1 h0 2).toInt := congrArg Int32.toInt ((show yK [38] d d_1 h0 from by rw [ed_1]; exact yK.i yK.rf (by decide)) 2 (by decide))
  have hE3d_1 : (d_1.1 h0 3).toInt = (d.1 h0 3).toInt := congrArg Int32.toInt ((show yK [38] d d_1 h0 from by rw [ed_1]; exact yK.i yK.rf (by decide)) 3 (by decide))
  have hE63d_1 : (d_1.1 h0 63).toInt = (d.1 h0 63).toInt := congrArg Int32.toInt ((show yK [38] d d_1 h0 from by rw [ed_1]; exact yK.i yK.rf (by decide)) 63 (by decide))
  refine lv_iload_n hx hb dX9_tear_5 rfl (lv_at hl 3 rfl) ?_
  refine lv_if_lt (tgt := 16) hx hb dX9_tear_6 (by decide) (fun c_2 => ?_) (fun c_2 => ?_)
  · refine lv_iconst (v := 1) hx hb dX9_tear_16 (by decide) ?_
    refine lv_goto (tgt := 26) hx hb dX9_tear_17 (by decide) ?_
    refine lv_istore (lv' := [(4, .int 1), (0, .ref h0), (1, .int p0), (2, .int p1), (3, .int p2)]) hx hb dX9_tear_26 hl (by decide) rfl (fun ls hl => ?_)
    refine lv_iload hx hb dX9_tear_28 (lv_at hl 0 rfl) ?_
    refine lv_if_ne (tgt := 50) hx hb dX9_tear_30 (by decide) (fun c_3 => ?_) (fun c_3 => absurd c_3 (by decide +kernel))
    refine lv_iload hx hb dX9_tear_50 (lv_at hl 0 rfl) ?_
    refine lv_if_eq (tgt := 62) hx hb dX9_tear_52 (by decide) (fun c_4 => absurd c_4 (by decide +kernel)) (fun c_4 => ?_)
    refine lv_aload_n hx hb dX9_tear_55 rfl (lv_at hl 1 rfl) ?_
    refine lv_iload hx hb dX9_tear_56 (lv_at hl 0 rfl) ?_
    refine yVwi (As := [.int 1]) (rest := []) C0 (g_X9_no l G S d_1 h0 1 hSh hPod_1 hm_h0 hk_h0 (by decide +kernel)) ok_X9_no (mW177 : Cond.methodLink RX9 168 yX9_no ∈ wsT) ⟨Nat.le_of_ble_eq_true rfl, Nat.le_of_ble_eq_true rfl⟩ hP hD hS hA hK hN hm_h0 hk_h0 (by decide) rfl rfl rfl hl.1 rfl (Nat.le_of_ble_eq_true rfl) ⟨Nat.le_of_ble_eq_true rfl, Nat.le_of_ble_eq_true rfl⟩ dX9_tear_58 (fun r_5 d_6 H locs hr_5 hP hD hS => ?_)
    obtain ⟨hgad_6, hpad_6, hfad_6, hxd_6⟩ := hr_5
    have hfd_6 : yK [1, 38] d d_6 h0 := yK.tr hfd_1 hfad_6 (by decide)
    have hE0d_6 : (d_6.1 h0 0).toInt = (d_1.1 h0 0).toInt := congrArg Int32.toInt (hfad_6 0 (by decide))
    have hE1d_6 : (d_6.1 h0 1).toInt = (d_1.1 h0 1).toInt := congrArg Int32.toInt (hfad_6 1 (by decide))
    have hE2d_6 : (d_6.1 h0 2).toInt = (d_1.1 h0 2).toInt := congrArg Int32.toInt (hfad_6 2 (by decide))
    have hE3d_6 : (d_6.1 h0 3).toInt = (d_1.1 h0 3).toInt := congrArg Int32.toInt (hfad_6 3 (by decide))
    have hE63d_6 : (d_6.1 h0 63).toInt = (d_1.1 h0 63).toInt := congrArg Int32.toInt (hfad_6 63 (by decide))
    have hId_6 : yMI S d_6 h0 := yMI.ag hId_1 hSh hm_h0 hk_h0 hgad_6 hfad_6 (by decide) (by decide)
    have hgd_6 : yAg S [9, 42, 45, 46, 47, 69] d d_6 := yAg.tr hgd_1 hgad_6 (by first | decide | exact fun _ h => h)
    have hPod_6 : yPo S d_6 := hpad_6 hPod_1
    exact W.iret (v := r_5) hx hb hr (fun t ht hW => ⟨⟨r_5, d_6, rfl, ⟨hgd_6, (fun _ => hPod_6), hfd_6, hId_6⟩, by rw [ht]; exact hP, hD⟩, hS.F ht⟩) hS.2.2 dX9_tear_61
  · refine lv_iload_n hx hb dX9_tear_9 rfl (lv_at hl 3 rfl) ?_
    refine lv_sipush (v := 1440) hx hb dX9_tear_10 (by decide) ?_
    refine lv_icmp_lt (tgt := 20) hx hb dX9_tear_13 (by decide) (fun c_7 => ?_) (fun c_7 => ?_)
    · refine lv_aload_n hx hb dX9_tear_20 rfl (lv_at hl 0 rfl) ?_
      refine lv_iload_n hx hb dX9_tear_21 rfl (lv_at hl 1 rfl) ?_
      refine lv_iload_n hx hb dX9_tear_22 rfl (lv_at hl 2 rfl) ?_
      refine yVri (As := [.int p0, .int p1]) (rest := []) C0 (g_X9_dayWhy l G S d_1 h0 p0 p1 hSh hm_h0 hk_h0 hId_1) ok_X9_dayWhy (mW450 : Cond.methodLink RX9 206 yX9_dayWhy ∈ wsT) ⟨Nat.le_of_ble_eq_true rfl, Nat.le_of_ble_eq_true rfl⟩ hP hD hK hN hm_h0 hk_h0 (by decide) rfl rfl rfl hl.1 rfl (Nat.le_of_ble_eq_true rfl) ⟨Nat.le_of_ble_eq_true rfl, Nat.le_of_ble_eq_true rfl⟩ dX9_tear_23 (fun r_8 hr_8 => ?_)
      refine lv_istore (lv' := [(4, .int r_8), (0, .ref h0), (1, .int p0), (2, .int p1), (3, .int p2)]) hx hb dX9_tear_26 hl (by decide) rfl (fun ls hl => ?_)
      refine lv_iload hx hb dX9_tear_28 (lv_at hl 0 rfl) ?_
      refine lv_if_ne (tgt := 50) hx hb dX9_tear_30 (by decide) (fun c_9 => ?_) (fun c_9 => ?_)
      · refine lv_iload hx hb dX9_tear_50 (lv_at hl 0 rfl) ?_
        refine lv_if_eq (tgt := 62) hx hb dX9_tear_52 (by decide) (fun c_10 => absurd c_10 c_9) (fun c_10 => ?_)
        refine lv_aload_n hx hb dX9_tear_55 rfl (lv_at hl 1 rfl) ?_
        refine lv_iload hx hb dX9_tear_56 (lv_at hl 0 rfl) ?_
        have F_11 := fnlt (rfl : (p2 : Int32).toInt = (p2 : Int32).toInt) (by decide +kernel : (0 : Int32).toInt = 0) c_2
        have F_12 := flt (rfl : (p2 : Int32).toInt = (p2 : Int32).toInt) (by decide +kernel : (1440 : Int32).toInt = 1440) c_7
        have F_13 := fne (rfl : (r_8 : Int32).toInt = (r_8 : Int32).toInt) (by decide +kernel : (0 : Int32).toInt = 0) c_9
        have F_14 := fne (rfl : (r_8 : Int32).toInt = (r_8 : Int32).toInt) (by decide +kernel : (0 : Int32).toInt = 0) c_10
        refine yVwi (As := [.int r_8]) (rest := []) C0 (g_X9_no l G S d_1 h0 r_8 hSh hPod_1 hm_h0 hk_h0 (by refine ⟨?_, ?_⟩ <;> omega)) ok_X9_no (mW177 : Cond.methodLink RX9 168 yX9_no ∈ wsT) ⟨Nat.le_of_ble_eq_true rfl, Nat.le_of_ble_eq_true rfl⟩ hP hD hS hA hK hN hm_h0 hk_h0 (by decide) rfl rfl rfl hl.1 rfl (Nat.le_of_ble_eq_true rfl) ⟨Nat.le_of_ble_eq_true rfl, Nat.le_of_ble_eq_true rfl⟩ dX9_tear_58 (fun r_15 d_16 H locs hr_15 hP hD hS => ?_)
        obtain ⟨hgad_16, hpad_16, hfad_16, hxd_16⟩ := hr_15
        have hfd_16 : yK [1, 38] d d_16 h0 := yK.tr hfd_1 hfad_16 (by decide)
        have hE0d_16 : (d_16.1 h0 0).toInt = (d_1.1 h0 0).toInt := congrArg Int32.toInt (hfad_16 0 (by decide))
        have hE1d_16 : (d_16.1 h0 1).toInt = (d_1.1 h0 1).toInt := congrArg Int32.toInt (hfad_16 1 (by decide))
        have hE2d_16 : (d_16.1 h0 2).toInt = (d_1.1 h0 2).toInt := congrArg Int32.toInt (hfad_16 2 (by decide))
        have hE3d_16 : (d_16.1 h0 3).toInt = (d_1.1 h0 3).toInt := congrArg Int32.toInt (hfad_16 3 (by decide))
        have hE63d_16 : (d_16.1 h0 63).toInt = (d_1.1 h0 63).toInt := congrArg Int32.toInt (hfad_16 63 (by decide))
        have hId_16 : yMI S d_16 h0 := yMI.ag hId_1 hSh hm_h0 hk_h0 hgad_16 hfad_16 (by decide) (by decide)
        have hgd_16 : yAg S [9, 42, 45, 46, 47, 69] d d_16 := yAg.tr hgd_1 hgad_16 (by first | decide | exact fun _ h => h)
        have hPod_16 : yPo S d_16 := hpad_16 hPod_1
        exact W.iret (v := r_15) hx hb hr (fun t ht hW => ⟨⟨r_15, d_16, rfl, ⟨hgd_16, (fun _ => hPod_16), hfd_16, hId_16⟩, by rw [ht]; exact hP, hD⟩, hS.F ht⟩) hS.2.2 dX9_tear_61
      · refine lv_aload_n hx hb dX9_tear_33 rfl (lv_at hl 1 rfl) ?_
        refine yget (ci := 9) (k := 13) (v := .ref (S.2.2.1 h0 13)) (C := RX9) (T := TX9) (N := 67) C0 hK hP hm_h0 hk_h0 (by decide) rfl inlX9 (by decide) mW120 (fun _ h9 => h9) rfl dX9_tear_34 ?_
        obtain ⟨hmy_17, hky_17⟩ := ySh.f9_13 hSh _ hm_h0 hk_h0
        refine lv_bipush (v := 90) hx hb dX9_tear_37 (by decide) ?_
        refine lv_iload_n hx hb dX9_tear_39 rfl (lv_at hl 2 rfl) ?_
        refine lv_imul hx hb dX9_tear_40 ?_
        refine lv_topi (fun z_18 ez_18 => ?_)
        refine lv_iload_n hx hb dX9_tear_41 rfl (lv_at hl 3 rfl) ?_
        refine lv_iadd hx hb dX9_tear_42 ?_
        refine lv_topi (fun z_19 ez_19 => ?_)
        have hCC_20 := yMI.c hId_1
        have F_21 := fnlt (rfl : (p2 : Int32).toInt = (p2 : Int32).toInt) (by decide +kernel : (0 : Int32).toInt = 0) c_2
        have F_22 := flt (rfl : (p2 : Int32).toInt = (p2 : Int32).toInt) (by decide +kernel : (1440 : Int32).toInt = 1440) c_7
        have F_23 := feq (rfl : (r_8 : Int32).toInt = (r_8 : Int32).toInt) (by decide +kernel : (0 : Int32).toInt = 0) c_9
        have T_25 : (z_18 : Int32).toInt = 90 * (p0 : Int32).toInt := tmul ez_18 (by decide +kernel : (90 : Int32).toInt = 90) (rfl : (p0 : Int32).toInt = (p0 : Int32).toInt) (by omega) (by omega)
        have T_24 : (z_19 : Int32).toInt = (z_18 : Int32).toInt + (p1 : Int32).toInt := tadd ez_19 (rfl : (z_18 : Int32).toInt = (z_18 : Int32).toInt) (rfl : (p1 : Int32).toInt = (p1 : Int32).toInt) (by omega) (by omega)
        refine yaldZ C0 hK hP hmy_17 hky_17 (by decide) rfl 3 rfl (xinT 720 rfl (by omega) (by omega)) dX9_tear_43 ?_
        refine lv_topi (fun z_26 ez_26 => ?_)
        refine lv_if_eq (tgt := 50) hx hb dX9_tear_44 (by decide) (fun c_27 => ?_) (fun c_27 => ?_)
        · refine lv_iload hx hb dX9_tear_50 (lv_at hl 0 rfl) ?_
          refine lv_if_eq (tgt := 62) hx hb dX9_tear_52 (by decide) (fun c_28 => ?_) (fun c_28 => absurd c_9 c_28)
          refine lv_iload_n hx hb dX9_tear_62 rfl (lv_at hl 4 rfl) ?_
          refine lv_aload_n hx hb dX9_tear_63 rfl (lv_at hl 1 rfl) ?_
          refine yget (ci := 9) (k := 12) (v := .ref (S.2.2.1 h0 12)) (C := RX9) (T := TX9) (N := 67) C0 hK hP hm_h0 hk_h0 (by decide) rfl inlX9 (by decide) mW118 (fun _ h9 => h9) rfl dX9_tear_64 ?_
          obtain ⟨hmy_29, hky_29⟩ := ySh.f9_12 hSh _ hm_h0 hk_h0
          refine lv_bipush (v := 90) hx hb dX9_tear_67 (by decide) ?_
          refine lv_iload_n hx hb dX9_tear_69 rfl (lv_at hl 2 rfl) ?_
          refine lv_imul hx hb dX9_tear_70 ?_
          refine lv_topi (fun z_30 ez_30 => ?_)
          refine lv_iload_n hx hb dX9_tear_71 rfl (lv_at hl 3 rfl) ?_
          refine lv_iadd hx hb dX9_tear_72 ?_
          refine lv_topi (fun z_31 ez_31 => ?_)
          have F_33 := feq (rfl : (z_26 : Int32).toInt = (z_26 : Int32).toInt) (by decide +kernel : (0 : Int32).toInt = 0) c_27
          have F_34 := feq (rfl : (r_8 : Int32).toInt = (r_8 : Int32).toInt) (by decide +kernel : (0 : Int32).toInt = 0) c_28
          have T_36 : (z_30 : Int32).toInt = 90 * (p0 : Int32).toInt := tmul ez_30 (by decide +kernel : (90 : Int32).toInt = 90) (rfl : (p0 : Int32).toInt = (p0 : Int32).toInt) (by omega) (by omega)
          have T_35 : (z_31 : Int32).toInt = (z_30 : Int32).toInt + (p1 : Int32).toInt := tadd ez_31 (rfl : (z_30 : Int32).toInt = (z_30 : Int32).toInt) (rfl : (p1 : Int32).toInt = (p1 : Int32).toInt) (by omega) (by omega)
          refine yaldS C0 hK hP hmy_29 hky_29 (by decide) rfl 2 rfl (xinT 720 rfl (by omega) (by omega)) dX9_tear_73 ?_
          refine lv_topi (fun z_37 ez_37 => ?_)
          refine lv_icmp_ge (tgt := 90) hx hb dX9_tear_74 (by decide) (fun c_38 => ?_) (fun c_38 => ?_)
          · refine lv_aload_n hx hb dX9_tear_90 rfl (lv_at hl 1 rfl) ?_
            refine lv_iload_n hx hb dX9_tear_91 rfl (lv_at hl 2 rfl) ?_
            refine lv_sipush (v := 1440) hx hb dX9_tear_92 (by decide) ?_
            refine lv_iload_n hx hb dX9_tear_95 rfl (lv_at hl 3 rfl) ?_
            refine lv_imul hx hb dX9_tear_96 ?_
            refine lv_topi (fun z_39 ez_39 => ?_)
            refine lv_aload_n hx hb dX9_tear_97 rfl (lv_at hl 1 rfl) ?_
            refine yget (ci := 9) (k := 12) (v := .ref (S.2.2.1 h0 12)) (C := RX9) (T := TX9) (N := 67) C0 hK hP hm_h0 hk_h0 (by decide) rfl inlX9 (by decide) mW118 (fun _ h9 => h9) rfl dX9_tear_98 ?_
            refine lv_bipush (v := 90) hx hb dX9_tear_101 (by decide) ?_
            refine lv_iload_n hx hb dX9_tear_103 rfl (lv_at hl 2 rfl) ?_
            refine lv_imul hx hb dX9_tear_104 ?_
            refine lv_topi (fun z_40 ez_40 => ?_)
            refine lv_iload_n hx hb dX9_tear_105 rfl (lv_at hl 3 rfl) ?_
            refine lv_iadd hx hb dX9_tear_106 ?_
            refine lv_topi (fun z_41 ez_41 => ?_)
            have F_43 := fle (rfl : (z_37 : Int32).toInt = (z_37 : Int32).toInt) (rfl : (p2 : Int32).toInt = (p2 : Int32).toInt) c_38
            have T_45 : (z_40 : Int32).toInt = 90 * (p0 : Int32).toInt := tmul ez_40 (by decide +kernel : (90 : Int32).toInt = 90) (rfl : (p0 : Int32).toInt = (p0 : Int32).toInt) (by omega) (by omega)
            have T_44 : (z_41 : Int32).toInt = (z_40 : Int32).toInt + (p1 : Int32).toInt := tadd ez_41 (rfl : (z_40 : Int32).toInt = (z_40 : Int32).toInt) (rfl : (p1 : Int32).toInt = (p1 : Int32).toInt) (by omega) (by omega)
            refine yaldS C0 hK hP hmy_29 hky_29 (by decide) rfl 2 rfl (xinT 720 rfl (by omega) (by omega)) dX9_tear_107 ?_
            refine lv_topi (fun z_46 ez_46 => ?_)
            refine lv_iadd hx hb dX9_tear_108 ?_
            refine lv_topi (fun z_47 ez_47 => ?_)
            refine lv_sipush (v := 1440) hx hb dX9_tear_109 (by decide) ?_
            refine lv_iload_n hx hb dX9_tear_112 rfl (lv_at hl 3 rfl) ?_
            refine lv_imul hx hb dX9_tear_113 ?_
            refine lv_topi (fun z_48 ez_48 => ?_)
            refine lv_sipush (v := 1440) hx hb dX9_tear_114 (by decide) ?_
            refine lv_iadd hx hb dX9_tear_117 ?_
            refine lv_topi (fun z_49 ez_49 => ?_)
            refine yVwi (As := [.int p0, .int z_47, .int z_49]) (rest := []) C0 (g_X9_clear l G S d_1 h0 p0 z_47 z_49 hSh hPod_1 hm_h0 hk_h0 hId_1) ok_X9_clear (mW360 : Cond.methodLink RX9 183 yX9_clear ∈ wsT) ⟨Nat.le_of_ble_eq_true rfl, Nat.le_of_ble_eq_true rfl⟩ hP hD hS hA hK hN hm_h0 hk_h0 (by decide) rfl rfl rfl hl.1 rfl (Nat.le_of_ble_eq_true rfl) ⟨Nat.le_of_ble_eq_true rfl, Nat.le_of_ble_eq_true rfl⟩ dX9_tear_118 (fun r_50 d_51 H locs hr_50 hP hD hS => ?_)
            obtain ⟨hgad_51, hpad_51, hfad_51, hxd_51⟩ := hr_50
            have hfd_51 : yK [1, 38] d d_51 h0 := yK.tr hfd_1 hfad_51 (by decide)
            have hE0d_51 : (d_51.1 h0 0).toInt = (d_1.1 h0 0).toInt := congrArg Int32.toInt (hfad_51 0 (by decide))
            have hE2d_51 : (d_51.1 h0 2).toInt = (d_1.1 h0 2).toInt := congrArg Int32.toInt (hfad_51 2 (by decide))
            have hE3d_51 : (d_51.1 h0 3).toInt = (d_1.1 h0 3).toInt := congrArg Int32.toInt (hfad_51 3 (by decide))
            have hE63d_51 : (d_51.1 h0 63).toInt = (d_1.1 h0 63).toInt := congrArg Int32.toInt (hfad_51 63 (by decide))
            have hId_51 : yMI S d_51 h0 := hxd_51.1
            have hgd_51 : yAg S [9, 42, 45, 46, 47, 69] d d_51 := yAg.tr hgd_1 hgad_51 (by first | decide | exact fun _ h => h)
            have hPod_51 : yPo S d_51 := hpad_51 hPod_1
            exact W.iret (v := r_50) hx hb hr (fun t ht hW => ⟨⟨r_50, d_51, rfl, ⟨hgd_51, (fun _ => hPod_51), hfd_51, hId_51⟩, by rw [ht]; exact hP, hD⟩, hS.F ht⟩) hS.2.2 dX9_tear_121
          · refine lv_aload_n hx hb dX9_tear_77 rfl (lv_at hl 1 rfl) ?_
            refine yget (ci := 9) (k := 12) (v := .ref (S.2.2.1 h0 12)) (C := RX9) (T := TX9) (N := 67) C0 hK hP hm_h0 hk_h0 (by decide) rfl inlX9 (by decide) mW118 (fun _ h9 => h9) rfl dX9_tear_78 ?_
            refine lv_bipush (v := 90) hx hb dX9_tear_81 (by decide) ?_
            refine lv_iload_n hx hb dX9_tear_83 rfl (lv_at hl 2 rfl) ?_
            refine lv_imul hx hb dX9_tear_84 ?_
            refine lv_topi (fun z_52 ez_52 => ?_)
            refine lv_iload_n hx hb dX9_tear_85 rfl (lv_at hl 3 rfl) ?_
            refine lv_iadd hx hb dX9_tear_86 ?_
            refine lv_topi (fun z_53 ez_53 => ?_)
            refine lv_iload_n hx hb dX9_tear_87 rfl (lv_at hl 4 rfl) ?_
            refine lv_i2s hx hb dX9_tear_88 rfl ?_
            refine lv_topi (fun z_54 ez_54 => ?_)
            have F_56 := fnle (rfl : (z_37 : Int32).toInt = (z_37 : Int32).toInt) (rfl : (p2 : Int32).toInt = (p2 : Int32).toInt) c_38
            have T_58 : (z_52 : Int32).toInt = 90 * (p0 : Int32).toInt := tmul ez_52 (by decide +kernel : (90 : Int32).toInt = 90) (rfl : (p0 : Int32).toInt = (p0 : Int32).toInt) (by omega) (by omega)
            have T_57 : (z_53 : Int32).toInt = (z_52 : Int32).toInt + (p1 : Int32).toInt := tadd ez_53 (rfl : (z_52 : Int32).toInt = (z_52 : Int32).toInt) (rfl : (p1 : Int32).toInt = (p1 : Int32).toInt) (by omega) (by omega)
            refine yastS C0 hK hP hD hS hmy_29 hky_29 (by decide) rfl 2 rfl (xinT 720 rfl (by omega) (by omega)) dX9_tear_89 (fun H locs hP hD hS => ?_)
            obtain ⟨d_59, ed_59⟩ : ∃ z : yD, z = ycs d_1 (S.2.2.1 h0 12) (upd (d_1.2.2.2.1 (S.2.2.1 h0 12)) (z_53 : Int32).toNatClampNeg (vp_nar .short z_54)) := ⟨_, rfl⟩
            rw [← ed_59] at hP hD
            have hgd_59 : yAg S [9, 42, 45, 46, 47, 69] d d_59 := by rw [ed_59]; exact yAg.cs hgd_1 (by rw [hky_29]; decide)
            have hPod_59 : yPo S d_59 := by rw [ed_59]; exact hPod_1
            have hfd_59 : yK [1, 38] d d_59 h0 := yK.ag hfd_1 (show yAg S [42] d_1 d_59 from by rw [ed_59]; exact yAg.cs yAg.rf (by rw [hky_29]; decide)) (by rw [hk_h0]; decide)
            have hId_59 : yMI S d_59 h0 := yMI.ag hId_1 hSh hm_h0 hk_h0 (show yAg S [42] d_1 d_59 from by rw [ed_59]; exact yAg.cs yAg.rf (by rw [hky_29]; decide)) (yK.ag (F := []) yK.rf (show yAg S [42] d_1 d_59 from by rw [ed_59]; exact yAg.cs yAg.rf (by rw [hky_29]; decide)) (by rw [hk_h0]; decide)) (by decide) (by decide)
            have hE0d_59 : (d_59.1 h0 0).toInt = (d_1.1 h0 0).toInt := congrArg Int32.toInt ((yK.ag (F := []) yK.rf (show yAg S [42] d_1 d_59 from by rw [ed_59]; exact yAg.cs yAg.rf (by rw [hky_29]; decide)) (by rw [hk_h0]; decide)) 0 (by decide))
            have hE1d_59 : (d_59.1 h0 1).toInt = (d_1.1 h0 1).toInt := congrArg Int32.toInt ((yK.ag (F := []) yK.rf (show yAg S [42] d_1 d_59 from by rw [ed_59]; exact yAg.cs yAg.rf (by rw [hky_29]; decide)) (by rw [hk_h0]; decide)) 1 (by decide))
            have hE2d_59 : (d_59.1 h0 2).toInt = (d_1.1 h0 2).toInt := congrArg Int32.toInt ((yK.ag (F := []) yK.rf (show yAg S [42] d_1 d_59 from by rw [ed_59]; exact yAg.cs yAg.rf (by rw [hky_29]; decide)) (by rw [hk_h0]; decide)) 2 (by decide))
            have hE3d_59 : (d_59.1 h0 3).toInt = (d_1.1 h0 3).toInt := congrArg Int32.toInt ((yK.ag (F := []) yK.rf (show yAg S [42] d_1 d_59 from by rw [ed_59]; exact yAg.cs yAg.rf (by rw [hky_29]; decide)) (by rw [hk_h0]; decide)) 3 (by decide))
            have hE63d_59 : (d_59.1 h0 63).toInt = (d_1.1 h0 63).toInt := congrArg Int32.toInt ((yK.ag (F := []) yK.rf (show yAg S [42] d_1 d_59 from by rw [ed_59]; exact yAg.cs yAg.rf (by rw [hky_29]; decide)) (by rw [hk_h0]; decide)) 63 (by decide))
            refine lv_aload_n hx hb dX9_tear_90 rfl (lv_at hl 1 rfl) ?_
            refine lv_iload_n hx hb dX9_tear_91 rfl (lv_at hl 2 rfl) ?_
            refine lv_sipush (v := 1440) hx hb dX9_tear_92 (by decide) ?_
            refine lv_iload_n hx hb dX9_tear_95 rfl (lv_at hl 3 rfl) ?_
            refine lv_imul hx hb dX9_tear_96 ?_
            refine lv_topi (fun z_60 ez_60 => ?_)
            refine lv_aload_n hx hb dX9_tear_97 rfl (lv_at hl 1 rfl) ?_
            refine yget (ci := 9) (k := 12) (v := .ref (S.2.2.1 h0 12)) (C := RX9) (T := TX9) (N := 67) C0 hK hP hm_h0 hk_h0 (by decide) rfl inlX9 (by decide) mW118 (fun _ h9 => h9) rfl dX9_tear_98 ?_
            refine lv_bipush (v := 90) hx hb dX9_tear_101 (by decide) ?_
            refine lv_iload_n hx hb dX9_tear_103 rfl (lv_at hl 2 rfl) ?_
            refine lv_imul hx hb dX9_tear_104 ?_
            refine lv_topi (fun z_61 ez_61 => ?_)
            refine lv_iload_n hx hb dX9_tear_105 rfl (lv_at hl 3 rfl) ?_
            refine lv_iadd hx hb dX9_tear_106 ?_
            refine lv_topi (fun z_62 ez_62 => ?_)
            have hCC_63 := yMI.c hId_59
            have T_65 : (z_61 : Int32).toInt = 90 * (p0 : Int32).toInt := tmul ez_61 (by decide +kernel : (90 : Int32).toInt = 90) (rfl : (p0 : Int32).toInt = (p0 : Int32).toInt) (by omega) (by omega)
            have T_64 : (z_62 : Int32).toInt = (z_61 : Int32).toInt + (p1 : Int32).toInt := tadd ez_62 (rfl : (z_61 : Int32).toInt = (z_61 : Int32).toInt) (rfl : (p1 : Int32).toInt = (p1 : Int32).toInt) (by omega) (by omega)
            refine yaldS C0 hK hP hmy_29 hky_29 (by decide) rfl 2 rfl (xinT 720 rfl (by omega) (by omega)) dX9_tear_107 ?_
            refine lv_topi (fun z_66 ez_66 => ?_)
            refine lv_iadd hx hb dX9_tear_108 ?_
            refine lv_topi (fun z_67 ez_67 => ?_)
            refine lv_sipush (v := 1440) hx hb dX9_tear_109 (by decide) ?_
            refine lv_iload_n hx hb dX9_tear_112 rfl (lv_at hl 3 rfl) ?_
            refine lv_imul hx hb dX9_tear_113 ?_
            refine lv_topi (fun z_68 ez_68 => ?_)
            refine lv_sipush (v := 1440) hx hb dX9_tear_114 (by decide) ?_
            refine lv_iadd hx hb dX9_tear_117 ?_
            refine lv_topi (fun z_69 ez_69 => ?_)
            refine yVwi (As := [.int p0, .int z_67, .int z_69]) (rest := []) C0 (g_X9_clear l G S d_59 h0 p0 z_67 z_69 hSh hPod_59 hm_h0 hk_h0 hId_59) ok_X9_clear (mW360 : Cond.methodLink RX9 183 yX9_clear ∈ wsT) ⟨Nat.le_of_ble_eq_true rfl, Nat.le_of_ble_eq_true rfl⟩ hP hD hS hA hK hN hm_h0 hk_h0 (by decide) rfl rfl rfl hl.1 rfl (Nat.le_of_ble_eq_true rfl) ⟨Nat.le_of_ble_eq_true rfl, Nat.le_of_ble_eq_true rfl⟩ dX9_tear_118 (fun r_70 d_71 H locs hr_70 hP hD hS => ?_)
            obtain ⟨hgad_71, hpad_71, hfad_71, hxd_71⟩ := hr_70
            have hfd_71 : yK [1, 38] d d_71 h0 := yK.tr hfd_59 hfad_71 (by decide)
            have hE0d_71 : (d_71.1 h0 0).toInt = (d_59.1 h0 0).toInt := congrArg Int32.toInt (hfad_71 0 (by decide))
            have hE2d_71 : (d_71.1 h0 2).toInt = (d_59.1 h0 2).toInt := congrArg Int32.toInt (hfad_71 2 (by decide))
            have hE3d_71 : (d_71.1 h0 3).toInt = (d_59.1 h0 3).toInt := congrArg Int32.toInt (hfad_71 3 (by decide))
            have hE63d_71 : (d_71.1 h0 63).toInt = (d_59.1 h0 63).toInt := congrArg Int32.toInt (hfad_71 63 (by decide))
            have hId_71 : yMI S d_71 h0 := hxd_71.1
            have hgd_71 : yAg S [9, 42, 45, 46, 47, 69] d d_71 := yAg.tr hgd_59 hgad_71 (by first | decide | exact fun _ h => h)
            have hPod_71 : yPo S d_71 := hpad_71 hPod_59
            exact W.iret (v := r_70) hx hb hr (fun t ht hW => ⟨⟨r_70, d_71, rfl, ⟨hgd_71, (fun _ => hPod_71), hfd_71, hId_71⟩, by rw [ht]; exact hP, hD⟩, hS.F ht⟩) hS.2.2 dX9_tear_121
        · refine lv_iconst (v := 2) hx hb dX9_tear_47 (by decide) ?_
          refine lv_istore (lv' := [(4, .int 2), (0, .ref h0), (1, .int p0), (2, .int p1), (3, .int p2)]) hx hb dX9_tear_48 hl (by decide) rfl (fun ls hl => ?_)
          refine lv_iload hx hb dX9_tear_50 (lv_at hl 0 rfl) ?_
          refine lv_if_eq (tgt := 62) hx hb dX9_tear_52 (by decide) (fun c_72 => absurd c_72 (by decide +kernel)) (fun c_72 => ?_)
          refine lv_aload_n hx hb dX9_tear_55 rfl (lv_at hl 1 rfl) ?_
          refine lv_iload hx hb dX9_tear_56 (lv_at hl 0 rfl) ?_
          refine yVwi (As := [.int 2]) (rest := []) C0 (g_X9_no l G S d_1 h0 2 hSh hPod_1 hm_h0 hk_h0 (by decide +kernel)) ok_X9_no (mW177 : Cond.methodLink RX9 168 yX9_no ∈ wsT) ⟨Nat.le_of_ble_eq_true rfl, Nat.le_of_ble_eq_true rfl⟩ hP hD hS hA hK hN hm_h0 hk_h0 (by decide) rfl rfl rfl hl.1 rfl (Nat.le_of_ble_eq_true rfl) ⟨Nat.le_of_ble_eq_true rfl, Nat.le_of_ble_eq_true rfl⟩ dX9_tear_58 (fun r_73 d_74 H locs hr_73 hP hD hS => ?_)
          obtain ⟨hgad_74, hpad_74, hfad_74, hxd_74⟩ := hr_73
          have hfd_74 : yK [1, 38] d d_74 h0 := yK.tr hfd_1 hfad_74 (by decide)
          have hE0d_74 : (d_74.1 h0 0).toInt = (d_1.1 h0 0).toInt := congrArg Int32.toInt (hfad_74 0 (by decide))
          have hE1d_74 : (d_74.1 h0 1).toInt = (d_1.1 h0 1).toInt := congrArg Int32.toInt (hfad_74 1 (by decide))
          have hE2d_74 : (d_74.1 h0 2).toInt = (d_1.1 h0 2).toInt := congrArg Int32.toInt (hfad_74 2 (by decide))
          have hE3d_74 : (d_74.1 h0 3).toInt = (d_1.1 h0 3).toInt := congrArg Int32.toInt (hfad_74 3 (by decide))
          have hE63d_74 : (d_74.1 h0 63).toInt = (d_1.1 h0 63).toInt := congrArg Int32.toInt (hfad_74 63 (by decide))
          have hId_74 : yMI S d_74 h0 := yMI.ag hId_1 hSh hm_h0 hk_h0 hgad_74 hfad_74 (by decide) (by decide)
          have hgd_74 : yAg S [9, 42, 45, 46, 47, 69] d d_74 := yAg.tr hgd_1 hgad_74 (by first | decide | exact fun _ h => h)
          have hPod_74 : yPo S d_74 := hpad_74 hPod_1
          exact W.iret (v := r_73) hx hb hr (fun t ht hW => ⟨⟨r_73, d_74, rfl, ⟨hgd_74, (fun _ => hPod_74), hfd_74, hId_74⟩, by rw [ht]; exact hP, hD⟩, hS.F ht⟩) hS.2.2 dX9_tear_61
    · refine lv_iconst (v := 1) hx hb dX9_tear_16 (by decide) ?_
      refine lv_goto (tgt := 26) hx hb dX9_tear_17 (by decide) ?_
      refine lv_istore (lv' := [(4, .int 1), (0, .ref h0), (1, .int p0), (2, .int p1), (3, .int p2)]) hx hb dX9_tear_26 hl (by decide) rfl (fun ls hl => ?_)
      refine lv_iload hx hb dX9_tear_28 (lv_at hl 0 rfl) ?_
      refine lv_if_ne (tgt := 50) hx hb dX9_tear_30 (by decide) (fun c_75 => ?_) (fun c_75 => absurd c_75 (by decide +kernel))
      refine lv_iload hx hb dX9_tear_50 (lv_at hl 0 rfl) ?_
      refine lv_if_eq (tgt := 62) hx hb dX9_tear_52 (by decide) (fun c_76 => absurd c_76 (by decide +kernel)) (fun c_76 => ?_)
      refine lv_aload_n hx hb dX9_tear_55 rfl (lv_at hl 1 rfl) ?_
      refine lv_iload hx hb dX9_tear_56 (lv_at hl 0 rfl) ?_
      refine yVwi (As := [.int 1]) (rest := []) C0 (g_X9_no l G S d_1 h0 1 hSh hPod_1 hm_h0 hk_h0 (by decide +kernel)) ok_X9_no (mW177 : Cond.methodLink RX9 168 yX9_no ∈ wsT) ⟨Nat.le_of_ble_eq_true rfl, Nat.le_of_ble_eq_true rfl⟩ hP hD hS hA hK hN hm_h0 hk_h0 (by decide) rfl rfl rfl hl.1 rfl (Nat.le_of_ble_eq_true rfl) ⟨Nat.le_of_ble_eq_true rfl, Nat.le_of_ble_eq_true rfl⟩ dX9_tear_58 (fun r_77 d_78 H locs hr_77 hP hD hS => ?_)
      obtain ⟨hgad_78, hpad_78, hfad_78, hxd_78⟩ := hr_77
      have hfd_78 : yK [1, 38] d d_78 h0 := yK.tr hfd_1 hfad_78 (by decide)
      have hE0d_78 : (d_78.1 h0 0).toInt = (d_1.1 h0 0).toInt := congrArg Int32.toInt (hfad_78 0 (by decide))
      have hE1d_78 : (d_78.1 h0 1).toInt = (d_1.1 h0 1).toInt := congrArg Int32.toInt (hfad_78 1 (by decide))
      have hE2d_78 : (d_78.1 h0 2).toInt = (d_1.1 h0 2).toInt := congrArg Int32.toInt (hfad_78 2 (by decide))
      have hE3d_78 : (d_78.1 h0 3).toInt = (d_1.1 h0 3).toInt := congrArg Int32.toInt (hfad_78 3 (by decide))
      have hE63d_78 : (d_78.1 h0 63).toInt = (d_1.1 h0 63).toInt := congrArg Int32.toInt (hfad_78 63 (by decide))
      have hId_78 : yMI S d_78 h0 := yMI.ag hId_1 hSh hm_h0 hk_h0 hgad_78 hfad_78 (by decide) (by decide)
      have hgd_78 : yAg S [9, 42, 45, 46, 47, 69] d d_78 := yAg.tr hgd_1 hgad_78 (by first | decide | exact fun _ h => h)
      have hPod_78 : yPo S d_78 := hpad_78 hPod_1
      exact W.iret (v := r_77) hx hb hr (fun t ht hW => ⟨⟨r_77, d_78, rfl, ⟨hgd_78, (fun _ => hPod_78), hfd_78, hId_78⟩, by rw [ht]; exact hP, hD⟩, hS.F ht⟩) hS.2.2 dX9_tear_61
theorem dX9_port_0 : decode cX9_port 0 = .ok (.aload_n 0, 1) := by decide +kernel
theorem dX9_port_1 : decode cX9_port 1 = .ok (.iconst 0, 1) := by decide +kernel
theorem dX9_port_2 : decode cX9_port 2 = .ok (.putfield 147, 3) := by decide +kernel
theorem dX9_port_5 : decode cX9_port 5 = .ok (.iload_n 1, 1) := by decide +kernel
theorem dX9_port_6 : decode cX9_port 6 = .ok (.ifCond .lt 20, 3) := by decide +kernel
theorem dX9_port_9 : decode cX9_port 9 = .ok (.iload_n 1, 1) := by decide +kernel
theorem dX9_port_10 : decode cX9_port 10 = .ok (.bipush 8, 2) := by decide +kernel
theorem dX9_port_12 : decode cX9_port 12 = .ok (.if_icmp .ge 14, 3) := by decide +kernel
theorem dX9_port_15 : decode cX9_port 15 = .ok (.iload_n 3, 1) := by decide +kernel
theorem dX9_port_16 : decode cX9_port 16 = .ok (.iconst 1, 1) := by decide +kernel
theorem dX9_port_17 : decode cX9_port 17 = .ok (.if_icmp .lt 9, 3) := by decide +kernel
theorem dX9_port_20 : decode cX9_port 20 = .ok (.iload_n 3, 1) := by decide +kernel
theorem dX9_port_21 : decode cX9_port 21 = .ok (.bipush 90, 2) := by decide +kernel
theorem dX9_port_23 : decode cX9_port 23 = .ok (.if_icmp .le 7, 3) := by decide +kernel
theorem dX9_port_26 : decode cX9_port 26 = .ok (.iconst 1, 1) := by decide +kernel
theorem dX9_port_27 : decode cX9_port 27 = .ok (.goto 8, 3) := by decide +kernel
theorem dX9_port_30 : decode cX9_port 30 = .ok (.aload_n 0, 1) := by decide +kernel
theorem dX9_port_31 : decode cX9_port 31 = .ok (.iload_n 2, 1) := by decide +kernel
theorem dX9_port_32 : decode cX9_port 32 = .ok (.invokevirtual 153, 3) := by decide +kernel
theorem dX9_port_35 : decode cX9_port 35 = .ok (.istore 4, 2) := by decide +kernel
theorem dX9_port_37 : decode cX9_port 37 = .ok (.iload 4, 2) := by decide +kernel
theorem dX9_port_39 : decode cX9_port 39 = .ok (.ifCond .eq 12, 3) := by decide +kernel
theorem dX9_port_42 : decode cX9_port 42 = .ok (.aload_n 0, 1) := by decide +kernel
theorem dX9_port_43 : decode cX9_port 43 = .ok (.iload 4, 2) := by decide +kernel
theorem dX9_port_45 : decode cX9_port 45 = .ok (.invokevirtual 168, 3) := by decide +kernel
theorem dX9_port_48 : decode cX9_port 48 = .ok (.pop, 1) := by decide +kernel
theorem dX9_port_49 : decode cX9_port 49 = .ok (.iconst 0, 1) := by decide +kernel
theorem dX9_port_50 : decode cX9_port 50 = .ok (.ireturn, 1) := by decide +kernel
theorem dX9_port_51 : decode cX9_port 51 = .ok (.aload_n 0, 1) := by decide +kernel
theorem dX9_port_52 : decode cX9_port 52 = .ok (.iload_n 1, 1) := by decide +kernel
theorem dX9_port_53 : decode cX9_port 53 = .ok (.iconst 0, 1) := by decide +kernel
theorem dX9_port_54 : decode cX9_port 54 = .ok (.ldc 174, 2) := by decide +kernel
theorem dX9_port_56 : decode cX9_port 56 = .ok (.invokevirtual 183, 3) := by decide +kernel
theorem dX9_port_59 : decode cX9_port 59 = .ok (.pop, 1) := by decide +kernel
theorem dX9_port_60 : decode cX9_port 60 = .ok (.iconst 0, 1) := by decide +kernel
theorem dX9_port_61 : decode cX9_port 61 = .ok (.istore 5, 2) := by decide +kernel
theorem dX9_port_63 : decode cX9_port 63 = .ok (.iload 5, 2) := by decide +kernel
theorem dX9_port_65 : decode cX9_port 65 = .ok (.bipush 12, 2) := by decide +kernel
theorem dX9_port_67 : decode cX9_port 67 = .ok (.if_icmp .ge 22, 3) := by decide +kernel
theorem dX9_port_70 : decode cX9_port 70 = .ok (.aload_n 0, 1) := by decide +kernel
theorem dX9_port_71 : decode cX9_port 71 = .ok (.getfield 36, 3) := by decide +kernel
theorem dX9_port_74 : decode cX9_port 74 = .ok (.bipush 12, 2) := by decide +kernel
theorem dX9_port_76 : decode cX9_port 76 = .ok (.iload_n 1, 1) := by decide +kernel
theorem dX9_port_77 : decode cX9_port 77 = .ok (.imul, 1) := by decide +kernel
theorem dX9_port_78 : decode cX9_port 78 = .ok (.iload 5, 2) := by decide +kernel
theorem dX9_port_80 : decode cX9_port 80 = .ok (.iadd, 1) := by decide +kernel
theorem dX9_port_81 : decode cX9_port 81 = .ok (.lconst 0, 1) := by decide +kernel
theorem dX9_port_82 : decode cX9_port 82 = .ok (.lastore, 1) := by decide +kernel
theorem dX9_port_83 : decode cX9_port 83 = .ok (.iinc 5 1, 3) := by decide +kernel
theorem dX9_port_86 : decode cX9_port 86 = .ok (.goto (-23), 3) := by decide +kernel
theorem dX9_port_89 : decode cX9_port 89 = .ok (.aload_n 0, 1) := by decide +kernel
theorem dX9_port_90 : decode cX9_port 90 = .ok (.getfield 36, 3) := by decide +kernel
theorem dX9_port_93 : decode cX9_port 93 = .ok (.bipush 12, 2) := by decide +kernel
theorem dX9_port_95 : decode cX9_port 95 = .ok (.iload_n 1, 1) := by decide +kernel
theorem dX9_port_96 : decode cX9_port 96 = .ok (.imul, 1) := by decide +kernel
theorem dX9_port_97 : decode cX9_port 97 = .ok (.lconst 1, 1) := by decide +kernel
theorem dX9_port_98 : decode cX9_port 98 = .ok (.lastore, 1) := by decide +kernel
theorem dX9_port_99 : decode cX9_port 99 = .ok (.aload_n 0, 1) := by decide +kernel
theorem dX9_port_100 : decode cX9_port 100 = .ok (.getfield 36, 3) := by decide +kernel
theorem dX9_port_103 : decode cX9_port 103 = .ok (.bipush 12, 2) := by decide +kernel
theorem dX9_port_105 : decode cX9_port 105 = .ok (.iload_n 1, 1) := by decide +kernel
theorem dX9_port_106 : decode cX9_port 106 = .ok (.imul, 1) := by decide +kernel
theorem dX9_port_107 : decode cX9_port 107 = .ok (.iconst 1, 1) := by decide +kernel
theorem dX9_port_108 : decode cX9_port 108 = .ok (.iadd, 1) := by decide +kernel
theorem dX9_port_109 : decode cX9_port 109 = .ok (.iload_n 2, 1) := by decide +kernel
theorem dX9_port_110 : decode cX9_port 110 = .ok (.i2l, 1) := by decide +kernel
theorem dX9_port_111 : decode cX9_port 111 = .ok (.lastore, 1) := by decide +kernel
theorem dX9_port_112 : decode cX9_port 112 = .ok (.aload_n 0, 1) := by decide +kernel
theorem dX9_port_113 : decode cX9_port 113 = .ok (.getfield 36, 3) := by decide +kernel
theorem dX9_port_116 : decode cX9_port 116 = .ok (.bipush 12, 2) := by decide +kernel
theorem dX9_port_118 : decode cX9_port 118 = .ok (.iload_n 1, 1) := by decide +kernel
theorem dX9_port_119 : decode cX9_port 119 = .ok (.imul, 1) := by decide +kernel
theorem dX9_port_120 : decode cX9_port 120 = .ok (.iconst 2, 1) := by decide +kernel
theorem dX9_port_121 : decode cX9_port 121 = .ok (.iadd, 1) := by decide +kernel
theorem dX9_port_122 : decode cX9_port 122 = .ok (.iload_n 3, 1) := by decide +kernel
theorem dX9_port_123 : decode cX9_port 123 = .ok (.i2l, 1) := by decide +kernel
theorem dX9_port_124 : decode cX9_port 124 = .ok (.lastore, 1) := by decide +kernel
theorem dX9_port_125 : decode cX9_port 125 = .ok (.aload_n 0, 1) := by decide +kernel
theorem dX9_port_126 : decode cX9_port 126 = .ok (.getfield 36, 3) := by decide +kernel
theorem dX9_port_129 : decode cX9_port 129 = .ok (.bipush 12, 2) := by decide +kernel
theorem dX9_port_131 : decode cX9_port 131 = .ok (.iload_n 1, 1) := by decide +kernel
theorem dX9_port_132 : decode cX9_port 132 = .ok (.imul, 1) := by decide +kernel
theorem dX9_port_133 : decode cX9_port 133 = .ok (.iconst 5, 1) := by decide +kernel
theorem dX9_port_134 : decode cX9_port 134 = .ok (.iadd, 1) := by decide +kernel
theorem dX9_port_135 : decode cX9_port 135 = .ok (.ldc2_w 187, 3) := by decide +kernel
theorem dX9_port_138 : decode cX9_port 138 = .ok (.lastore, 1) := by decide +kernel
theorem dX9_port_139 : decode cX9_port 139 = .ok (.aload_n 0, 1) := by decide +kernel
theorem dX9_port_140 : decode cX9_port 140 = .ok (.getfield 36, 3) := by decide +kernel
theorem dX9_port_143 : decode cX9_port 143 = .ok (.bipush 12, 2) := by decide +kernel
theorem dX9_port_145 : decode cX9_port 145 = .ok (.iload_n 1, 1) := by decide +kernel
theorem dX9_port_146 : decode cX9_port 146 = .ok (.imul, 1) := by decide +kernel
theorem dX9_port_147 : decode cX9_port 147 = .ok (.bipush 10, 2) := by decide +kernel
theorem dX9_port_149 : decode cX9_port 149 = .ok (.iadd, 1) := by decide +kernel
theorem dX9_port_150 : decode cX9_port 150 = .ok (.lconst 1, 1) := by decide +kernel
theorem dX9_port_151 : decode cX9_port 151 = .ok (.iload_n 1, 1) := by decide +kernel
theorem dX9_port_152 : decode cX9_port 152 = .ok (.lshl, 1) := by decide +kernel
theorem dX9_port_153 : decode cX9_port 153 = .ok (.lastore, 1) := by decide +kernel
theorem dX9_port_154 : decode cX9_port 154 = .ok (.aload_n 0, 1) := by decide +kernel
theorem dX9_port_155 : decode cX9_port 155 = .ok (.iload_n 1, 1) := by decide +kernel
theorem dX9_port_156 : decode cX9_port 156 = .ok (.invokevirtual 189, 3) := by decide +kernel
theorem dX9_port_159 : decode cX9_port 159 = .ok (.iconst 0, 1) := by decide +kernel
theorem dX9_port_160 : decode cX9_port 160 = .ok (.istore 5, 2) := by decide +kernel
theorem dX9_port_162 : decode cX9_port 162 = .ok (.iload 5, 2) := by decide +kernel
theorem dX9_port_164 : decode cX9_port 164 = .ok (.bipush 90, 2) := by decide +kernel
theorem dX9_port_166 : decode cX9_port 166 = .ok (.if_icmp .ge 50, 3) := by decide +kernel
theorem dX9_port_169 : decode cX9_port 169 = .ok (.aload_n 0, 1) := by decide +kernel
theorem dX9_port_170 : decode cX9_port 170 = .ok (.getfield 40, 3) := by decide +kernel
theorem dX9_port_173 : decode cX9_port 173 = .ok (.bipush 90, 2) := by decide +kernel
theorem dX9_port_175 : decode cX9_port 175 = .ok (.iload_n 1, 1) := by decide +kernel
theorem dX9_port_176 : decode cX9_port 176 = .ok (.imul, 1) := by decide +kernel
theorem dX9_port_177 : decode cX9_port 177 = .ok (.iload 5, 2) := by decide +kernel
theorem dX9_port_179 : decode cX9_port 179 = .ok (.iadd, 1) := by decide +kernel
theorem dX9_port_180 : decode cX9_port 180 = .ok (.sipush 1440, 3) := by decide +kernel
theorem dX9_port_183 : decode cX9_port 183 = .ok (.sastore, 1) := by decide +kernel
theorem dX9_port_184 : decode cX9_port 184 = .ok (.aload_n 0, 1) := by decide +kernel
theorem dX9_port_185 : decode cX9_port 185 = .ok (.getfield 44, 3) := by decide +kernel
theorem dX9_port_188 : decode cX9_port 188 = .ok (.bipush 90, 2) := by decide +kernel
theorem dX9_port_190 : decode cX9_port 190 = .ok (.iload_n 1, 1) := by decide +kernel
theorem dX9_port_191 : decode cX9_port 191 = .ok (.imul, 1) := by decide +kernel
theorem dX9_port_192 : decode cX9_port 192 = .ok (.iload 5, 2) := by decide +kernel
theorem dX9_port_194 : decode cX9_port 194 = .ok (.iadd, 1) := by decide +kernel
theorem dX9_port_195 : decode cX9_port 195 = .ok (.iconst 0, 1) := by decide +kernel
theorem dX9_port_196 : decode cX9_port 196 = .ok (.bastore, 1) := by decide +kernel
theorem dX9_port_197 : decode cX9_port 197 = .ok (.aload_n 0, 1) := by decide +kernel
theorem dX9_port_198 : decode cX9_port 198 = .ok (.getfield 48, 3) := by decide +kernel
theorem dX9_port_201 : decode cX9_port 201 = .ok (.bipush 90, 2) := by decide +kernel
theorem dX9_port_203 : decode cX9_port 203 = .ok (.iload_n 1, 1) := by decide +kernel
theorem dX9_port_204 : decode cX9_port 204 = .ok (.imul, 1) := by decide +kernel
theorem dX9_port_205 : decode cX9_port 205 = .ok (.iload 5, 2) := by decide +kernel
theorem dX9_port_207 : decode cX9_port 207 = .ok (.iadd, 1) := by decide +kernel
theorem dX9_port_208 : decode cX9_port 208 = .ok (.iconst 0, 1) := by decide +kernel
theorem dX9_port_209 : decode cX9_port 209 = .ok (.bastore, 1) := by decide +kernel
theorem dX9_port_210 : decode cX9_port 210 = .ok (.iinc 5 1, 3) := by decide +kernel
theorem dX9_port_213 : decode cX9_port 213 = .ok (.goto (-51), 3) := by decide +kernel
theorem dX9_port_216 : decode cX9_port 216 = .ok (.iconst 1, 1) := by decide +kernel
theorem dX9_port_217 : decode cX9_port 217 = .ok (.ireturn, 1) := by decide +kernel
set_option maxHeartbeats 4000000 in
set_option maxRecDepth 100000 in
theorem g_X9_port (l : Launch) (G : xG) (S : yS) (d : yD) (h0 : Nat) (p0 : Int32) (p1 : Int32) (p2 : Int32) (hSh : ySh S) (hPo : yPo S d) (hm_h0 : h0 ∈ S.1) (hk_h0 : S.2.1 h0 = 9) (hI : yMI S d h0) : xWi l G yX9_port cX9_port 6 (some .boolean) 1 26 0 0 [.ref h0, .int p0, .int p1, .int p2] (yW G S d) (fun r (u : yD) => yAg S [9, 41, 42, 43, 44, 45, 46, 47, 69] d u ∧ (yPo S d → yPo S u) ∧ yK [1, 38] d u h0 ∧ (yMI S u h0)) (fun u => yW G S u) := by
  intro sz
  refine xstart (by decide) (Nat.le_of_ble_eq_true rfl) (fun p e s m args below meth c ls C0 hr hlocks hin hsz hP hK hD hN hl => ?_)
  obtain ⟨hx, hb, hml, hown, htl⟩ := id C0
  subst hsz
  have hD := hD.self (sz := s.heap.size)
  generalize hAe : va_A (yW G S d) s.heap.size = A at hD ⊢
  have hA : ∀ q : Nat, s.heap.size ≤ q → A q := fun q h => by rw [← hAe]; exact Or.inr h
  have hS : va_S A s.heap s.heap [] := va_S.rf
  have hg0 : yAg S [9, 41, 42, 43, 44, 45, 46, 47, 69] d d := yAg.rf
  have hl : lv_has ls 6 [(0, .ref h0), (1, .int p0), (2, .int p1), (3, .int p2)] := hl
  refine lv_aload_n hx hb dX9_port_0 rfl (lv_at hl 0 rfl) ?_
  refine lv_iconst (v := 0) hx hb dX9_port_1 (by decide) ?_
  refine yputI (ci := 9) (k := 38) (ty := .int) (C := RX9) (T := TX9) (N := 67) C0 hK hP hD hS hm_h0 hk_h0 (by decide) rfl inlX9 tyX9 tyX9_ok nmX9 (by decide) mW175 (fun _ h9 => h9) rfl (by decide +kernel) rfl rfl (Nat.le_of_ble_eq_true rfl) ysi_9_38 dX9_port_2 (fun H locs hP hD hS => ?_)
  obtain ⟨d_1, ed_1⟩ : ∃ z : yD, z = yi d h0 38 0 := ⟨_, rfl⟩
  rw [← ed_1] at hP hD
  have hgd_1 : yAg S [9, 41, 42, 43, 44, 45, 46, 47, 69] d d_1 := by rw [ed_1]; exact yAg.i hg0 (by rw [hk_h0]; decide)
  have hPod_1 : yPo S d_1 := by rw [ed_1]; exact yPo.i hPo hk_h0 (Or.inl rfl)
  have hfd_1 : yK [1, 38] d d_1 h0 := by rw [ed_1]; exact yK.i yK.rf (by decide)
  have hId_1 : yMI S d_1 h0 := yMI.ag hI hSh hm_h0 hk_h0 (show yAg S [9] d d_1 from by rw [ed_1]; exact yAg.i yAg.rf (by rw [hk_h0]; decide)) (show yK [38] d d_1 h0 from by rw [ed_1]; exact yK.i yK.rf (by decide)) (by decide) (by decide)
  have hE0d_1 : (d_1.1 h0 0).toInt = (d.1 h0 0).toInt := congrArg Int32.toInt ((show yK [38] d d_1 h0 from by rw [ed_1]; exact yK.i yK.rf (by decide)) 0 (by decide))
  have hE1d_1 : (d_1.1 h0 1).toInt = (d.1 h0 1).toInt := congrArg Int32.toInt ((show yK [38] d d_1 h0 from by rw [ed_1]; exact yK.i yK.rf (by decide)) 1 (by decide))
  have hE2d_1 : (d_1.1 h0 2).toInt = (d.1 h0 2).toInt := congrArg Int32.toInt ((show yK [38] d d_1 h0 from by rw [ed_1]; exact yK.i yK.rf (by decide)) 2 (by decide))
  have hE3d_1 : (d_1.1 h0 3).toInt = (d.1 h0 3).toInt := congrArg Int32.toInt ((show yK [38] d d_1 h0 from by rw [ed_1]; exact yK.i yK.rf (by decide)) 3 (by decide))
  have hE63d_1 : (d_1.1 h0 63).toInt = (d.1 h0 63).toInt := congrArg Int32.toInt ((show yK [38] d d_1 h0 from by rw [ed_1]; exact yK.i yK.rf (by decide)) 63 (by decide))
  refine lv_iload_n hx hb dX9_port_5 rfl (lv_at hl 1 rfl) ?_
  refine lv_if_lt (tgt := 26) hx hb dX9_port_6 (by decide) (fun c_2 => ?_) (fun c_2 => ?_)
  · refine lv_iconst (v := 1) hx hb dX9_port_26 (by decide) ?_
    refine lv_goto (tgt := 35) hx hb dX9_port_27 (by decide) ?_
    refine lv_istore (lv' := [(4, .int 1), (0, .ref h0), (1, .int p0), (2, .int p1), (3, .int p2)]) hx hb dX9_port_35 hl (by decide) rfl (fun ls hl => ?_)
    refine lv_iload hx hb dX9_port_37 (lv_at hl 0 rfl) ?_
    refine lv_if_eq (tgt := 51) hx hb dX9_port_39 (by decide) (fun c_3 => absurd c_3 (by decide +kernel)) (fun c_3 => ?_)
    refine lv_aload_n hx hb dX9_port_42 rfl (lv_at hl 1 rfl) ?_
    refine lv_iload hx hb dX9_port_43 (lv_at hl 0 rfl) ?_
    refine yVwi (As := [.int 1]) (rest := []) C0 (g_X9_no l G S d_1 h0 1 hSh hPod_1 hm_h0 hk_h0 (by decide +kernel)) ok_X9_no (mW177 : Cond.methodLink RX9 168 yX9_no ∈ wsT) ⟨Nat.le_of_ble_eq_true rfl, Nat.le_of_ble_eq_true rfl⟩ hP hD hS hA hK hN hm_h0 hk_h0 (by decide) rfl rfl rfl hl.1 rfl (Nat.le_of_ble_eq_true rfl) ⟨Nat.le_of_ble_eq_true rfl, Nat.le_of_ble_eq_true rfl⟩ dX9_port_45 (fun r_4 d_5 H locs hr_4 hP hD hS => ?_)
    obtain ⟨hgad_5, hpad_5, hfad_5, hxd_5⟩ := hr_4
    have hfd_5 : yK [1, 38] d d_5 h0 := yK.tr hfd_1 hfad_5 (by decide)
    have hE0d_5 : (d_5.1 h0 0).toInt = (d_1.1 h0 0).toInt := congrArg Int32.toInt (hfad_5 0 (by decide))
    have hE1d_5 : (d_5.1 h0 1).toInt = (d_1.1 h0 1).toInt := congrArg Int32.toInt (hfad_5 1 (by decide))
    have hE2d_5 : (d_5.1 h0 2).toInt = (d_1.1 h0 2).toInt := congrArg Int32.toInt (hfad_5 2 (by decide))
    have hE3d_5 : (d_5.1 h0 3).toInt = (d_1.1 h0 3).toInt := congrArg Int32.toInt (hfad_5 3 (by decide))
    have hE63d_5 : (d_5.1 h0 63).toInt = (d_1.1 h0 63).toInt := congrArg Int32.toInt (hfad_5 63 (by decide))
    have hId_5 : yMI S d_5 h0 := yMI.ag hId_1 hSh hm_h0 hk_h0 hgad_5 hfad_5 (by decide) (by decide)
    have hgd_5 : yAg S [9, 41, 42, 43, 44, 45, 46, 47, 69] d d_5 := yAg.tr hgd_1 hgad_5 (by first | decide | exact fun _ h => h)
    have hPod_5 : yPo S d_5 := hpad_5 hPod_1
    refine lv_pop hx hb dX9_port_48 rfl ?_
    refine lv_iconst (v := 0) hx hb dX9_port_49 (by decide) ?_
    exact W.zret (v := 0) (ty := .boolean) hx hb hr rfl (fun t ht hW => ⟨⟨0, d_5, rfl, ⟨hgd_5, (fun _ => hPod_5), hfd_5, hId_5⟩, by rw [ht]; exact hP, hD⟩, hS.F ht⟩) hS.2.2 dX9_port_50
  · refine lv_iload_n hx hb dX9_port_9 rfl (lv_at hl 1 rfl) ?_
    refine lv_bipush (v := 8) hx hb dX9_port_10 (by decide) ?_
    refine lv_icmp_ge (tgt := 26) hx hb dX9_port_12 (by decide) (fun c_6 => ?_) (fun c_6 => ?_)
    · refine lv_iconst (v := 1) hx hb dX9_port_26 (by decide) ?_
      refine lv_goto (tgt := 35) hx hb dX9_port_27 (by decide) ?_
      refine lv_istore (lv' := [(4, .int 1), (0, .ref h0), (1, .int p0), (2, .int p1), (3, .int p2)]) hx hb dX9_port_35 hl (by decide) rfl (fun ls hl => ?_)
      refine lv_iload hx hb dX9_port_37 (lv_at hl 0 rfl) ?_
      refine lv_if_eq (tgt := 51) hx hb dX9_port_39 (by decide) (fun c_7 => absurd c_7 (by decide +kernel)) (fun c_7 => ?_)
      refine lv_aload_n hx hb dX9_port_42 rfl (lv_at hl 1 rfl) ?_
      refine lv_iload hx hb dX9_port_43 (lv_at hl 0 rfl) ?_
      refine yVwi (As := [.int 1]) (rest := []) C0 (g_X9_no l G S d_1 h0 1 hSh hPod_1 hm_h0 hk_h0 (by decide +kernel)) ok_X9_no (mW177 : Cond.methodLink RX9 168 yX9_no ∈ wsT) ⟨Nat.le_of_ble_eq_true rfl, Nat.le_of_ble_eq_true rfl⟩ hP hD hS hA hK hN hm_h0 hk_h0 (by decide) rfl rfl rfl hl.1 rfl (Nat.le_of_ble_eq_true rfl) ⟨Nat.le_of_ble_eq_true rfl, Nat.le_of_ble_eq_true rfl⟩ dX9_port_45 (fun r_8 d_9 H locs hr_8 hP hD hS => ?_)
      obtain ⟨hgad_9, hpad_9, hfad_9, hxd_9⟩ := hr_8
      have hfd_9 : yK [1, 38] d d_9 h0 := yK.tr hfd_1 hfad_9 (by decide)
      have hE0d_9 : (d_9.1 h0 0).toInt = (d_1.1 h0 0).toInt := congrArg Int32.toInt (hfad_9 0 (by decide))
      have hE1d_9 : (d_9.1 h0 1).toInt = (d_1.1 h0 1).toInt := congrArg Int32.toInt (hfad_9 1 (by decide))
      have hE2d_9 : (d_9.1 h0 2).toInt = (d_1.1 h0 2).toInt := congrArg Int32.toInt (hfad_9 2 (by decide))
      have hE3d_9 : (d_9.1 h0 3).toInt = (d_1.1 h0 3).toInt := congrArg Int32.toInt (hfad_9 3 (by decide))
      have hE63d_9 : (d_9.1 h0 63).toInt = (d_1.1 h0 63).toInt := congrArg Int32.toInt (hfad_9 63 (by decide))
      have hId_9 : yMI S d_9 h0 := yMI.ag hId_1 hSh hm_h0 hk_h0 hgad_9 hfad_9 (by decide) (by decide)
      have hgd_9 : yAg S [9, 41, 42, 43, 44, 45, 46, 47, 69] d d_9 := yAg.tr hgd_1 hgad_9 (by first | decide | exact fun _ h => h)
      have hPod_9 : yPo S d_9 := hpad_9 hPod_1
      refine lv_pop hx hb dX9_port_48 rfl ?_
      refine lv_iconst (v := 0) hx hb dX9_port_49 (by decide) ?_
      exact W.zret (v := 0) (ty := .boolean) hx hb hr rfl (fun t ht hW => ⟨⟨0, d_9, rfl, ⟨hgd_9, (fun _ => hPod_9), hfd_9, hId_9⟩, by rw [ht]; exact hP, hD⟩, hS.F ht⟩) hS.2.2 dX9_port_50
    · refine lv_iload_n hx hb dX9_port_15 rfl (lv_at hl 3 rfl) ?_
      refine lv_iconst (v := 1) hx hb dX9_port_16 (by decide) ?_
      refine lv_icmp_lt (tgt := 26) hx hb dX9_port_17 (by decide) (fun c_10 => ?_) (fun c_10 => ?_)
      · refine lv_iconst (v := 1) hx hb dX9_port_26 (by decide) ?_
        refine lv_goto (tgt := 35) hx hb dX9_port_27 (by decide) ?_
        refine lv_istore (lv' := [(4, .int 1), (0, .ref h0), (1, .int p0), (2, .int p1), (3, .int p2)]) hx hb dX9_port_35 hl (by decide) rfl (fun ls hl => ?_)
        refine lv_iload hx hb dX9_port_37 (lv_at hl 0 rfl) ?_
        refine lv_if_eq (tgt := 51) hx hb dX9_port_39 (by decide) (fun c_11 => absurd c_11 (by decide +kernel)) (fun c_11 => ?_)
        refine lv_aload_n hx hb dX9_port_42 rfl (lv_at hl 1 rfl) ?_
        refine lv_iload hx hb dX9_port_43 (lv_at hl 0 rfl) ?_
        refine yVwi (As := [.int 1]) (rest := []) C0 (g_X9_no l G S d_1 h0 1 hSh hPod_1 hm_h0 hk_h0 (by decide +kernel)) ok_X9_no (mW177 : Cond.methodLink RX9 168 yX9_no ∈ wsT) ⟨Nat.le_of_ble_eq_true rfl, Nat.le_of_ble_eq_true rfl⟩ hP hD hS hA hK hN hm_h0 hk_h0 (by decide) rfl rfl rfl hl.1 rfl (Nat.le_of_ble_eq_true rfl) ⟨Nat.le_of_ble_eq_true rfl, Nat.le_of_ble_eq_true rfl⟩ dX9_port_45 (fun r_12 d_13 H locs hr_12 hP hD hS => ?_)
        obtain ⟨hgad_13, hpad_13, hfad_13, hxd_13⟩ := hr_12
        have hfd_13 : yK [1, 38] d d_13 h0 := yK.tr hfd_1 hfad_13 (by decide)
        have hE0d_13 : (d_13.1 h0 0).toInt = (d_1.1 h0 0).toInt := congrArg Int32.toInt (hfad_13 0 (by decide))
        have hE1d_13 : (d_13.1 h0 1).toInt = (d_1.1 h0 1).toInt := congrArg Int32.toInt (hfad_13 1 (by decide))
        have hE2d_13 : (d_13.1 h0 2).toInt = (d_1.1 h0 2).toInt := congrArg Int32.toInt (hfad_13 2 (by decide))
        have hE3d_13 : (d_13.1 h0 3).toInt = (d_1.1 h0 3).toInt := congrArg Int32.toInt (hfad_13 3 (by decide))
        have hE63d_13 : (d_13.1 h0 63).toInt = (d_1.1 h0 63).toInt := congrArg Int32.toInt (hfad_13 63 (by decide))
        have hId_13 : yMI S d_13 h0 := yMI.ag hId_1 hSh hm_h0 hk_h0 hgad_13 hfad_13 (by decide) (by decide)
        have hgd_13 : yAg S [9, 41, 42, 43, 44, 45, 46, 47, 69] d d_13 := yAg.tr hgd_1 hgad_13 (by first | decide | exact fun _ h => h)
        have hPod_13 : yPo S d_13 := hpad_13 hPod_1
        refine lv_pop hx hb dX9_port_48 rfl ?_
        refine lv_iconst (v := 0) hx hb dX9_port_49 (by decide) ?_
        exact W.zret (v := 0) (ty := .boolean) hx hb hr rfl (fun t ht hW => ⟨⟨0, d_13, rfl, ⟨hgd_13, (fun _ => hPod_13), hfd_13, hId_13⟩, by rw [ht]; exact hP, hD⟩, hS.F ht⟩) hS.2.2 dX9_port_50
      · refine lv_iload_n hx hb dX9_port_20 rfl (lv_at hl 3 rfl) ?_
        refine lv_bipush (v := 90) hx hb dX9_port_21 (by decide) ?_
        refine lv_icmp_le (tgt := 30) hx hb dX9_port_23 (by decide) (fun c_14 => ?_) (fun c_14 => ?_)
        · refine lv_aload_n hx hb dX9_port_30 rfl (lv_at hl 0 rfl) ?_
          refine lv_iload_n hx hb dX9_port_31 rfl (lv_at hl 2 rfl) ?_
          refine yVri (As := [.int p1]) (rest := []) C0 (g_X9_contractWhy l G S d_1 h0 p1 hSh hm_h0 hk_h0) ok_X9_contractWhy (mW226 : Cond.methodLink RX9 153 yX9_contractWhy ∈ wsT) ⟨Nat.le_of_ble_eq_true rfl, Nat.le_of_ble_eq_true rfl⟩ hP hD hK hN hm_h0 hk_h0 (by decide) rfl rfl rfl hl.1 rfl (Nat.le_of_ble_eq_true rfl) ⟨Nat.le_of_ble_eq_true rfl, Nat.le_of_ble_eq_true rfl⟩ dX9_port_32 (fun r_15 hr_15 => ?_)
          refine lv_istore (lv' := [(4, .int r_15), (0, .ref h0), (1, .int p0), (2, .int p1), (3, .int p2)]) hx hb dX9_port_35 hl (by decide) rfl (fun ls hl => ?_)
          refine lv_iload hx hb dX9_port_37 (lv_at hl 0 rfl) ?_
          refine lv_if_eq (tgt := 51) hx hb dX9_port_39 (by decide) (fun c_16 => ?_) (fun c_16 => ?_)
          · refine lv_aload_n hx hb dX9_port_51 rfl (lv_at hl 1 rfl) ?_
            refine lv_iload_n hx hb dX9_port_52 rfl (lv_at hl 2 rfl) ?_
            refine lv_iconst (v := 0) hx hb dX9_port_53 (by decide) ?_
            refine lv_ldc (v := 129600) hx hb hown (htl (.constant RX9 174 (129600)) mW221) dX9_port_54 ?_
            refine yVwi (As := [.int p0, .int 0, .int 129600]) (rest := []) C0 (g_X9_clear l G S d_1 h0 p0 0 129600 hSh hPod_1 hm_h0 hk_h0 hId_1) ok_X9_clear (mW360 : Cond.methodLink RX9 183 yX9_clear ∈ wsT) ⟨Nat.le_of_ble_eq_true rfl, Nat.le_of_ble_eq_true rfl⟩ hP hD hS hA hK hN hm_h0 hk_h0 (by decide) rfl rfl rfl hl.1 rfl (Nat.le_of_ble_eq_true rfl) ⟨Nat.le_of_ble_eq_true rfl, Nat.le_of_ble_eq_true rfl⟩ dX9_port_56 (fun r_17 d_18 H locs hr_17 hP hD hS => ?_)
            obtain ⟨hgad_18, hpad_18, hfad_18, hxd_18⟩ := hr_17
            have hfd_18 : yK [1, 38] d d_18 h0 := yK.tr hfd_1 hfad_18 (by decide)
            have hE0d_18 : (d_18.1 h0 0).toInt = (d_1.1 h0 0).toInt := congrArg Int32.toInt (hfad_18 0 (by decide))
            have hE2d_18 : (d_18.1 h0 2).toInt = (d_1.1 h0 2).toInt := congrArg Int32.toInt (hfad_18 2 (by decide))
            have hE3d_18 : (d_18.1 h0 3).toInt = (d_1.1 h0 3).toInt := congrArg Int32.toInt (hfad_18 3 (by decide))
            have hE63d_18 : (d_18.1 h0 63).toInt = (d_1.1 h0 63).toInt := congrArg Int32.toInt (hfad_18 63 (by decide))
            have hId_18 : yMI S d_18 h0 := hxd_18.1
            have hgd_18 : yAg S [9, 41, 42, 43, 44, 45, 46, 47, 69] d d_18 := yAg.tr hgd_1 hgad_18 (by first | decide | exact fun _ h => h)
            have hPod_18 : yPo S d_18 := hpad_18 hPod_1
            refine lv_pop hx hb dX9_port_59 rfl ?_
            refine lv_iconst (v := 0) hx hb dX9_port_60 (by decide) ?_
            refine lv_istore (lv' := [(5, .int 0), (4, .int r_15), (0, .ref h0), (1, .int p0), (2, .int p1), (3, .int p2)]) hx hb dX9_port_61 hl (by decide) rfl (fun ls hl => ?_)
            have hCC_19 := yMI.c hId_18
            have F_20 := fnlt (rfl : (p0 : Int32).toInt = (p0 : Int32).toInt) (by decide +kernel : (0 : Int32).toInt = 0) c_2
            have F_21 := fnle (by decide +kernel : (8 : Int32).toInt = 8) (rfl : (p0 : Int32).toInt = (p0 : Int32).toInt) c_6
            have F_22 := fnlt (rfl : (p2 : Int32).toInt = (p2 : Int32).toInt) (by decide +kernel : (1 : Int32).toInt = 1) c_10
            have F_23 := fle (rfl : (p2 : Int32).toInt = (p2 : Int32).toInt) (by decide +kernel : (90 : Int32).toInt = 90) c_14
            have F_24 := feq (rfl : (r_15 : Int32).toInt = (r_15 : Int32).toInt) (by decide +kernel : (0 : Int32).toInt = 0) c_16
            refine yloop (σ := Int32 × yD) (fun x => (2147483647 - (x.1 : Int32).toInt).toNat) 63 (fun x H locs ls => va_P G.1 xcl (yW G S x.2) H ∧ va_D A (yW G S x.2) ∧ va_S A s.heap H locs ∧ yAg S [9, 41, 42, 43, 44, 45, 46, 47, 69] d x.2 ∧ yPo S x.2 ∧ yK [1, 38] d x.2 h0 ∧ yMI S x.2 h0 ∧ yAg S [41] d_18 x.2 ∧ yK [] d_18 x.2 h0 ∧ (0 ≤ ((x.1) : Int32).toInt) ∧ lv_has ls 6 [(5, .int x.1), (0, .ref h0), (1, .int p0), (2, .int p1), (3, .int p2)]) (fun x H locs ls hI hnext_27 => ?_) (0, d_18) ⟨hP, hD, hS, hgd_18, hPod_18, hfd_18, hId_18, yAg.rf, yK.rf, (show (0 ≤ ((0) : Int32).toInt) from by have hl0_ : (0 : Int32).toInt = 0 := (by decide +kernel); have hq0_ : (0 : Int32).toInt = 0 := (by decide +kernel); omega), lv_sub hl [0, 2, 3, 4, 5] rfl⟩
            obtain ⟨v_25, d_26⟩ := x
            obtain ⟨hP, hD, hS, hgd_26, hPod_26, hfd_26, hId_26, hLJd_26, hKJd_26, hex_28, hl⟩ := hI
            have hId_26 : yMI S d_26 h0 := hId_26
            have hex_28 : (0 ≤ ((v_25) : Int32).toInt) := hex_28
            have hl : lv_has ls 6 [(5, .int v_25), (0, .ref h0), (1, .int p0), (2, .int p1), (3, .int p2)] := hl
            have hLJd_26 : yAg S [41] d_18 d_26 := hLJd_26
            have hKJd_26 : yK [] d_18 d_26 h0 := hKJd_26
            have hE0d_26 : (d_26.1 h0 0).toInt = (d_18.1 h0 0).toInt := congrArg Int32.toInt (hKJd_26 0 (by decide))
            have hE1d_26 : (d_26.1 h0 1).toInt = (d_18.1 h0 1).toInt := congrArg Int32.toInt (hKJd_26 1 (by decide))
            have hE2d_26 : (d_26.1 h0 2).toInt = (d_18.1 h0 2).toInt := congrArg Int32.toInt (hKJd_26 2 (by decide))
            have hE3d_26 : (d_26.1 h0 3).toInt = (d_18.1 h0 3).toInt := congrArg Int32.toInt (hKJd_26 3 (by decide))
            have hE63d_26 : (d_26.1 h0 63).toInt = (d_18.1 h0 63).toInt := congrArg Int32.toInt (hKJd_26 63 (by decide))
            refine lv_iload hx hb dX9_port_63 (lv_at hl 0 rfl) ?_
            refine lv_bipush (v := 12) hx hb dX9_port_65 (by decide) ?_
            refine lv_icmp_ge (tgt := 89) hx hb dX9_port_67 (by decide) (fun c_29 => ?_) (fun c_29 => ?_)
            · refine lv_aload_n hx hb dX9_port_89 rfl (lv_at hl 1 rfl) ?_
              refine yget (ci := 9) (k := 11) (v := .ref (S.2.2.1 h0 11)) (C := RX9) (T := TX9) (N := 67) C0 hK hP hm_h0 hk_h0 (by decide) rfl inlX9 (by decide) mW116 (fun _ h9 => h9) rfl dX9_port_90 ?_
              obtain ⟨hmy_30, hky_30⟩ := ySh.f9_11 hSh _ hm_h0 hk_h0
              refine lv_bipush (v := 12) hx hb dX9_port_93 (by decide) ?_
              refine lv_iload_n hx hb dX9_port_95 rfl (lv_at hl 2 rfl) ?_
              refine lv_imul hx hb dX9_port_96 ?_
              refine lv_topi (fun z_31 ez_31 => ?_)
              refine lv_lconst (v := 1) hx hb dX9_port_97 (by decide) ?_
              have hCC_32 := yMI.c hId_26
              have F_33 := fle (by decide +kernel : (12 : Int32).toInt = 12) (rfl : (v_25 : Int32).toInt = (v_25 : Int32).toInt) c_29
              have T_34 : (z_31 : Int32).toInt = 12 * (p0 : Int32).toInt := tmul ez_31 (by decide +kernel : (12 : Int32).toInt = 12) (rfl : (p0 : Int32).toInt = (p0 : Int32).toInt) (by omega) (by omega)
              refine yastJ C0 hK hP hD hS hmy_30 hky_30 (by decide) rfl 4 rfl (xinT 96 rfl (by omega) (by omega)) dX9_port_98 (fun H locs hP hD hS => ?_)
              obtain ⟨d_35, ed_35⟩ : ∃ z : yD, z = ye d_26 (S.2.2.1 h0 11) (z_31 : Int32).toNatClampNeg 1 := ⟨_, rfl⟩
              rw [← ed_35] at hP hD
              have hgd_35 : yAg S [9, 41, 42, 43, 44, 45, 46, 47, 69] d d_35 := by rw [ed_35]; exact yAg.e hgd_26 (by rw [hky_30]; decide)
              have hPod_35 : yPo S d_35 := by rw [ed_35]; exact hPod_26
              have hfd_35 : yK [1, 38] d d_35 h0 := yK.ag hfd_26 (show yAg S [41] d_26 d_35 from by rw [ed_35]; exact yAg.e yAg.rf (by rw [hky_30]; decide)) (by rw [hk_h0]; decide)
              have T_36 : (1 : Int64).toInt = 1 := by decide +kernel
              have hId_35 : yMI S d_35 h0 := by rw [ed_35]; exact yMI.w11 hId_26 hSh hm_h0 hk_h0 (yBp.up (yMI.bp_ hId_26) (fun p hp e => by have e_ : (z_31 : Int32).toInt.toNat = 12 * p + 1 := e; refine ⟨?_, ?_⟩ <;> omega) (fun p hp e => by have e_ : (z_31 : Int32).toInt.toNat = 12 * p + 2 := e; refine ⟨?_, ?_⟩ <;> omega) (fun p hp e => by have e_ : (z_31 : Int32).toInt.toNat = 12 * p + 6 := e; refine ⟨?_, ?_⟩ <;> omega))
              have hE0d_35 : (d_35.1 h0 0).toInt = (d_26.1 h0 0).toInt := congrArg Int32.toInt ((yK.ag (F := []) yK.rf (show yAg S [41] d_26 d_35 from by rw [ed_35]; exact yAg.e yAg.rf (by rw [hky_30]; decide)) (by rw [hk_h0]; decide)) 0 (by decide))
              have hE1d_35 : (d_35.1 h0 1).toInt = (d_26.1 h0 1).toInt := congrArg Int32.toInt ((yK.ag (F := []) yK.rf (show yAg S [41] d_26 d_35 from by rw [ed_35]; exact yAg.e yAg.rf (by rw [hky_30]; decide)) (by rw [hk_h0]; decide)) 1 (by decide))
              have hE2d_35 : (d_35.1 h0 2).toInt = (d_26.1 h0 2).toInt := congrArg Int32.toInt ((yK.ag (F := []) yK.rf (show yAg S [41] d_26 d_35 from by rw [ed_35]; exact yAg.e yAg.rf (by rw [hky_30]; decide)) (by rw [hk_h0]; decide)) 2 (by decide))
              have hE3d_35 : (d_35.1 h0 3).toInt = (d_26.1 h0 3).toInt := congrArg Int32.toInt ((yK.ag (F := []) yK.rf (show yAg S [41] d_26 d_35 from by rw [ed_35]; exact yAg.e yAg.rf (by rw [hky_30]; decide)) (by rw [hk_h0]; decide)) 3 (by decide))
              have hE63d_35 : (d_35.1 h0 63).toInt = (d_26.1 h0 63).toInt := congrArg Int32.toInt ((yK.ag (F := []) yK.rf (show yAg S [41] d_26 d_35 from by rw [ed_35]; exact yAg.e yAg.rf (by rw [hky_30]; decide)) (by rw [hk_h0]; decide)) 63 (by decide))
              refine lv_aload_n hx hb dX9_port_99 rfl (lv_at hl 1 rfl) ?_
              refine yget (ci := 9) (k := 11) (v := .ref (S.2.2.1 h0 11)) (C := RX9) (T := TX9) (N := 67) C0 hK hP hm_h0 hk_h0 (by decide) rfl inlX9 (by decide) mW116 (fun _ h9 => h9) rfl dX9_port_100 ?_
              refine lv_bipush (v := 12) hx hb dX9_port_103 (by decide) ?_
              refine lv_iload_n hx hb dX9_port_105 rfl (lv_at hl 2 rfl) ?_
              refine lv_imul hx hb dX9_port_106 ?_
              refine lv_topi (fun z_37 ez_37 => ?_)
              refine lv_iconst (v := 1) hx hb dX9_port_107 (by decide) ?_
              refine lv_iadd hx hb dX9_port_108 ?_
              refine lv_topi (fun z_38 ez_38 => ?_)
              refine lv_iload_n hx hb dX9_port_109 rfl (lv_at hl 3 rfl) ?_
              refine lv_i2l hx hb dX9_port_110 rfl ?_
              refine lv_topl (fun z_39 ez_39 => ?_)
              have hCC_40 := yMI.c hId_35
              have T_42 : (z_37 : Int32).toInt = 12 * (p0 : Int32).toInt := tmul ez_37 (by decide +kernel : (12 : Int32).toInt = 12) (rfl : (p0 : Int32).toInt = (p0 : Int32).toInt) (by omega) (by omega)
              have T_41 : (z_38 : Int32).toInt = (z_37 : Int32).toInt + 1 := tadd ez_38 (rfl : (z_37 : Int32).toInt = (z_37 : Int32).toInt) (by decide +kernel : (1 : Int32).toInt = 1) (by omega) (by omega)
              refine yastJ C0 hK hP hD hS hmy_30 hky_30 (by decide) rfl 4 rfl (xinT 96 rfl (by omega) (by omega)) dX9_port_111 (fun H locs hP hD hS => ?_)
              obtain ⟨d_43, ed_43⟩ : ∃ z : yD, z = ye d_35 (S.2.2.1 h0 11) (z_38 : Int32).toNatClampNeg z_39 := ⟨_, rfl⟩
              rw [← ed_43] at hP hD
              have hgd_43 : yAg S [9, 41, 42, 43, 44, 45, 46, 47, 69] d d_43 := by rw [ed_43]; exact yAg.e hgd_35 (by rw [hky_30]; decide)
              have hPod_43 : yPo S d_43 := by rw [ed_43]; exact hPod_35
              have hfd_43 : yK [1, 38] d d_43 h0 := yK.ag hfd_35 (show yAg S [41] d_35 d_43 from by rw [ed_43]; exact yAg.e yAg.rf (by rw [hky_30]; decide)) (by rw [hk_h0]; decide)
              have T_44 : (z_39 : Int64).toInt = (p1 : Int32).toInt := by rw [ez_39, Int32.toInt_toInt64]
              have hId_43 : yMI S d_43 h0 := by rw [ed_43]; exact yMI.w11 hId_35 hSh hm_h0 hk_h0 (yBp.up (yMI.bp_ hId_35) (fun p hp e => by have e_ : (z_38 : Int32).toInt.toNat = 12 * p + 1 := e; refine ⟨?_, ?_⟩ <;> omega) (fun p hp e => by have e_ : (z_38 : Int32).toInt.toNat = 12 * p + 2 := e; refine ⟨?_, ?_⟩ <;> omega) (fun p hp e => by have e_ : (z_38 : Int32).toInt.toNat = 12 * p + 6 := e; refine ⟨?_, ?_⟩ <;> omega))
              have hE0d_43 : (d_43.1 h0 0).toInt = (d_35.1 h0 0).toInt := congrArg Int32.toInt ((yK.ag (F := []) yK.rf (show yAg S [41] d_35 d_43 from by rw [ed_43]; exact yAg.e yAg.rf (by rw [hky_30]; decide)) (by rw [hk_h0]; decide)) 0 (by decide))
              have hE1d_43 : (d_43.1 h0 1).toInt = (d_35.1 h0 1).toInt := congrArg Int32.toInt ((yK.ag (F := []) yK.rf (show yAg S [41] d_35 d_43 from by rw [ed_43]; exact yAg.e yAg.rf (by rw [hky_30]; decide)) (by rw [hk_h0]; decide)) 1 (by decide))
              have hE2d_43 : (d_43.1 h0 2).toInt = (d_35.1 h0 2).toInt := congrArg Int32.toInt ((yK.ag (F := []) yK.rf (show yAg S [41] d_35 d_43 from by rw [ed_43]; exact yAg.e yAg.rf (by rw [hky_30]; decide)) (by rw [hk_h0]; decide)) 2 (by decide))
              have hE3d_43 : (d_43.1 h0 3).toInt = (d_35.1 h0 3).toInt := congrArg Int32.toInt ((yK.ag (F := []) yK.rf (show yAg S [41] d_35 d_43 from by rw [ed_43]; exact yAg.e yAg.rf (by rw [hky_30]; decide)) (by rw [hk_h0]; decide)) 3 (by decide))
              have hE63d_43 : (d_43.1 h0 63).toInt = (d_35.1 h0 63).toInt := congrArg Int32.toInt ((yK.ag (F := []) yK.rf (show yAg S [41] d_35 d_43 from by rw [ed_43]; exact yAg.e yAg.rf (by rw [hky_30]; decide)) (by rw [hk_h0]; decide)) 63 (by decide))
              refine lv_aload_n hx hb dX9_port_112 rfl (lv_at hl 1 rfl) ?_
              refine yget (ci := 9) (k := 11) (v := .ref (S.2.2.1 h0 11)) (C := RX9) (T := TX9) (N := 67) C0 hK hP hm_h0 hk_h0 (by decide) rfl inlX9 (by decide) mW116 (fun _ h9 => h9) rfl dX9_port_113 ?_
              refine lv_bipush (v := 12) hx hb dX9_port_116 (by decide) ?_
              refine lv_iload_n hx hb dX9_port_118 rfl (lv_at hl 2 rfl) ?_
              refine lv_imul hx hb dX9_port_119 ?_
              refine lv_topi (fun z_45 ez_45 => ?_)
              refine lv_iconst (v := 2) hx hb dX9_port_120 (by decide) ?_
              refine lv_iadd hx hb dX9_port_121 ?_
              refine lv_topi (fun z_46 ez_46 => ?_)
              refine lv_iload_n hx hb dX9_port_122 rfl (lv_at hl 4 rfl) ?_
              refine lv_i2l hx hb dX9_port_123 rfl ?_
              refine lv_topl (fun z_47 ez_47 => ?_)
              have hCC_48 := yMI.c hId_43
              have T_50 : (z_45 : Int32).toInt = 12 * (p0 : Int32).toInt := tmul ez_45 (by decide +kernel : (12 : Int32).toInt = 12) (rfl : (p0 : Int32).toInt = (p0 : Int32).toInt) (by omega) (by omega)
              have T_49 : (z_46 : Int32).toInt = (z_45 : Int32).toInt + 2 := tadd ez_46 (rfl : (z_45 : Int32).toInt = (z_45 : Int32).toInt) (by decide +kernel : (2 : Int32).toInt = 2) (by omega) (by omega)
              refine yastJ C0 hK hP hD hS hmy_30 hky_30 (by decide) rfl 4 rfl (xinT 96 rfl (by omega) (by omega)) dX9_port_124 (fun H locs hP hD hS => ?_)
              obtain ⟨d_51, ed_51⟩ : ∃ z : yD, z = ye d_43 (S.2.2.1 h0 11) (z_46 : Int32).toNatClampNeg z_47 := ⟨_, rfl⟩
              rw [← ed_51] at hP hD
              have hgd_51 : yAg S [9, 41, 42, 43, 44, 45, 46, 47, 69] d d_51 := by rw [ed_51]; exact yAg.e hgd_43 (by rw [hky_30]; decide)
              have hPod_51 : yPo S d_51 := by rw [ed_51]; exact hPod_43
              have hfd_51 : yK [1, 38] d d_51 h0 := yK.ag hfd_43 (show yAg S [41] d_43 d_51 from by rw [ed_51]; exact yAg.e yAg.rf (by rw [hky_30]; decide)) (by rw [hk_h0]; decide)
              have T_52 : (z_47 : Int64).toInt = (p2 : Int32).toInt := by rw [ez_47, Int32.toInt_toInt64]
              have hId_51 : yMI S d_51 h0 := by rw [ed_51]; exact yMI.w11 hId_43 hSh hm_h0 hk_h0 (yBp.up (yMI.bp_ hId_43) (fun p hp e => by have e_ : (z_46 : Int32).toInt.toNat = 12 * p + 1 := e; refine ⟨?_, ?_⟩ <;> omega) (fun p hp e => by have e_ : (z_46 : Int32).toInt.toNat = 12 * p + 2 := e; refine ⟨?_, ?_⟩ <;> omega) (fun p hp e => by have e_ : (z_46 : Int32).toInt.toNat = 12 * p + 6 := e; refine ⟨?_, ?_⟩ <;> omega))
              have hE0d_51 : (d_51.1 h0 0).toInt = (d_43.1 h0 0).toInt := congrArg Int32.toInt ((yK.ag (F := []) yK.rf (show yAg S [41] d_43 d_51 from by rw [ed_51]; exact yAg.e yAg.rf (by rw [hky_30]; decide)) (by rw [hk_h0]; decide)) 0 (by decide))
              have hE1d_51 : (d_51.1 h0 1).toInt = (d_43.1 h0 1).toInt := congrArg Int32.toInt ((yK.ag (F := []) yK.rf (show yAg S [41] d_43 d_51 from by rw [ed_51]; exact yAg.e yAg.rf (by rw [hky_30]; decide)) (by rw [hk_h0]; decide)) 1 (by decide))
              have hE2d_51 : (d_51.1 h0 2).toInt = (d_43.1 h0 2).toInt := congrArg Int32.toInt ((yK.ag (F := []) yK.rf (show yAg S [41] d_43 d_51 from by rw [ed_51]; exact yAg.e yAg.rf (by rw [hky_30]; decide)) (by rw [hk_h0]; decide)) 2 (by decide))
              have hE3d_51 : (d_51.1 h0 3).toInt = (d_43.1 h0 3).toInt := congrArg Int32.toInt ((yK.ag (F := []) yK.rf (show yAg S [41] d_43 d_51 from by rw [ed_51]; exact yAg.e yAg.rf (by rw [hky_30]; decide)) (by rw [hk_h0]; decide)) 3 (by decide))
              have hE63d_51 : (d_51.1 h0 63).toInt = (d_43.1 h0 63).toInt := congrArg Int32.toInt ((yK.ag (F := []) yK.rf (show yAg S [41] d_43 d_51 from by rw [ed_51]; exact yAg.e yAg.rf (by rw [hky_30]; decide)) (by rw [hk_h0]; decide)) 63 (by decide))
              refine lv_aload_n hx hb dX9_port_125 rfl (lv_at hl 1 rfl) ?_
              refine yget (ci := 9) (k := 11) (v := .ref (S.2.2.1 h0 11)) (C := RX9) (T := TX9) (N := 67) C0 hK hP hm_h0 hk_h0 (by decide) rfl inlX9 (by decide) mW116 (fun _ h9 => h9) rfl dX9_port_126 ?_
              refine lv_bipush (v := 12) hx hb dX9_port_129 (by decide) ?_
              refine lv_iload_n hx hb dX9_port_131 rfl (lv_at hl 2 rfl) ?_
              refine lv_imul hx hb dX9_port_132 ?_
              refine lv_topi (fun z_53 ez_53 => ?_)
              refine lv_iconst (v := 5) hx hb dX9_port_133 (by decide) ?_
              refine lv_iadd hx hb dX9_port_134 ?_
              refine lv_topi (fun z_54 ez_54 => ?_)
              refine lv_ldc2 (v := 1440) hx hb hown (htl (.constantLong RX9 187 (1440)) mW359) dX9_port_135 ?_
              have hCC_55 := yMI.c hId_51
              have T_57 : (z_53 : Int32).toInt = 12 * (p0 : Int32).toInt := tmul ez_53 (by decide +kernel : (12 : Int32).toInt = 12) (rfl : (p0 : Int32).toInt = (p0 : Int32).toInt) (by omega) (by omega)
              have T_56 : (z_54 : Int32).toInt = (z_53 : Int32).toInt + 5 := tadd ez_54 (rfl : (z_53 : Int32).toInt = (z_53 : Int32).toInt) (by decide +kernel : (5 : Int32).toInt = 5) (by omega) (by omega)
              refine yastJ C0 hK hP hD hS hmy_30 hky_30 (by decide) rfl 4 rfl (xinT 96 rfl (by omega) (by omega)) dX9_port_138 (fun H locs hP hD hS => ?_)
              obtain ⟨d_58, ed_58⟩ : ∃ z : yD, z = ye d_51 (S.2.2.1 h0 11) (z_54 : Int32).toNatClampNeg 1440 := ⟨_, rfl⟩
              rw [← ed_58] at hP hD
              have hgd_58 : yAg S [9, 41, 42, 43, 44, 45, 46, 47, 69] d d_58 := by rw [ed_58]; exact yAg.e hgd_51 (by rw [hky_30]; decide)
              have hPod_58 : yPo S d_58 := by rw [ed_58]; exact hPod_51
              have hfd_58 : yK [1, 38] d d_58 h0 := yK.ag hfd_51 (show yAg S [41] d_51 d_58 from by rw [ed_58]; exact yAg.e yAg.rf (by rw [hky_30]; decide)) (by rw [hk_h0]; decide)
              have T_59 : (1440 : Int64).toInt = 1440 := by decide +kernel
              have hId_58 : yMI S d_58 h0 := by rw [ed_58]; exact yMI.w11 hId_51 hSh hm_h0 hk_h0 (yBp.up (yMI.bp_ hId_51) (fun p hp e => by have e_ : (z_54 : Int32).toInt.toNat = 12 * p + 1 := e; refine ⟨?_, ?_⟩ <;> omega) (fun p hp e => by have e_ : (z_54 : Int32).toInt.toNat = 12 * p + 2 := e; refine ⟨?_, ?_⟩ <;> omega) (fun p hp e => by have e_ : (z_54 : Int32).toInt.toNat = 12 * p + 6 := e; refine ⟨?_, ?_⟩ <;> omega))
              have hE0d_58 : (d_58.1 h0 0).toInt = (d_51.1 h0 0).toInt := congrArg Int32.toInt ((yK.ag (F := []) yK.rf (show yAg S [41] d_51 d_58 from by rw [ed_58]; exact yAg.e yAg.rf (by rw [hky_30]; decide)) (by rw [hk_h0]; decide)) 0 (by decide))
              have hE1d_58 : (d_58.1 h0 1).toInt = (d_51.1 h0 1).toInt := congrArg Int32.toInt ((yK.ag (F := []) yK.rf (show yAg S [41] d_51 d_58 from by rw [ed_58]; exact yAg.e yAg.rf (by rw [hky_30]; decide)) (by rw [hk_h0]; decide)) 1 (by decide))
              have hE2d_58 : (d_58.1 h0 2).toInt = (d_51.1 h0 2).toInt := congrArg Int32.toInt ((yK.ag (F := []) yK.rf (show yAg S [41] d_51 d_58 from by rw [ed_58]; exact yAg.e yAg.rf (by rw [hky_30]; decide)) (by rw [hk_h0]; decide)) 2 (by decide))
              have hE3d_58 : (d_58.1 h0 3).toInt = (d_51.1 h0 3).toInt := congrArg Int32.toInt ((yK.ag (F := []) yK.rf (show yAg S [41] d_51 d_58 from by rw [ed_58]; exact yAg.e yAg.rf (by rw [hky_30]; decide)) (by rw [hk_h0]; decide)) 3 (by decide))
              have hE63d_58 : (d_58.1 h0 63).toInt = (d_51.1 h0 63).toInt := congrArg Int32.toInt ((yK.ag (F := []) yK.rf (show yAg S [41] d_51 d_58 from by rw [ed_58]; exact yAg.e yAg.rf (by rw [hky_30]; decide)) (by rw [hk_h0]; decide)) 63 (by decide))
              refine lv_aload_n hx hb dX9_port_139 rfl (lv_at hl 1 rfl) ?_
              refine yget (ci := 9) (k := 11) (v := .ref (S.2.2.1 h0 11)) (C := RX9) (T := TX9) (N := 67) C0 hK hP hm_h0 hk_h0 (by decide) rfl inlX9 (by decide) mW116 (fun _ h9 => h9) rfl dX9_port_140 ?_
              refine lv_bipush (v := 12) hx hb dX9_port_143 (by decide) ?_
              refine lv_iload_n hx hb dX9_port_145 rfl (lv_at hl 2 rfl) ?_
              refine lv_imul hx hb dX9_port_146 ?_
              refine lv_topi (fun z_60 ez_60 => ?_)
              refine lv_bipush (v := 10) hx hb dX9_port_147 (by decide) ?_
              refine lv_iadd hx hb dX9_port_149 ?_
              refine lv_topi (fun z_61 ez_61 => ?_)
              refine lv_lconst (v := 1) hx hb dX9_port_150 (by decide) ?_
              refine lv_iload_n hx hb dX9_port_151 rfl (lv_at hl 2 rfl) ?_
              refine lv_lshl hx hb dX9_port_152 rfl ?_
              refine lv_topl (fun z_62 ez_62 => ?_)
              have hCC_63 := yMI.c hId_58
              have T_65 : (z_60 : Int32).toInt = 12 * (p0 : Int32).toInt := tmul ez_60 (by decide +kernel : (12 : Int32).toInt = 12) (rfl : (p0 : Int32).toInt = (p0 : Int32).toInt) (by omega) (by omega)
              have T_64 : (z_61 : Int32).toInt = (z_60 : Int32).toInt + 10 := tadd ez_61 (rfl : (z_60 : Int32).toInt = (z_60 : Int32).toInt) (by decide +kernel : (10 : Int32).toInt = 10) (by omega) (by omega)
              refine yastJ C0 hK hP hD hS hmy_30 hky_30 (by decide) rfl 4 rfl (xinT 96 rfl (by omega) (by omega)) dX9_port_153 (fun H locs hP hD hS => ?_)
              obtain ⟨d_66, ed_66⟩ : ∃ z : yD, z = ye d_58 (S.2.2.1 h0 11) (z_61 : Int32).toNatClampNeg z_62 := ⟨_, rfl⟩
              rw [← ed_66] at hP hD
              have hgd_66 : yAg S [9, 41, 42, 43, 44, 45, 46, 47, 69] d d_66 := by rw [ed_66]; exact yAg.e hgd_58 (by rw [hky_30]; decide)
              have hPod_66 : yPo S d_66 := by rw [ed_66]; exact hPod_58
              have hfd_66 : yK [1, 38] d d_66 h0 := yK.ag hfd_58 (show yAg S [41] d_58 d_66 from by rw [ed_66]; exact yAg.e yAg.rf (by rw [hky_30]; decide)) (by rw [hk_h0]; decide)
              have hId_66 : yMI S d_66 h0 := by rw [ed_66]; exact yMI.w11 hId_58 hSh hm_h0 hk_h0 (yBp.up (yMI.bp_ hId_58) (fun p hp e => by have e_ : (z_61 : Int32).toInt.toNat = 12 * p + 1 := e; refine ⟨?_, ?_⟩ <;> omega) (fun p hp e => by have e_ : (z_61 : Int32).toInt.toNat = 12 * p + 2 := e; refine ⟨?_, ?_⟩ <;> omega) (fun p hp e => by have e_ : (z_61 : Int32).toInt.toNat = 12 * p + 6 := e; refine ⟨?_, ?_⟩ <;> omega))
              have hE0d_66 : (d_66.1 h0 0).toInt = (d_58.1 h0 0).toInt := congrArg Int32.toInt ((yK.ag (F := []) yK.rf (show yAg S [41] d_58 d_66 from by rw [ed_66]; exact yAg.e yAg.rf (by rw [hky_30]; decide)) (by rw [hk_h0]; decide)) 0 (by decide))
              have hE1d_66 : (d_66.1 h0 1).toInt = (d_58.1 h0 1).toInt := congrArg Int32.toInt ((yK.ag (F := []) yK.rf (show yAg S [41] d_58 d_66 from by rw [ed_66]; exact yAg.e yAg.rf (by rw [hky_30]; decide)) (by rw [hk_h0]; decide)) 1 (by decide))
              have hE2d_66 : (d_66.1 h0 2).toInt = (d_58.1 h0 2).toInt := congrArg Int32.toInt ((yK.ag (F := []) yK.rf (show yAg S [41] d_58 d_66 from by rw [ed_66]; exact yAg.e yAg.rf (by rw [hky_30]; decide)) (by rw [hk_h0]; decide)) 2 (by decide))
              have hE3d_66 : (d_66.1 h0 3).toInt = (d_58.1 h0 3).toInt := congrArg Int32.toInt ((yK.ag (F := []) yK.rf (show yAg S [41] d_58 d_66 from by rw [ed_66]; exact yAg.e yAg.rf (by rw [hky_30]; decide)) (by rw [hk_h0]; decide)) 3 (by decide))
              have hE63d_66 : (d_66.1 h0 63).toInt = (d_58.1 h0 63).toInt := congrArg Int32.toInt ((yK.ag (F := []) yK.rf (show yAg S [41] d_58 d_66 from by rw [ed_66]; exact yAg.e yAg.rf (by rw [hky_30]; decide)) (by rw [hk_h0]; decide)) 63 (by decide))
              refine lv_aload_n hx hb dX9_port_154 rfl (lv_at hl 1 rfl) ?_
              refine lv_iload_n hx hb dX9_port_155 rfl (lv_at hl 2 rfl) ?_
              refine yVwv (As := [.int p0]) (rest := []) C0 (g_X9_part l G S d_66 h0 p0 hSh hPod_66 hm_h0 hk_h0 hId_66 (by refine ⟨?_, ?_⟩ <;> omega)) ok_X9_part (mW365 : Cond.methodLink RX9 189 yX9_part ∈ wsT) ⟨Nat.le_of_ble_eq_true rfl, Nat.le_of_ble_eq_true rfl⟩ hP hD hS hA hK hN hm_h0 hk_h0 (by decide) rfl rfl rfl hl.1 rfl (Nat.le_of_ble_eq_true rfl) ⟨Nat.le_of_ble_eq_true rfl, Nat.le_of_ble_eq_true rfl⟩ dX9_port_156 (fun d_68 H locs hr_67 hP hD hS => ?_)
              obtain ⟨hgad_68, hpad_68, hfad_68, hxd_68⟩ := hr_67
              have hfd_68 : yK [1, 38] d d_68 h0 := yK.tr hfd_66 hfad_68 (by decide)
              have hE0d_68 : (d_68.1 h0 0).toInt = (d_66.1 h0 0).toInt := congrArg Int32.toInt (hfad_68 0 (by decide))
              have hE1d_68 : (d_68.1 h0 1).toInt = (d_66.1 h0 1).toInt := congrArg Int32.toInt (hfad_68 1 (by decide))
              have hE2d_68 : (d_68.1 h0 2).toInt = (d_66.1 h0 2).toInt := congrArg Int32.toInt (hfad_68 2 (by decide))
              have hE3d_68 : (d_68.1 h0 3).toInt = (d_66.1 h0 3).toInt := congrArg Int32.toInt (hfad_68 3 (by decide))
              have hE63d_68 : (d_68.1 h0 63).toInt = (d_66.1 h0 63).toInt := congrArg Int32.toInt (hfad_68 63 (by decide))
              have hId_68 : yMI S d_68 h0 := hxd_68
              have hgd_68 : yAg S [9, 41, 42, 43, 44, 45, 46, 47, 69] d d_68 := yAg.tr hgd_66 hgad_68 (by first | decide | exact fun _ h => h)
              have hPod_68 : yPo S d_68 := hpad_68 hPod_66
              refine lv_iconst (v := 0) hx hb dX9_port_159 (by decide) ?_
              refine lv_istore (lv' := [(5, .int 0), (0, .ref h0), (1, .int p0), (2, .int p1), (3, .int p2)]) hx hb dX9_port_160 hl (by decide) rfl (fun ls hl => ?_)
              have hCC_69 := yMI.c hId_68
              refine yloop (σ := Int32 × yD) (fun x => (2147483647 - (x.1 : Int32).toInt).toNat) 162 (fun x H locs ls => va_P G.1 xcl (yW G S x.2) H ∧ va_D A (yW G S x.2) ∧ va_S A s.heap H locs ∧ yAg S [9, 41, 42, 43, 44, 45, 46, 47, 69] d x.2 ∧ yPo S x.2 ∧ yK [1, 38] d x.2 h0 ∧ yMI S x.2 h0 ∧ yAg S [42, 43, 44] d_68 x.2 ∧ yK [] d_68 x.2 h0 ∧ (0 ≤ ((x.1) : Int32).toInt) ∧ lv_has ls 6 [(5, .int x.1), (0, .ref h0), (1, .int p0)]) (fun x H locs ls hI hnext_72 => ?_) (0, d_68) ⟨hP, hD, hS, hgd_68, hPod_68, hfd_68, hId_68, yAg.rf, yK.rf, (show (0 ≤ ((0) : Int32).toInt) from by have hl0_ : (0 : Int32).toInt = 0 := (by decide +kernel); have hq0_ : (0 : Int32).toInt = 0 := (by decide +kernel); omega), lv_sub hl [0, 1, 2] rfl⟩
              obtain ⟨v_70, d_71⟩ := x
              obtain ⟨hP, hD, hS, hgd_71, hPod_71, hfd_71, hId_71, hLJd_71, hKJd_71, hex_73, hl⟩ := hI
              have hId_71 : yMI S d_71 h0 := hId_71
              have hex_73 : (0 ≤ ((v_70) : Int32).toInt) := hex_73
              have hl : lv_has ls 6 [(5, .int v_70), (0, .ref h0), (1, .int p0)] := hl
              have hLJd_71 : yAg S [42, 43, 44] d_68 d_71 := hLJd_71
              have hKJd_71 : yK [] d_68 d_71 h0 := hKJd_71
              have hE0d_71 : (d_71.1 h0 0).toInt = (d_68.1 h0 0).toInt := congrArg Int32.toInt (hKJd_71 0 (by decide))
              have hE1d_71 : (d_71.1 h0 1).toInt = (d_68.1 h0 1).toInt := congrArg Int32.toInt (hKJd_71 1 (by decide))
              have hE2d_71 : (d_71.1 h0 2).toInt = (d_68.1 h0 2).toInt := congrArg Int32.toInt (hKJd_71 2 (by decide))
              have hE3d_71 : (d_71.1 h0 3).toInt = (d_68.1 h0 3).toInt := congrArg Int32.toInt (hKJd_71 3 (by decide))
              have hE63d_71 : (d_71.1 h0 63).toInt = (d_68.1 h0 63).toInt := congrArg Int32.toInt (hKJd_71 63 (by decide))
              refine lv_iload hx hb dX9_port_162 (lv_at hl 0 rfl) ?_
              refine lv_bipush (v := 90) hx hb dX9_port_164 (by decide) ?_
              refine lv_icmp_ge (tgt := 216) hx hb dX9_port_166 (by decide) (fun c_74 => ?_) (fun c_74 => ?_)
              · refine lv_iconst (v := 1) hx hb dX9_port_216 (by decide) ?_
                exact W.zret (v := 1) (ty := .boolean) hx hb hr rfl (fun t ht hW => ⟨⟨1, d_71, rfl, ⟨hgd_71, (fun _ => hPod_71), hfd_71, hId_71⟩, by rw [ht]; exact hP, hD⟩, hS.F ht⟩) hS.2.2 dX9_port_217
              · refine lv_aload_n hx hb dX9_port_169 rfl (lv_at hl 1 rfl) ?_
                refine yget (ci := 9) (k := 12) (v := .ref (S.2.2.1 h0 12)) (C := RX9) (T := TX9) (N := 67) C0 hK hP hm_h0 hk_h0 (by decide) rfl inlX9 (by decide) mW118 (fun _ h9 => h9) rfl dX9_port_170 ?_
                obtain ⟨hmy_75, hky_75⟩ := ySh.f9_12 hSh _ hm_h0 hk_h0
                refine lv_bipush (v := 90) hx hb dX9_port_173 (by decide) ?_
                refine lv_iload_n hx hb dX9_port_175 rfl (lv_at hl 2 rfl) ?_
                refine lv_imul hx hb dX9_port_176 ?_
                refine lv_topi (fun z_76 ez_76 => ?_)
                refine lv_iload hx hb dX9_port_177 (lv_at hl 0 rfl) ?_
                refine lv_iadd hx hb dX9_port_179 ?_
                refine lv_topi (fun z_77 ez_77 => ?_)
                refine lv_sipush (v := 1440) hx hb dX9_port_180 (by decide) ?_
                have hCC_78 := yMI.c hId_71
                have F_79 := fnle (by decide +kernel : (90 : Int32).toInt = 90) (rfl : (v_70 : Int32).toInt = (v_70 : Int32).toInt) c_74
                have T_81 : (z_76 : Int32).toInt = 90 * (p0 : Int32).toInt := tmul ez_76 (by decide +kernel : (90 : Int32).toInt = 90) (rfl : (p0 : Int32).toInt = (p0 : Int32).toInt) (by omega) (by omega)
                have T_80 : (z_77 : Int32).toInt = (z_76 : Int32).toInt + (v_70 : Int32).toInt := tadd ez_77 (rfl : (z_76 : Int32).toInt = (z_76 : Int32).toInt) (rfl : (v_70 : Int32).toInt = (v_70 : Int32).toInt) (by omega) (by omega)
                refine yastS C0 hK hP hD hS hmy_75 hky_75 (by decide) rfl 2 rfl (xinT 720 rfl (by omega) (by omega)) dX9_port_183 (fun H locs hP hD hS => ?_)
                obtain ⟨d_82, ed_82⟩ : ∃ z : yD, z = ycs d_71 (S.2.2.1 h0 12) (upd (d_71.2.2.2.1 (S.2.2.1 h0 12)) (z_77 : Int32).toNatClampNeg (vp_nar .short 1440)) := ⟨_, rfl⟩
                rw [← ed_82] at hP hD
                have hgd_82 : yAg S [9, 41, 42, 43, 44, 45, 46, 47, 69] d d_82 := by rw [ed_82]; exact yAg.cs hgd_71 (by rw [hky_75]; decide)
                have hPod_82 : yPo S d_82 := by rw [ed_82]; exact hPod_71
                have hfd_82 : yK [1, 38] d d_82 h0 := yK.ag hfd_71 (show yAg S [42] d_71 d_82 from by rw [ed_82]; exact yAg.cs yAg.rf (by rw [hky_75]; decide)) (by rw [hk_h0]; decide)
                have hL0d_82 : yAg S [42, 43, 44] d_68 d_82 := by rw [ed_82]; exact yAg.cs hLJd_71 (by rw [hky_75]; decide)
                have hK0d_82 : yK [] d_68 d_82 h0 := yK.ag hKJd_71 (show yAg S [42] d_71 d_82 from by rw [ed_82]; exact yAg.cs yAg.rf (by rw [hky_75]; decide)) (by rw [hk_h0]; decide)
                have hId_82 : yMI S d_82 h0 := yMI.ag hId_71 hSh hm_h0 hk_h0 (show yAg S [42] d_71 d_82 from by rw [ed_82]; exact yAg.cs yAg.rf (by rw [hky_75]; decide)) (yK.ag (F := []) yK.rf (show yAg S [42] d_71 d_82 from by rw [ed_82]; exact yAg.cs yAg.rf (by rw [hky_75]; decide)) (by rw [hk_h0]; decide)) (by decide) (by decide)
                have hE0d_82 : (d_82.1 h0 0).toInt = (d_71.1 h0 0).toInt := congrArg Int32.toInt ((yK.ag (F := []) yK.rf (show yAg S [42] d_71 d_82 from by rw [ed_82]; exact yAg.cs yAg.rf (by rw [hky_75]; decide)) (by rw [hk_h0]; decide)) 0 (by decide))
                have hE1d_82 : (d_82.1 h0 1).toInt = (d_71.1 h0 1).toInt := congrArg Int32.toInt ((yK.ag (F := []) yK.rf (show yAg S [42] d_71 d_82 from by rw [ed_82]; exact yAg.cs yAg.rf (by rw [hky_75]; decide)) (by rw [hk_h0]; decide)) 1 (by decide))
                have hE2d_82 : (d_82.1 h0 2).toInt = (d_71.1 h0 2).toInt := congrArg Int32.toInt ((yK.ag (F := []) yK.rf (show yAg S [42] d_71 d_82 from by rw [ed_82]; exact yAg.cs yAg.rf (by rw [hky_75]; decide)) (by rw [hk_h0]; decide)) 2 (by decide))
                have hE3d_82 : (d_82.1 h0 3).toInt = (d_71.1 h0 3).toInt := congrArg Int32.toInt ((yK.ag (F := []) yK.rf (show yAg S [42] d_71 d_82 from by rw [ed_82]; exact yAg.cs yAg.rf (by rw [hky_75]; decide)) (by rw [hk_h0]; decide)) 3 (by decide))
                have hE63d_82 : (d_82.1 h0 63).toInt = (d_71.1 h0 63).toInt := congrArg Int32.toInt ((yK.ag (F := []) yK.rf (show yAg S [42] d_71 d_82 from by rw [ed_82]; exact yAg.cs yAg.rf (by rw [hky_75]; decide)) (by rw [hk_h0]; decide)) 63 (by decide))
                refine lv_aload_n hx hb dX9_port_184 rfl (lv_at hl 1 rfl) ?_
                refine yget (ci := 9) (k := 13) (v := .ref (S.2.2.1 h0 13)) (C := RX9) (T := TX9) (N := 67) C0 hK hP hm_h0 hk_h0 (by decide) rfl inlX9 (by decide) mW120 (fun _ h9 => h9) rfl dX9_port_185 ?_
                obtain ⟨hmy_83, hky_83⟩ := ySh.f9_13 hSh _ hm_h0 hk_h0
                refine lv_bipush (v := 90) hx hb dX9_port_188 (by decide) ?_
                refine lv_iload_n hx hb dX9_port_190 rfl (lv_at hl 2 rfl) ?_
                refine lv_imul hx hb dX9_port_191 ?_
                refine lv_topi (fun z_84 ez_84 => ?_)
                refine lv_iload hx hb dX9_port_192 (lv_at hl 0 rfl) ?_
                refine lv_iadd hx hb dX9_port_194 ?_
                refine lv_topi (fun z_85 ez_85 => ?_)
                refine lv_iconst (v := 0) hx hb dX9_port_195 (by decide) ?_
                have hCC_86 := yMI.c hId_82
                have T_88 : (z_84 : Int32).toInt = 90 * (p0 : Int32).toInt := tmul ez_84 (by decide +kernel : (90 : Int32).toInt = 90) (rfl : (p0 : Int32).toInt = (p0 : Int32).toInt) (by omega) (by omega)
                have T_87 : (z_85 : Int32).toInt = (z_84 : Int32).toInt + (v_70 : Int32).toInt := tadd ez_85 (rfl : (z_84 : Int32).toInt = (z_84 : Int32).toInt) (rfl : (v_70 : Int32).toInt = (v_70 : Int32).toInt) (by omega) (by omega)
                refine yastZ C0 hK hP hD hS hmy_83 hky_83 (by decide) rfl 3 rfl (xinT 720 rfl (by omega) (by omega)) dX9_port_196 (fun H locs hP hD hS => ?_)
                obtain ⟨d_89, ed_89⟩ : ∃ z : yD, z = ycs d_82 (S.2.2.1 h0 13) (upd (d_82.2.2.2.1 (S.2.2.1 h0 13)) (z_85 : Int32).toNatClampNeg (vp_nar .boolean 0)) := ⟨_, rfl⟩
                rw [← ed_89] at hP hD
                have hgd_89 : yAg S [9, 41, 42, 43, 44, 45, 46, 47, 69] d d_89 := by rw [ed_89]; exact yAg.cs hgd_82 (by rw [hky_83]; decide)
                have hPod_89 : yPo S d_89 := by rw [ed_89]; exact hPod_82
                have hfd_89 : yK [1, 38] d d_89 h0 := yK.ag hfd_82 (show yAg S [43] d_82 d_89 from by rw [ed_89]; exact yAg.cs yAg.rf (by rw [hky_83]; decide)) (by rw [hk_h0]; decide)
                have hL0d_89 : yAg S [42, 43, 44] d_68 d_89 := by rw [ed_89]; exact yAg.cs hL0d_82 (by rw [hky_83]; decide)
                have hK0d_89 : yK [] d_68 d_89 h0 := yK.ag hK0d_82 (show yAg S [43] d_82 d_89 from by rw [ed_89]; exact yAg.cs yAg.rf (by rw [hky_83]; decide)) (by rw [hk_h0]; decide)
                have hId_89 : yMI S d_89 h0 := yMI.ag hId_82 hSh hm_h0 hk_h0 (show yAg S [43] d_82 d_89 from by rw [ed_89]; exact yAg.cs yAg.rf (by rw [hky_83]; decide)) (yK.ag (F := []) yK.rf (show yAg S [43] d_82 d_89 from by rw [ed_89]; exact yAg.cs yAg.rf (by rw [hky_83]; decide)) (by rw [hk_h0]; decide)) (by decide) (by decide)
                have hE0d_89 : (d_89.1 h0 0).toInt = (d_82.1 h0 0).toInt := congrArg Int32.toInt ((yK.ag (F := []) yK.rf (show yAg S [43] d_82 d_89 from by rw [ed_89]; exact yAg.cs yAg.rf (by rw [hky_83]; decide)) (by rw [hk_h0]; decide)) 0 (by decide))
                have hE1d_89 : (d_89.1 h0 1).toInt = (d_82.1 h0 1).toInt := congrArg Int32.toInt ((yK.ag (F := []) yK.rf (show yAg S [43] d_82 d_89 from by rw [ed_89]; exact yAg.cs yAg.rf (by rw [hky_83]; decide)) (by rw [hk_h0]; decide)) 1 (by decide))
                have hE2d_89 : (d_89.1 h0 2).toInt = (d_82.1 h0 2).toInt := congrArg Int32.toInt ((yK.ag (F := []) yK.rf (show yAg S [43] d_82 d_89 from by rw [ed_89]; exact yAg.cs yAg.rf (by rw [hky_83]; decide)) (by rw [hk_h0]; decide)) 2 (by decide))
                have hE3d_89 : (d_89.1 h0 3).toInt = (d_82.1 h0 3).toInt := congrArg Int32.toInt ((yK.ag (F := []) yK.rf (show yAg S [43] d_82 d_89 from by rw [ed_89]; exact yAg.cs yAg.rf (by rw [hky_83]; decide)) (by rw [hk_h0]; decide)) 3 (by decide))
                have hE63d_89 : (d_89.1 h0 63).toInt = (d_82.1 h0 63).toInt := congrArg Int32.toInt ((yK.ag (F := []) yK.rf (show yAg S [43] d_82 d_89 from by rw [ed_89]; exact yAg.cs yAg.rf (by rw [hky_83]; decide)) (by rw [hk_h0]; decide)) 63 (by decide))
                refine lv_aload_n hx hb dX9_port_197 rfl (lv_at hl 1 rfl) ?_
                refine yget (ci := 9) (k := 14) (v := .ref (S.2.2.1 h0 14)) (C := RX9) (T := TX9) (N := 67) C0 hK hP hm_h0 hk_h0 (by decide) rfl inlX9 (by decide) mW121 (fun _ h9 => h9) rfl dX9_port_198 ?_
                obtain ⟨hmy_90, hky_90⟩ := ySh.f9_14 hSh _ hm_h0 hk_h0
                refine lv_bipush (v := 90) hx hb dX9_port_201 (by decide) ?_
                refine lv_iload_n hx hb dX9_port_203 rfl (lv_at hl 2 rfl) ?_
                refine lv_imul hx hb dX9_port_204 ?_
                refine lv_topi (fun z_91 ez_91 => ?_)
                refine lv_iload hx hb dX9_port_205 (lv_at hl 0 rfl) ?_
                refine lv_iadd hx hb dX9_port_207 ?_
                refine lv_topi (fun z_92 ez_92 => ?_)
                refine lv_iconst (v := 0) hx hb dX9_port_208 (by decide) ?_
                have hCC_93 := yMI.c hId_89
                have T_95 : (z_91 : Int32).toInt = 90 * (p0 : Int32).toInt := tmul ez_91 (by decide +kernel : (90 : Int32).toInt = 90) (rfl : (p0 : Int32).toInt = (p0 : Int32).toInt) (by omega) (by omega)
                have T_94 : (z_92 : Int32).toInt = (z_91 : Int32).toInt + (v_70 : Int32).toInt := tadd ez_92 (rfl : (z_91 : Int32).toInt = (z_91 : Int32).toInt) (rfl : (v_70 : Int32).toInt = (v_70 : Int32).toInt) (by omega) (by omega)
                refine yastZ C0 hK hP hD hS hmy_90 hky_90 (by decide) rfl 3 rfl (xinT 720 rfl (by omega) (by omega)) dX9_port_209 (fun H locs hP hD hS => ?_)
                obtain ⟨d_96, ed_96⟩ : ∃ z : yD, z = ycs d_89 (S.2.2.1 h0 14) (upd (d_89.2.2.2.1 (S.2.2.1 h0 14)) (z_92 : Int32).toNatClampNeg (vp_nar .boolean 0)) := ⟨_, rfl⟩
                rw [← ed_96] at hP hD
                have hgd_96 : yAg S [9, 41, 42, 43, 44, 45, 46, 47, 69] d d_96 := by rw [ed_96]; exact yAg.cs hgd_89 (by rw [hky_90]; decide)
                have hPod_96 : yPo S d_96 := by rw [ed_96]; exact hPod_89
                have hfd_96 : yK [1, 38] d d_96 h0 := yK.ag hfd_89 (show yAg S [44] d_89 d_96 from by rw [ed_96]; exact yAg.cs yAg.rf (by rw [hky_90]; decide)) (by rw [hk_h0]; decide)
                have hL0d_96 : yAg S [42, 43, 44] d_68 d_96 := by rw [ed_96]; exact yAg.cs hL0d_89 (by rw [hky_90]; decide)
                have hK0d_96 : yK [] d_68 d_96 h0 := yK.ag hK0d_89 (show yAg S [44] d_89 d_96 from by rw [ed_96]; exact yAg.cs yAg.rf (by rw [hky_90]; decide)) (by rw [hk_h0]; decide)
                have hId_96 : yMI S d_96 h0 := by rw [ed_96]; exact yMI.w14 hId_89 hSh hm_h0 hk_h0 (yBz.up (yMI.z_ hId_89) (Or.inl rfl))
                have hE0d_96 : (d_96.1 h0 0).toInt = (d_89.1 h0 0).toInt := congrArg Int32.toInt ((yK.ag (F := []) yK.rf (show yAg S [44] d_89 d_96 from by rw [ed_96]; exact yAg.cs yAg.rf (by rw [hky_90]; decide)) (by rw [hk_h0]; decide)) 0 (by decide))
                have hE1d_96 : (d_96.1 h0 1).toInt = (d_89.1 h0 1).toInt := congrArg Int32.toInt ((yK.ag (F := []) yK.rf (show yAg S [44] d_89 d_96 from by rw [ed_96]; exact yAg.cs yAg.rf (by rw [hky_90]; decide)) (by rw [hk_h0]; decide)) 1 (by decide))
                have hE2d_96 : (d_96.1 h0 2).toInt = (d_89.1 h0 2).toInt := congrArg Int32.toInt ((yK.ag (F := []) yK.rf (show yAg S [44] d_89 d_96 from by rw [ed_96]; exact yAg.cs yAg.rf (by rw [hky_90]; decide)) (by rw [hk_h0]; decide)) 2 (by decide))
                have hE3d_96 : (d_96.1 h0 3).toInt = (d_89.1 h0 3).toInt := congrArg Int32.toInt ((yK.ag (F := []) yK.rf (show yAg S [44] d_89 d_96 from by rw [ed_96]; exact yAg.cs yAg.rf (by rw [hky_90]; decide)) (by rw [hk_h0]; decide)) 3 (by decide))
                have hE63d_96 : (d_96.1 h0 63).toInt = (d_89.1 h0 63).toInt := congrArg Int32.toInt ((yK.ag (F := []) yK.rf (show yAg S [44] d_89 d_96 from by rw [ed_96]; exact yAg.cs yAg.rf (by rw [hky_90]; decide)) (by rw [hk_h0]; decide)) 63 (by decide))
                refine lv_iinc (v := v_70 + 1) (lv' := [(5, .int (v_70 + 1)), (0, .ref h0), (1, .int p0)]) hx hb dX9_port_210 hl (k := 0) rfl rfl (by decide) rfl (fun ls hl => ?_)
                refine lv_goto (tgt := 162) hx hb dX9_port_213 (by decide) ?_
                have hCC_98 := yMI.c hId_96
                have T_99 : ((v_70 + 1) : Int32).toInt = (v_70 : Int32).toInt + 1 := tadd rfl (rfl : (v_70 : Int32).toInt = (v_70 : Int32).toInt) (by decide +kernel : (1 : Int32).toInt = 1) (by omega) (by omega)
                exact hnext_72 (v_70 + 1, d_96) _ _ ls (xup c_74) ⟨hP, hD, hS, hgd_96, hPod_96, hfd_96, hId_96, hL0d_96, hK0d_96, (show (0 ≤ (((v_70 + 1)) : Int32).toInt) from by have hq0_ : (0 : Int32).toInt = 0 := (by decide +kernel); omega), lv_sub hl [0, 1, 2] rfl⟩
            · refine lv_aload_n hx hb dX9_port_70 rfl (lv_at hl 1 rfl) ?_
              refine yget (ci := 9) (k := 11) (v := .ref (S.2.2.1 h0 11)) (C := RX9) (T := TX9) (N := 67) C0 hK hP hm_h0 hk_h0 (by decide) rfl inlX9 (by decide) mW116 (fun _ h9 => h9) rfl dX9_port_71 ?_
              obtain ⟨hmy_100, hky_100⟩ := ySh.f9_11 hSh _ hm_h0 hk_h0
              refine lv_bipush (v := 12) hx hb dX9_port_74 (by decide) ?_
              refine lv_iload_n hx hb dX9_port_76 rfl (lv_at hl 2 rfl) ?_
              refine lv_imul hx hb dX9_port_77 ?_
              refine lv_topi (fun z_101 ez_101 => ?_)
              refine lv_iload hx hb dX9_port_78 (lv_at hl 0 rfl) ?_
              refine lv_iadd hx hb dX9_port_80 ?_
              refine lv_topi (fun z_102 ez_102 => ?_)
              refine lv_lconst (v := 0) hx hb dX9_port_81 (by decide) ?_
              have hCC_103 := yMI.c hId_26
              have F_104 := fnle (by decide +kernel : (12 : Int32).toInt = 12) (rfl : (v_25 : Int32).toInt = (v_25 : Int32).toInt) c_29
              have T_106 : (z_101 : Int32).toInt = 12 * (p0 : Int32).toInt := tmul ez_101 (by decide +kernel : (12 : Int32).toInt = 12) (rfl : (p0 : Int32).toInt = (p0 : Int32).toInt) (by omega) (by omega)
              have T_105 : (z_102 : Int32).toInt = (z_101 : Int32).toInt + (v_25 : Int32).toInt := tadd ez_102 (rfl : (z_101 : Int32).toInt = (z_101 : Int32).toInt) (rfl : (v_25 : Int32).toInt = (v_25 : Int32).toInt) (by omega) (by omega)
              refine yastJ C0 hK hP hD hS hmy_100 hky_100 (by decide) rfl 4 rfl (xinT 96 rfl (by omega) (by omega)) dX9_port_82 (fun H locs hP hD hS => ?_)
              obtain ⟨d_107, ed_107⟩ : ∃ z : yD, z = ye d_26 (S.2.2.1 h0 11) (z_102 : Int32).toNatClampNeg 0 := ⟨_, rfl⟩
              rw [← ed_107] at hP hD
              have hgd_107 : yAg S [9, 41, 42, 43, 44, 45, 46, 47, 69] d d_107 := by rw [ed_107]; exact yAg.e hgd_26 (by rw [hky_100]; decide)
              have hPod_107 : yPo S d_107 := by rw [ed_107]; exact hPod_26
              have hfd_107 : yK [1, 38] d d_107 h0 := yK.ag hfd_26 (show yAg S [41] d_26 d_107 from by rw [ed_107]; exact yAg.e yAg.rf (by rw [hky_100]; decide)) (by rw [hk_h0]; decide)
              have hL0d_107 : yAg S [41] d_18 d_107 := by rw [ed_107]; exact yAg.e hLJd_26 (by rw [hky_100]; decide)
              have hK0d_107 : yK [] d_18 d_107 h0 := yK.ag hKJd_26 (show yAg S [41] d_26 d_107 from by rw [ed_107]; exact yAg.e yAg.rf (by rw [hky_100]; decide)) (by rw [hk_h0]; decide)
              have T_108 : (0 : Int64).toInt = 0 := by decide +kernel
              have hId_107 : yMI S d_107 h0 := by rw [ed_107]; exact yMI.w11 hId_26 hSh hm_h0 hk_h0 (yBp.up (yMI.bp_ hId_26) (fun p hp e => by have e_ : (z_102 : Int32).toInt.toNat = 12 * p + 1 := e; refine ⟨?_, ?_⟩ <;> omega) (fun p hp e => by have e_ : (z_102 : Int32).toInt.toNat = 12 * p + 2 := e; refine ⟨?_, ?_⟩ <;> omega) (fun p hp e => by have e_ : (z_102 : Int32).toInt.toNat = 12 * p + 6 := e; refine ⟨?_, ?_⟩ <;> omega))
              have hE0d_107 : (d_107.1 h0 0).toInt = (d_26.1 h0 0).toInt := congrArg Int32.toInt ((yK.ag (F := []) yK.rf (show yAg S [41] d_26 d_107 from by rw [ed_107]; exact yAg.e yAg.rf (by rw [hky_100]; decide)) (by rw [hk_h0]; decide)) 0 (by decide))
              have hE1d_107 : (d_107.1 h0 1).toInt = (d_26.1 h0 1).toInt := congrArg Int32.toInt ((yK.ag (F := []) yK.rf (show yAg S [41] d_26 d_107 from by rw [ed_107]; exact yAg.e yAg.rf (by rw [hky_100]; decide)) (by rw [hk_h0]; decide)) 1 (by decide))
              have hE2d_107 : (d_107.1 h0 2).toInt = (d_26.1 h0 2).toInt := congrArg Int32.toInt ((yK.ag (F := []) yK.rf (show yAg S [41] d_26 d_107 from by rw [ed_107]; exact yAg.e yAg.rf (by rw [hky_100]; decide)) (by rw [hk_h0]; decide)) 2 (by decide))
              have hE3d_107 : (d_107.1 h0 3).toInt = (d_26.1 h0 3).toInt := congrArg Int32.toInt ((yK.ag (F := []) yK.rf (show yAg S [41] d_26 d_107 from by rw [ed_107]; exact yAg.e yAg.rf (by rw [hky_100]; decide)) (by rw [hk_h0]; decide)) 3 (by decide))
              have hE63d_107 : (d_107.1 h0 63).toInt = (d_26.1 h0 63).toInt := congrArg Int32.toInt ((yK.ag (F := []) yK.rf (show yAg S [41] d_26 d_107 from by rw [ed_107]; exact yAg.e yAg.rf (by rw [hky_100]; decide)) (by rw [hk_h0]; decide)) 63 (by decide))
              refine lv_iinc (v := v_25 + 1) (lv' := [(5, .int (v_25 + 1)), (0, .ref h0), (1, .int p0), (2, .int p1), (3, .int p2)]) hx hb dX9_port_83 hl (k := 0) rfl rfl (by decide) rfl (fun ls hl => ?_)
              refine lv_goto (tgt := 63) hx hb dX9_port_86 (by decide) ?_
              have hCC_110 := yMI.c hId_107
              have T_111 : ((v_25 + 1) : Int32).toInt = (v_25 : Int32).toInt + 1 := tadd rfl (rfl : (v_25 : Int32).toInt = (v_25 : Int32).toInt) (by decide +kernel : (1 : Int32).toInt = 1) (by omega) (by omega)
              exact hnext_27 (v_25 + 1, d_107) _ _ ls (xup c_29) ⟨hP, hD, hS, hgd_107, hPod_107, hfd_107, hId_107, hL0d_107, hK0d_107, (show (0 ≤ (((v_25 + 1)) : Int32).toInt) from by have hq0_ : (0 : Int32).toInt = 0 := (by decide +kernel); omega), lv_sub hl [0, 1, 2, 3, 4] rfl⟩
          · refine lv_aload_n hx hb dX9_port_42 rfl (lv_at hl 1 rfl) ?_
            refine lv_iload hx hb dX9_port_43 (lv_at hl 0 rfl) ?_
            have F_112 := fnlt (rfl : (p0 : Int32).toInt = (p0 : Int32).toInt) (by decide +kernel : (0 : Int32).toInt = 0) c_2
            have F_113 := fnle (by decide +kernel : (8 : Int32).toInt = 8) (rfl : (p0 : Int32).toInt = (p0 : Int32).toInt) c_6
            have F_114 := fnlt (rfl : (p2 : Int32).toInt = (p2 : Int32).toInt) (by decide +kernel : (1 : Int32).toInt = 1) c_10
            have F_115 := fle (rfl : (p2 : Int32).toInt = (p2 : Int32).toInt) (by decide +kernel : (90 : Int32).toInt = 90) c_14
            have F_116 := fne (rfl : (r_15 : Int32).toInt = (r_15 : Int32).toInt) (by decide +kernel : (0 : Int32).toInt = 0) c_16
            refine yVwi (As := [.int r_15]) (rest := []) C0 (g_X9_no l G S d_1 h0 r_15 hSh hPod_1 hm_h0 hk_h0 (by refine ⟨?_, ?_⟩ <;> omega)) ok_X9_no (mW177 : Cond.methodLink RX9 168 yX9_no ∈ wsT) ⟨Nat.le_of_ble_eq_true rfl, Nat.le_of_ble_eq_true rfl⟩ hP hD hS hA hK hN hm_h0 hk_h0 (by decide) rfl rfl rfl hl.1 rfl (Nat.le_of_ble_eq_true rfl) ⟨Nat.le_of_ble_eq_true rfl, Nat.le_of_ble_eq_true rfl⟩ dX9_port_45 (fun r_117 d_118 H locs hr_117 hP hD hS => ?_)
            obtain ⟨hgad_118, hpad_118, hfad_118, hxd_118⟩ := hr_117
            have hfd_118 : yK [1, 38] d d_118 h0 := yK.tr hfd_1 hfad_118 (by decide)
            have hE0d_118 : (d_118.1 h0 0).toInt = (d_1.1 h0 0).toInt := congrArg Int32.toInt (hfad_118 0 (by decide))
            have hE1d_118 : (d_118.1 h0 1).toInt = (d_1.1 h0 1).toInt := congrArg Int32.toInt (hfad_118 1 (by decide))
            have hE2d_118 : (d_118.1 h0 2).toInt = (d_1.1 h0 2).toInt := congrArg Int32.toInt (hfad_118 2 (by decide))
            have hE3d_118 : (d_118.1 h0 3).toInt = (d_1.1 h0 3).toInt := congrArg Int32.toInt (hfad_118 3 (by decide))
            have hE63d_118 : (d_118.1 h0 63).toInt = (d_1.1 h0 63).toInt := congrArg Int32.toInt (hfad_118 63 (by decide))
            have hId_118 : yMI S d_118 h0 := yMI.ag hId_1 hSh hm_h0 hk_h0 hgad_118 hfad_118 (by decide) (by decide)
            have hgd_118 : yAg S [9, 41, 42, 43, 44, 45, 46, 47, 69] d d_118 := yAg.tr hgd_1 hgad_118 (by first | decide | exact fun _ h => h)
            have hPod_118 : yPo S d_118 := hpad_118 hPod_1
            refine lv_pop hx hb dX9_port_48 rfl ?_
            refine lv_iconst (v := 0) hx hb dX9_port_49 (by decide) ?_
            exact W.zret (v := 0) (ty := .boolean) hx hb hr rfl (fun t ht hW => ⟨⟨0, d_118, rfl, ⟨hgd_118, (fun _ => hPod_118), hfd_118, hId_118⟩, by rw [ht]; exact hP, hD⟩, hS.F ht⟩) hS.2.2 dX9_port_50
        · refine lv_iconst (v := 1) hx hb dX9_port_26 (by decide) ?_
          refine lv_goto (tgt := 35) hx hb dX9_port_27 (by decide) ?_
          refine lv_istore (lv' := [(4, .int 1), (0, .ref h0), (1, .int p0), (2, .int p1), (3, .int p2)]) hx hb dX9_port_35 hl (by decide) rfl (fun ls hl => ?_)
          refine lv_iload hx hb dX9_port_37 (lv_at hl 0 rfl) ?_
          refine lv_if_eq (tgt := 51) hx hb dX9_port_39 (by decide) (fun c_119 => absurd c_119 (by decide +kernel)) (fun c_119 => ?_)
          refine lv_aload_n hx hb dX9_port_42 rfl (lv_at hl 1 rfl) ?_
          refine lv_iload hx hb dX9_port_43 (lv_at hl 0 rfl) ?_
          refine yVwi (As := [.int 1]) (rest := []) C0 (g_X9_no l G S d_1 h0 1 hSh hPod_1 hm_h0 hk_h0 (by decide +kernel)) ok_X9_no (mW177 : Cond.methodLink RX9 168 yX9_no ∈ wsT) ⟨Nat.le_of_ble_eq_true rfl, Nat.le_of_ble_eq_true rfl⟩ hP hD hS hA hK hN hm_h0 hk_h0 (by decide) rfl rfl rfl hl.1 rfl (Nat.le_of_ble_eq_true rfl) ⟨Nat.le_of_ble_eq_true rfl, Nat.le_of_ble_eq_true rfl⟩ dX9_port_45 (fun r_120 d_121 H locs hr_120 hP hD hS => ?_)
          obtain ⟨hgad_121, hpad_121, hfad_121, hxd_121⟩ := hr_120
          have hfd_121 : yK [1, 38] d d_121 h0 := yK.tr hfd_1 hfad_121 (by decide)
          have hE0d_121 : (d_121.1 h0 0).toInt = (d_1.1 h0 0).toInt := congrArg Int32.toInt (hfad_121 0 (by decide))
          have hE1d_121 : (d_121.1 h0 1).toInt = (d_1.1 h0 1).toInt := congrArg Int32.toInt (hfad_121 1 (by decide))
          have hE2d_121 : (d_121.1 h0 2).toInt = (d_1.1 h0 2).toInt := congrArg Int32.toInt (hfad_121 2 (by decide))
          have hE3d_121 : (d_121.1 h0 3).toInt = (d_1.1 h0 3).toInt := congrArg Int32.toInt (hfad_121 3 (by decide))
          have hE63d_121 : (d_121.1 h0 63).toInt = (d_1.1 h0 63).toInt := congrArg Int32.toInt (hfad_121 63 (by decide))
          have hId_121 : yMI S d_121 h0 := yMI.ag hId_1 hSh hm_h0 hk_h0 hgad_121 hfad_121 (by decide) (by decide)
          have hgd_121 : yAg S [9, 41, 42, 43, 44, 45, 46, 47, 69] d d_121 := yAg.tr hgd_1 hgad_121 (by first | decide | exact fun _ h => h)
          have hPod_121 : yPo S d_121 := hpad_121 hPod_1
          refine lv_pop hx hb dX9_port_48 rfl ?_
          refine lv_iconst (v := 0) hx hb dX9_port_49 (by decide) ?_
          exact W.zret (v := 0) (ty := .boolean) hx hb hr rfl (fun t ht hW => ⟨⟨0, d_121, rfl, ⟨hgd_121, (fun _ => hPod_121), hfd_121, hId_121⟩, by rw [ht]; exact hP, hD⟩, hS.F ht⟩) hS.2.2 dX9_port_50
