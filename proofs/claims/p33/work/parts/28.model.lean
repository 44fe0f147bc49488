theorem dX9_clear_0 : decode cX9_clear 0 = .ok (.iconst 0, 1) := by decide +kernel
theorem dX9_clear_1 : decode cX9_clear 1 = .ok (.istore 4, 2) := by decide +kernel
theorem dX9_clear_3 : decode cX9_clear 3 = .ok (.iconst 0, 1) := by decide +kernel
theorem dX9_clear_4 : decode cX9_clear 4 = .ok (.istore 5, 2) := by decide +kernel
theorem dX9_clear_6 : decode cX9_clear 6 = .ok (.iload 5, 2) := by decide +kernel
theorem dX9_clear_8 : decode cX9_clear 8 = .ok (.aload_n 0, 1) := by decide +kernel
theorem dX9_clear_9 : decode cX9_clear 9 = .ok (.getfield 180, 3) := by decide +kernel
theorem dX9_clear_12 : decode cX9_clear 12 = .ok (.if_icmp .ge 111, 3) := by decide +kernel
theorem dX9_clear_15 : decode cX9_clear 15 = .ok (.aload_n 0, 1) := by decide +kernel
theorem dX9_clear_16 : decode cX9_clear 16 = .ok (.getfield 51, 3) := by decide +kernel
theorem dX9_clear_19 : decode cX9_clear 19 = .ok (.iload 5, 2) := by decide +kernel
theorem dX9_clear_21 : decode cX9_clear 21 = .ok (.baload, 1) := by decide +kernel
theorem dX9_clear_22 : decode cX9_clear 22 = .ok (.iload_n 1, 1) := by decide +kernel
theorem dX9_clear_23 : decode cX9_clear 23 = .ok (.if_icmp .ne 29, 3) := by decide +kernel
theorem dX9_clear_26 : decode cX9_clear 26 = .ok (.aload_n 0, 1) := by decide +kernel
theorem dX9_clear_27 : decode cX9_clear 27 = .ok (.getfield 54, 3) := by decide +kernel
theorem dX9_clear_30 : decode cX9_clear 30 = .ok (.iload 5, 2) := by decide +kernel
theorem dX9_clear_32 : decode cX9_clear 32 = .ok (.iaload, 1) := by decide +kernel
theorem dX9_clear_33 : decode cX9_clear 33 = .ok (.iload_n 2, 1) := by decide +kernel
theorem dX9_clear_34 : decode cX9_clear 34 = .ok (.if_icmp .lt 18, 3) := by decide +kernel
theorem dX9_clear_37 : decode cX9_clear 37 = .ok (.aload_n 0, 1) := by decide +kernel
theorem dX9_clear_38 : decode cX9_clear 38 = .ok (.getfield 54, 3) := by decide +kernel
theorem dX9_clear_41 : decode cX9_clear 41 = .ok (.iload 5, 2) := by decide +kernel
theorem dX9_clear_43 : decode cX9_clear 43 = .ok (.iaload, 1) := by decide +kernel
theorem dX9_clear_44 : decode cX9_clear 44 = .ok (.iload_n 3, 1) := by decide +kernel
theorem dX9_clear_45 : decode cX9_clear 45 = .ok (.if_icmp .ge 7, 3) := by decide +kernel
theorem dX9_clear_48 : decode cX9_clear 48 = .ok (.iconst 1, 1) := by decide +kernel
theorem dX9_clear_49 : decode cX9_clear 49 = .ok (.goto 4, 3) := by decide +kernel
theorem dX9_clear_52 : decode cX9_clear 52 = .ok (.iconst 0, 1) := by decide +kernel
theorem dX9_clear_53 : decode cX9_clear 53 = .ok (.istore 6, 2) := by decide +kernel
theorem dX9_clear_55 : decode cX9_clear 55 = .ok (.iload 6, 2) := by decide +kernel
theorem dX9_clear_57 : decode cX9_clear 57 = .ok (.ifCond .eq 9, 3) := by decide +kernel
theorem dX9_clear_60 : decode cX9_clear 60 = .ok (.iinc 4 1, 3) := by decide +kernel
theorem dX9_clear_63 : decode cX9_clear 63 = .ok (.goto 54, 3) := by decide +kernel
theorem dX9_clear_66 : decode cX9_clear 66 = .ok (.aload_n 0, 1) := by decide +kernel
theorem dX9_clear_67 : decode cX9_clear 67 = .ok (.getfield 51, 3) := by decide +kernel
theorem dX9_clear_70 : decode cX9_clear 70 = .ok (.iload 5, 2) := by decide +kernel
theorem dX9_clear_72 : decode cX9_clear 72 = .ok (.iload 4, 2) := by decide +kernel
theorem dX9_clear_74 : decode cX9_clear 74 = .ok (.isub, 1) := by decide +kernel
theorem dX9_clear_75 : decode cX9_clear 75 = .ok (.aload_n 0, 1) := by decide +kernel
theorem dX9_clear_76 : decode cX9_clear 76 = .ok (.getfield 51, 3) := by decide +kernel
theorem dX9_clear_79 : decode cX9_clear 79 = .ok (.iload 5, 2) := by decide +kernel
theorem dX9_clear_81 : decode cX9_clear 81 = .ok (.baload, 1) := by decide +kernel
theorem dX9_clear_82 : decode cX9_clear 82 = .ok (.bastore, 1) := by decide +kernel
theorem dX9_clear_83 : decode cX9_clear 83 = .ok (.aload_n 0, 1) := by decide +kernel
theorem dX9_clear_84 : decode cX9_clear 84 = .ok (.getfield 54, 3) := by decide +kernel
theorem dX9_clear_87 : decode cX9_clear 87 = .ok (.iload 5, 2) := by decide +kernel
theorem dX9_clear_89 : decode cX9_clear 89 = .ok (.iload 4, 2) := by decide +kernel
theorem dX9_clear_91 : decode cX9_clear 91 = .ok (.isub, 1) := by decide +kernel
theorem dX9_clear_92 : decode cX9_clear 92 = .ok (.aload_n 0, 1) := by decide +kernel
theorem dX9_clear_93 : decode cX9_clear 93 = .ok (.getfield 54, 3) := by decide +kernel
theorem dX9_clear_96 : decode cX9_clear 96 = .ok (.iload 5, 2) := by decide +kernel
theorem dX9_clear_98 : decode cX9_clear 98 = .ok (.iaload, 1) := by decide +kernel
theorem dX9_clear_99 : decode cX9_clear 99 = .ok (.iastore, 1) := by decide +kernel
theorem dX9_clear_100 : decode cX9_clear 100 = .ok (.aload_n 0, 1) := by decide +kernel
theorem dX9_clear_101 : decode cX9_clear 101 = .ok (.getfield 57, 3) := by decide +kernel
theorem dX9_clear_104 : decode cX9_clear 104 = .ok (.iload 5, 2) := by decide +kernel
theorem dX9_clear_106 : decode cX9_clear 106 = .ok (.iload 4, 2) := by decide +kernel
theorem dX9_clear_108 : decode cX9_clear 108 = .ok (.isub, 1) := by decide +kernel
theorem dX9_clear_109 : decode cX9_clear 109 = .ok (.aload_n 0, 1) := by decide +kernel
theorem dX9_clear_110 : decode cX9_clear 110 = .ok (.getfield 57, 3) := by decide +kernel
theorem dX9_clear_113 : decode cX9_clear 113 = .ok (.iload 5, 2) := by decide +kernel
theorem dX9_clear_115 : decode cX9_clear 115 = .ok (.baload, 1) := by decide +kernel
theorem dX9_clear_116 : decode cX9_clear 116 = .ok (.bastore, 1) := by decide +kernel
theorem dX9_clear_117 : decode cX9_clear 117 = .ok (.iinc 5 1, 3) := by decide +kernel
theorem dX9_clear_120 : decode cX9_clear 120 = .ok (.goto (-114), 3) := by decide +kernel
theorem dX9_clear_123 : decode cX9_clear 123 = .ok (.aload_n 0, 1) := by decide +kernel
theorem dX9_clear_124 : decode cX9_clear 124 = .ok (.dup, 1) := by decide +kernel
theorem dX9_clear_125 : decode cX9_clear 125 = .ok (.getfield 180, 3) := by decide +kernel
theorem dX9_clear_128 : decode cX9_clear 128 = .ok (.iload 4, 2) := by decide +kernel
theorem dX9_clear_130 : decode cX9_clear 130 = .ok (.isub, 1) := by decide +kernel
theorem dX9_clear_131 : decode cX9_clear 131 = .ok (.putfield 180, 3) := by decide +kernel
theorem dX9_clear_134 : decode cX9_clear 134 = .ok (.iload 4, 2) := by decide +kernel
theorem dX9_clear_136 : decode cX9_clear 136 = .ok (.ireturn, 1) := by decide +kernel
set_option maxHeartbeats 4000000 in
set_option maxRecDepth 100000 in
theorem g_X9_clear (l : Launch) (G : xG) (S : yS) (d : yD) (h0 : Nat) (p0 : Int32) (p1 : Int32) (p2 : Int32) (hSh : ySh S) (hPo : yPo S d) (hm_h0 : h0 ∈ S.1) (hk_h0 : S.2.1 h0 = 9) (hI : yMI S d h0) : xWi l G yX9_clear cX9_clear 7 (some .int) 0 0 0 0 [.ref h0, .int p0, .int p1, .int p2] (yW G S d) (fun r (u : yD) => yAg S [9, 45, 46, 47] d u ∧ (yPo S d → yPo S u) ∧ yK [1] d u h0 ∧ (yMI S u h0 ∧ (u.1 h0 1).toInt = (d.1 h0 1).toInt - r.toInt ∧ 0 ≤ r.toInt ∧ r.toInt = (ycn (yPc S d h0 p0 p1 p2) (d.1 h0 1).toInt.toNat : Int))) (fun u => yW G S u) := by
  intro sz
  refine xstart (by decide) (Nat.le_of_ble_eq_true rfl) (fun p e s m args below meth c ls C0 hr hlocks hin hsz hP hK hD hN hl => ?_)
  obtain ⟨hx, hb, hml, hown, htl⟩ := id C0
  subst hsz
  have hD := hD.self (sz := s.heap.size)
  generalize hAe : va_A (yW G S d) s.heap.size = A at hD ⊢
  have hA : ∀ q : Nat, s.heap.size ≤ q → A q := fun q h => by rw [← hAe]; exact Or.inr h
  have hS : va_S A s.heap s.heap [] := va_S.rf
  have hg0 : yAg S [9, 45, 46, 47] d d := yAg.rf
  have hl : lv_has ls 7 [(0, .ref h0), (1, .int p0), (2, .int p1), (3, .int p2)] := hl
  refine lv_iconst (v := 0) hx hb dX9_clear_0 (by decide) ?_
  refine lv_istore (lv' := [(4, .int 0), (0, .ref h0), (1, .int p0), (2, .int p1), (3, .int p2)]) hx hb dX9_clear_1 hl (by decide) rfl (fun ls hl => ?_)
  refine lv_iconst (v := 0) hx hb dX9_clear_3 (by decide) ?_
  refine lv_istore (lv' := [(5, .int 0), (4, .int 0), (0, .ref h0), (1, .int p0), (2, .int p1), (3, .int p2)]) hx hb dX9_clear_4 hl (by decide) rfl (fun ls hl => ?_)
  refine yloop (σ := Int32 × Int32 × yD) (fun x => (2147483647 - (x.2.1 : Int32).toInt).toNat) 6 (fun x H locs ls => va_P G.1 xcl (yW G S x.2.2) H ∧ va_D A (yW G S x.2.2) ∧ va_S A s.heap H locs ∧ yAg S [9, 45, 46, 47] d x.2.2 ∧ yPo S x.2.2 ∧ yK [1] d x.2.2 h0 ∧ yMI S x.2.2 h0 ∧ (yCl S d x.2.2 h0 p0 p1 p2 x.1 x.2.1) ∧ lv_has ls 7 [(5, .int x.2.1), (4, .int x.1), (0, .ref h0), (1, .int p0), (2, .int p1), (3, .int p2)]) (fun x H locs ls hI hnext_4 => ?_) (0, 0, d) ⟨hP, hD, hS, hg0, hPo, yK.rf, hI, (yCl.ini hI), lv_sub hl [0, 1, 2, 3, 4, 5] rfl⟩
  obtain ⟨v_1, v_2, d_3⟩ := x
  obtain ⟨hP, hD, hS, hgd_3, hPod_3, hfd_3, hId_3, hex_5, hl⟩ := hI
  have hId_3 : yMI S d_3 h0 := hId_3
  have hex_5 : (yCl S d d_3 h0 p0 p1 p2 v_1 v_2) := hex_5
  have hl : lv_has ls 7 [(5, .int v_2), (4, .int v_1), (0, .ref h0), (1, .int p0), (2, .int p1), (3, .int p2)] := hl
  obtain ⟨hy1, hy2, hy3, hy4, -, -⟩ := id hex_5
  have hy5 : (d_3.1 h0 1).toInt = (d.1 h0 1).toInt := congrArg Int32.toInt hy4
  refine lv_iload hx hb dX9_clear_6 (lv_at hl 0 rfl) ?_
  refine lv_aload_n hx hb dX9_clear_8 rfl (lv_at hl 2 rfl) ?_
  refine yget (ci := 9) (k := 1) (v := .int (d_3.1 h0 1)) (C := RX9) (T := TX9) (N := 67) C0 hK hP hm_h0 hk_h0 (by decide) rfl inlX9 (by decide) mW364 (fun _ h9 => h9) rfl dX9_clear_9 ?_
  refine lv_topi (fun z_6 ez_6 => ?_)
  refine lv_icmp_ge (tgt := 123) hx hb dX9_clear_12 (by decide) (fun c_7 => ?_) (fun c_7 => ?_)
  · obtain ⟨hq1, hq2, hq3, hq4⟩ := yCl.end hex_5 ez_6 c_7
    have hq5 : (d_3.1 h0 1).toInt = (d.1 h0 1).toInt := congrArg Int32.toInt hq4
    refine lv_aload_n hx hb dX9_clear_123 rfl (lv_at hl 2 rfl) ?_
    refine lv_dup hx hb dX9_clear_124 rfl ?_
    refine yget (ci := 9) (k := 1) (v := .int (d_3.1 h0 1)) (C := RX9) (T := TX9) (N := 67) C0 hK hP hm_h0 hk_h0 (by decide) rfl inlX9 (by decide) mW364 (fun _ h9 => h9) rfl dX9_clear_125 ?_
    refine lv_topi (fun z_8 ez_8 => ?_)
    refine lv_iload hx hb dX9_clear_128 (lv_at hl 1 rfl) ?_
    refine lv_isub hx hb dX9_clear_130 ?_
    refine lv_topi (fun z_9 ez_9 => ?_)
    refine yputI (ci := 9) (k := 1) (ty := .int) (C := RX9) (T := TX9) (N := 67) C0 hK hP hD hS hm_h0 hk_h0 (by decide) rfl inlX9 tyX9 tyX9_ok nmX9 (by decide) mW364 (fun _ h9 => h9) rfl (by decide +kernel) rfl rfl (Nat.le_of_ble_eq_true rfl) ysi_9_1 dX9_clear_131 (fun H locs hP hD hS => ?_)
    obtain ⟨d_10, ed_10⟩ : ∃ z : yD, z = yi d_3 h0 1 z_9 := ⟨_, rfl⟩
    rw [← ed_10] at hP hD
    have hgd_10 : yAg S [9, 45, 46, 47] d d_10 := by rw [ed_10]; exact yAg.i hgd_3 (by rw [hk_h0]; decide)
    have hPod_10 : yPo S d_10 := by rw [ed_10]; exact yPo.i hPod_3 hk_h0 (Or.inl rfl)
    have hfd_10 : yK [1] d d_10 h0 := by rw [ed_10]; exact yK.i hfd_3 (by decide)
    have hCC_11 := yMI.c hId_3
    have T_12 : (z_6 : Int32).toInt = (d_3.1 h0 1).toInt := by rw [ez_6]
    have F_13 := fle (rfl : (z_6 : Int32).toInt = (z_6 : Int32).toInt) (rfl : (v_2 : Int32).toInt = (v_2 : Int32).toInt) c_7
    have T_15 : (z_8 : Int32).toInt = (d_3.1 h0 1).toInt := by rw [ez_8]
    have T_14 : (z_9 : Int32).toInt = (z_8 : Int32).toInt - (v_1 : Int32).toInt := tsub ez_9 (rfl : (z_8 : Int32).toInt = (z_8 : Int32).toInt) (rfl : (v_1 : Int32).toInt = (v_1 : Int32).toInt) (by omega) (by omega)
    have hId_10 : yMI S d_10 h0 := by rw [ed_10]; exact yMI.i1 hId_3 ⟨by omega, by omega⟩
    have hE0d_10 : (d_10.1 h0 0).toInt = (d_3.1 h0 0).toInt := congrArg Int32.toInt ((show yK [1] d_3 d_10 h0 from by rw [ed_10]; exact yK.i yK.rf (by decide)) 0 (by decide))
    have hE1d_10 : (d_10.1 h0 1).toInt = (z_9 : Int32).toInt := by rw [ed_10, yi_self]
    have hE2d_10 : (d_10.1 h0 2).toInt = (d_3.1 h0 2).toInt := congrArg Int32.toInt ((show yK [1] d_3 d_10 h0 from by rw [ed_10]; exact yK.i yK.rf (by decide)) 2 (by decide))
    have hE3d_10 : (d_10.1 h0 3).toInt = (d_3.1 h0 3).toInt := congrArg Int32.toInt ((show yK [1] d_3 d_10 h0 from by rw [ed_10]; exact yK.i yK.rf (by decide)) 3 (by decide))
    have hE63d_10 : (d_10.1 h0 63).toInt = (d_3.1 h0 63).toInt := congrArg Int32.toInt ((show yK [1] d_3 d_10 h0 from by rw [ed_10]; exact yK.i yK.rf (by decide)) 63 (by decide))
    refine lv_iload hx hb dX9_clear_134 (lv_at hl 1 rfl) ?_
    have hCC_16 := yMI.c hId_10
    exact W.iret (v := v_1) hx hb hr (fun t ht hW => ⟨⟨v_1, d_10, rfl, ⟨hgd_10, (fun _ => hPod_10), hfd_10, ⟨hId_10, by omega, hq2, hq1⟩⟩, by rw [ht]; exact hP, hD⟩, hS.F ht⟩) hS.2.2 dX9_clear_136
  · refine lv_aload_n hx hb dX9_clear_15 rfl (lv_at hl 2 rfl) ?_
    refine yget (ci := 9) (k := 15) (v := .ref (S.2.2.1 h0 15)) (C := RX9) (T := TX9) (N := 67) C0 hK hP hm_h0 hk_h0 (by decide) rfl inlX9 (by decide) mW122 (fun _ h9 => h9) rfl dX9_clear_16 ?_
    obtain ⟨hmy_17, hky_17⟩ := ySh.f9_15 hSh _ hm_h0 hk_h0
    refine lv_iload hx hb dX9_clear_19 (lv_at hl 0 rfl) ?_
    have hCC_18 := yMI.c hId_3
    have T_19 : (z_6 : Int32).toInt = (d_3.1 h0 1).toInt := by rw [ez_6]
    have F_20 := fnle (rfl : (z_6 : Int32).toInt = (z_6 : Int32).toInt) (rfl : (v_2 : Int32).toInt = (v_2 : Int32).toInt) c_7
    refine yaldB C0 hK hP hmy_17 hky_17 (by decide) rfl 1 rfl (xinT 5000 rfl (by omega) (by omega)) dX9_clear_21 ?_
    refine lv_topi (fun z_21 ez_21 => ?_)
    refine lv_iload_n hx hb dX9_clear_22 rfl (lv_at hl 3 rfl) ?_
    refine lv_icmp_ne (tgt := 52) hx hb dX9_clear_23 (by decide) (fun c_22 => ?_) (fun c_22 => ?_)
    · refine lv_iconst (v := 0) hx hb dX9_clear_52 (by decide) ?_
      refine lv_istore (lv' := [(6, .int 0), (5, .int v_2), (4, .int v_1), (0, .ref h0), (1, .int p0), (2, .int p1), (3, .int p2)]) hx hb dX9_clear_53 hl (by decide) rfl (fun ls hl => ?_)
      refine lv_iload hx hb dX9_clear_55 (lv_at hl 0 rfl) ?_
      refine lv_if_eq (tgt := 66) hx hb dX9_clear_57 (by decide) (fun c_23 => ?_) (fun c_23 => absurd c_23 (by decide +kernel))
      refine lv_aload_n hx hb dX9_clear_66 rfl (lv_at hl 3 rfl) ?_
      refine yget (ci := 9) (k := 15) (v := .ref (S.2.2.1 h0 15)) (C := RX9) (T := TX9) (N := 67) C0 hK hP hm_h0 hk_h0 (by decide) rfl inlX9 (by decide) mW122 (fun _ h9 => h9) rfl dX9_clear_67 ?_
      refine lv_iload hx hb dX9_clear_70 (lv_at hl 1 rfl) ?_
      refine lv_iload hx hb dX9_clear_72 (lv_at hl 2 rfl) ?_
      refine lv_isub hx hb dX9_clear_74 ?_
      refine lv_topi (fun z_24 ez_24 => ?_)
      refine lv_aload_n hx hb dX9_clear_75 rfl (lv_at hl 3 rfl) ?_
      refine yget (ci := 9) (k := 15) (v := .ref (S.2.2.1 h0 15)) (C := RX9) (T := TX9) (N := 67) C0 hK hP hm_h0 hk_h0 (by decide) rfl inlX9 (by decide) mW122 (fun _ h9 => h9) rfl dX9_clear_76 ?_
      refine lv_iload hx hb dX9_clear_79 (lv_at hl 1 rfl) ?_
      have F_26 := fne (rfl : (z_21 : Int32).toInt = (z_21 : Int32).toInt) (rfl : (p0 : Int32).toInt = (p0 : Int32).toInt) c_22
      have F_27 := feq (by decide +kernel : (0 : Int32).toInt = 0) (by decide +kernel : (0 : Int32).toInt = 0) c_23
      refine yaldB C0 hK hP hmy_17 hky_17 (by decide) rfl 1 rfl (xinT 5000 rfl (by omega) (by omega)) dX9_clear_81 ?_
      refine lv_topi (fun z_28 ez_28 => ?_)
      have T_29 : (z_24 : Int32).toInt = (v_2 : Int32).toInt - (v_1 : Int32).toInt := tsub ez_24 (rfl : (v_2 : Int32).toInt = (v_2 : Int32).toInt) (rfl : (v_1 : Int32).toInt = (v_1 : Int32).toInt) (by omega) (by omega)
      refine yastB C0 hK hP hD hS hmy_17 hky_17 (by decide) rfl 1 rfl (xinT 5000 rfl (by omega) (by omega)) dX9_clear_82 (fun H locs hP hD hS => ?_)
      obtain ⟨d_30, ed_30⟩ : ∃ z : yD, z = ycs d_3 (S.2.2.1 h0 15) (upd (d_3.2.2.2.1 (S.2.2.1 h0 15)) (z_24 : Int32).toNatClampNeg (vp_nar .byte z_28)) := ⟨_, rfl⟩
      rw [← ed_30] at hP hD
      have hgd_30 : yAg S [9, 45, 46, 47] d d_30 := by rw [ed_30]; exact yAg.cs hgd_3 (by rw [hky_17]; decide)
      have hPod_30 : yPo S d_30 := by rw [ed_30]; exact hPod_3
      have hfd_30 : yK [1] d d_30 h0 := yK.ag hfd_3 (show yAg S [45] d_3 d_30 from by rw [ed_30]; exact yAg.cs yAg.rf (by rw [hky_17]; decide)) (by rw [hk_h0]; decide)
      have hId_30 : yMI S d_30 h0 := yMI.ag hId_3 hSh hm_h0 hk_h0 (show yAg S [45] d_3 d_30 from by rw [ed_30]; exact yAg.cs yAg.rf (by rw [hky_17]; decide)) (yK.ag (F := []) yK.rf (show yAg S [45] d_3 d_30 from by rw [ed_30]; exact yAg.cs yAg.rf (by rw [hky_17]; decide)) (by rw [hk_h0]; decide)) (by decide) (by decide)
      have hE0d_30 : (d_30.1 h0 0).toInt = (d_3.1 h0 0).toInt := congrArg Int32.toInt ((yK.ag (F := []) yK.rf (show yAg S [45] d_3 d_30 from by rw [ed_30]; exact yAg.cs yAg.rf (by rw [hky_17]; decide)) (by rw [hk_h0]; decide)) 0 (by decide))
      have hE1d_30 : (d_30.1 h0 1).toInt = (d_3.1 h0 1).toInt := congrArg Int32.toInt ((yK.ag (F := []) yK.rf (show yAg S [45] d_3 d_30 from by rw [ed_30]; exact yAg.cs yAg.rf (by rw [hky_17]; decide)) (by rw [hk_h0]; decide)) 1 (by decide))
      have hE2d_30 : (d_30.1 h0 2).toInt = (d_3.1 h0 2).toInt := congrArg Int32.toInt ((yK.ag (F := []) yK.rf (show yAg S [45] d_3 d_30 from by rw [ed_30]; exact yAg.cs yAg.rf (by rw [hky_17]; decide)) (by rw [hk_h0]; decide)) 2 (by decide))
      have hE3d_30 : (d_30.1 h0 3).toInt = (d_3.1 h0 3).toInt := congrArg Int32.toInt ((yK.ag (F := []) yK.rf (show yAg S [45] d_3 d_30 from by rw [ed_30]; exact yAg.cs yAg.rf (by rw [hky_17]; decide)) (by rw [hk_h0]; decide)) 3 (by decide))
      have hE63d_30 : (d_30.1 h0 63).toInt = (d_3.1 h0 63).toInt := congrArg Int32.toInt ((yK.ag (F := []) yK.rf (show yAg S [45] d_3 d_30 from by rw [ed_30]; exact yAg.cs yAg.rf (by rw [hky_17]; decide)) (by rw [hk_h0]; decide)) 63 (by decide))
      refine lv_aload_n hx hb dX9_clear_83 rfl (lv_at hl 3 rfl) ?_
      refine yget (ci := 9) (k := 16) (v := .ref (S.2.2.1 h0 16)) (C := RX9) (T := TX9) (N := 67) C0 hK hP hm_h0 hk_h0 (by decide) rfl inlX9 (by decide) mW123 (fun _ h9 => h9) rfl dX9_clear_84 ?_
      obtain ⟨hmy_31, hky_31⟩ := ySh.f9_16 hSh _ hm_h0 hk_h0
      refine lv_iload hx hb dX9_clear_87 (lv_at hl 1 rfl) ?_
      refine lv_iload hx hb dX9_clear_89 (lv_at hl 2 rfl) ?_
      refine lv_isub hx hb dX9_clear_91 ?_
      refine lv_topi (fun z_32 ez_32 => ?_)
      refine lv_aload_n hx hb dX9_clear_92 rfl (lv_at hl 3 rfl) ?_
      refine yget (ci := 9) (k := 16) (v := .ref (S.2.2.1 h0 16)) (C := RX9) (T := TX9) (N := 67) C0 hK hP hm_h0 hk_h0 (by decide) rfl inlX9 (by decide) mW123 (fun _ h9 => h9) rfl dX9_clear_93 ?_
      refine lv_iload hx hb dX9_clear_96 (lv_at hl 1 rfl) ?_
      have hCC_33 := yMI.c hId_30
      refine yald C0 hK hP hmy_31 hky_31 (by decide) rfl 0 rfl (xinT 5000 rfl (by omega) (by omega)) dX9_clear_98 ?_
      refine lv_topi (fun z_34 ez_34 => ?_)
      have hvz_34 : 0 ≤ (z_34 : Int32).toInt ∧ (z_34 : Int32).toInt ≤ 129599 := by rw [ez_34]; exact yMI.em_ hId_30 _
      have T_35 : (z_32 : Int32).toInt = (v_2 : Int32).toInt - (v_1 : Int32).toInt := tsub ez_32 (rfl : (v_2 : Int32).toInt = (v_2 : Int32).toInt) (rfl : (v_1 : Int32).toInt = (v_1 : Int32).toInt) (by omega) (by omega)
      refine yast C0 hK hP hD hS hmy_31 hky_31 (by decide) rfl 0 rfl (xinT 5000 rfl (by omega) (by omega)) dX9_clear_99 (fun H locs hP hD hS => ?_)
      obtain ⟨d_36, ed_36⟩ : ∃ z : yD, z = ycs d_30 (S.2.2.1 h0 16) (upd (d_30.2.2.2.1 (S.2.2.1 h0 16)) (z_32 : Int32).toNatClampNeg z_34) := ⟨_, rfl⟩
      rw [← ed_36] at hP hD
      have hgd_36 : yAg S [9, 45, 46, 47] d d_36 := by rw [ed_36]; exact yAg.cs hgd_30 (by rw [hky_31]; decide)
      have hPod_36 : yPo S d_36 := by rw [ed_36]; exact hPod_30
      have hfd_36 : yK [1] d d_36 h0 := yK.ag hfd_30 (show yAg S [46] d_30 d_36 from by rw [ed_36]; exact yAg.cs yAg.rf (by rw [hky_31]; decide)) (by rw [hk_h0]; decide)
      have hId_36 : yMI S d_36 h0 := by rw [ed_36]; exact yMI.w16 hId_30 hSh hm_h0 hk_h0 (yBr.up (yMI.em_ hId_30) ⟨by omega, by omega⟩)
      have hE0d_36 : (d_36.1 h0 0).toInt = (d_30.1 h0 0).toInt := congrArg Int32.toInt ((yK.ag (F := []) yK.rf (show yAg S [46] d_30 d_36 from by rw [ed_36]; exact yAg.cs yAg.rf (by rw [hky_31]; decide)) (by rw [hk_h0]; decide)) 0 (by decide))
      have hE1d_36 : (d_36.1 h0 1).toInt = (d_30.1 h0 1).toInt := congrArg Int32.toInt ((yK.ag (F := []) yK.rf (show yAg S [46] d_30 d_36 from by rw [ed_36]; exact yAg.cs yAg.rf (by rw [hky_31]; decide)) (by rw [hk_h0]; decide)) 1 (by decide))
      have hE2d_36 : (d_36.1 h0 2).toInt = (d_30.1 h0 2).toInt := congrArg Int32.toInt ((yK.ag (F := []) yK.rf (show yAg S [46] d_30 d_36 from by rw [ed_36]; exact yAg.cs yAg.rf (by rw [hky_31]; decide)) (by rw [hk_h0]; decide)) 2 (by decide))
      have hE3d_36 : (d_36.1 h0 3).toInt = (d_30.1 h0 3).toInt := congrArg Int32.toInt ((yK.ag (F := []) yK.rf (show yAg S [46] d_30 d_36 from by rw [ed_36]; exact yAg.cs yAg.rf (by rw [hky_31]; decide)) (by rw [hk_h0]; decide)) 3 (by decide))
      have hE63d_36 : (d_36.1 h0 63).toInt = (d_30.1 h0 63).toInt := congrArg Int32.toInt ((yK.ag (F := []) yK.rf (show yAg S [46] d_30 d_36 from by rw [ed_36]; exact yAg.cs yAg.rf (by rw [hky_31]; decide)) (by rw [hk_h0]; decide)) 63 (by decide))
      refine lv_aload_n hx hb dX9_clear_100 rfl (lv_at hl 3 rfl) ?_
      refine yget (ci := 9) (k := 17) (v := .ref (S.2.2.1 h0 17)) (C := RX9) (T := TX9) (N := 67) C0 hK hP hm_h0 hk_h0 (by decide) rfl inlX9 (by decide) mW124 (fun _ h9 => h9) rfl dX9_clear_101 ?_
      obtain ⟨hmy_38, hky_38⟩ := ySh.f9_17 hSh _ hm_h0 hk_h0
      refine lv_iload hx hb dX9_clear_104 (lv_at hl 1 rfl) ?_
      refine lv_iload hx hb dX9_clear_106 (lv_at hl 2 rfl) ?_
      refine lv_isub hx hb dX9_clear_108 ?_
      refine lv_topi (fun z_39 ez_39 => ?_)
      refine lv_aload_n hx hb dX9_clear_109 rfl (lv_at hl 3 rfl) ?_
      refine yget (ci := 9) (k := 17) (v := .ref (S.2.2.1 h0 17)) (C := RX9) (T := TX9) (N := 67) C0 hK hP hm_h0 hk_h0 (by decide) rfl inlX9 (by decide) mW124 (fun _ h9 => h9) rfl dX9_clear_110 ?_
      refine lv_iload hx hb dX9_clear_113 (lv_at hl 1 rfl) ?_
      have hCC_40 := yMI.c hId_36
      refine yaldB C0 hK hP hmy_38 hky_38 (by decide) rfl 1 rfl (xinT 5000 rfl (by omega) (by omega)) dX9_clear_115 ?_
      refine lv_topi (fun z_41 ez_41 => ?_)
      have T_42 : (z_39 : Int32).toInt = (v_2 : Int32).toInt - (v_1 : Int32).toInt := tsub ez_39 (rfl : (v_2 : Int32).toInt = (v_2 : Int32).toInt) (rfl : (v_1 : Int32).toInt = (v_1 : Int32).toInt) (by omega) (by omega)
      refine yastB C0 hK hP hD hS hmy_38 hky_38 (by decide) rfl 1 rfl (xinT 5000 rfl (by omega) (by omega)) dX9_clear_116 (fun H locs hP hD hS => ?_)
      obtain ⟨d_43, ed_43⟩ : ∃ z : yD, z = ycs d_36 (S.2.2.1 h0 17) (upd (d_36.2.2.2.1 (S.2.2.1 h0 17)) (z_39 : Int32).toNatClampNeg (vp_nar .byte z_41)) := ⟨_, rfl⟩
      rw [← ed_43] at hP hD
      have hgd_43 : yAg S [9, 45, 46, 47] d d_43 := by rw [ed_43]; exact yAg.cs hgd_36 (by rw [hky_38]; decide)
      have hPod_43 : yPo S d_43 := by rw [ed_43]; exact hPod_36
      have hfd_43 : yK [1] d d_43 h0 := yK.ag hfd_36 (show yAg S [47] d_36 d_43 from by rw [ed_43]; exact yAg.cs yAg.rf (by rw [hky_38]; decide)) (by rw [hk_h0]; decide)
      have hId_43 : yMI S d_43 h0 := yMI.ag hId_36 hSh hm_h0 hk_h0 (show yAg S [47] d_36 d_43 from by rw [ed_43]; exact yAg.cs yAg.rf (by rw [hky_38]; decide)) (yK.ag (F := []) yK.rf (show yAg S [47] d_36 d_43 from by rw [ed_43]; exact yAg.cs yAg.rf (by rw [hky_38]; decide)) (by rw [hk_h0]; decide)) (by decide) (by decide)
      have hE0d_43 : (d_43.1 h0 0).toInt = (d_36.1 h0 0).toInt := congrArg Int32.toInt ((yK.ag (F := []) yK.rf (show yAg S [47] d_36 d_43 from by rw [ed_43]; exact yAg.cs yAg.rf (by rw [hky_38]; decide)) (by rw [hk_h0]; decide)) 0 (by decide))
      have hE1d_43 : (d_43.1 h0 1).toInt = (d_36.1 h0 1).toInt := congrArg Int32.toInt ((yK.ag (F := []) yK.rf (show yAg S [47] d_36 d_43 from by rw [ed_43]; exact yAg.cs yAg.rf (by rw [hky_38]; decide)) (by rw [hk_h0]; decide)) 1 (by decide))
      have hE2d_43 : (d_43.1 h0 2).toInt = (d_36.1 h0 2).toInt := congrArg Int32.toInt ((yK.ag (F := []) yK.rf (show yAg S [47] d_36 d_43 from by rw [ed_43]; exact yAg.cs yAg.rf (by rw [hky_38]; decide)) (by rw [hk_h0]; decide)) 2 (by decide))
      have hE3d_43 : (d_43.1 h0 3).toInt = (d_36.1 h0 3).toInt := congrArg Int32.toInt ((yK.ag (F := []) yK.rf (show yAg S [47] d_36 d_43 from by rw [ed_43]; exact yAg.cs yAg.rf (by rw [hky_38]; decide)) (by rw [hk_h0]; decide)) 3 (by decide))
      have hE63d_43 : (d_43.1 h0 63).toInt = (d_36.1 h0 63).toInt := congrArg Int32.toInt ((yK.ag (F := []) yK.rf (show yAg S [47] d_36 d_43 from by rw [ed_43]; exact yAg.cs yAg.rf (by rw [hky_38]; decide)) (by rw [hk_h0]; decide)) 63 (by decide))
      refine lv_iinc (v := v_2 + 1) (lv' := [(5, .int (v_2 + 1)), (6, .int 0), (4, .int v_1), (0, .ref h0), (1, .int p0), (2, .int p1), (3, .int p2)]) hx hb dX9_clear_117 hl (k := 1) rfl rfl (by decide) rfl (fun ls hl => ?_)
      refine lv_goto (tgt := 6) hx hb dX9_clear_120 (by decide) ?_
      exact hnext_4 (v_1, v_2 + 1, d_43) _ _ ls (xup c_7) ⟨hP, hD, hS, hgd_43, hPod_43, hfd_43, hId_43, (yCl.miss hex_5 hSh hm_h0 hk_h0 hId_3 ez_6 c_7 (yCl.n1 hex_5 ez_21 c_22) ez_24 ez_32 ed_30 ed_36 ed_43), lv_sub hl [0, 2, 3, 4, 5, 6] rfl⟩
    · refine lv_aload_n hx hb dX9_clear_26 rfl (lv_at hl 2 rfl) ?_
      refine yget (ci := 9) (k := 16) (v := .ref (S.2.2.1 h0 16)) (C := RX9) (T := TX9) (N := 67) C0 hK hP hm_h0 hk_h0 (by decide) rfl inlX9 (by decide) mW123 (fun _ h9 => h9) rfl dX9_clear_27 ?_
      obtain ⟨hmy_45, hky_45⟩ := ySh.f9_16 hSh _ hm_h0 hk_h0
      refine lv_iload hx hb dX9_clear_30 (lv_at hl 0 rfl) ?_
      have F_47 := feq (rfl : (z_21 : Int32).toInt = (z_21 : Int32).toInt) (rfl : (p0 : Int32).toInt = (p0 : Int32).toInt) c_22
      refine yald C0 hK hP hmy_45 hky_45 (by decide) rfl 0 rfl (xinT 5000 rfl (by omega) (by omega)) dX9_clear_32 ?_
      refine lv_topi (fun z_48 ez_48 => ?_)
      have hvz_48 : 0 ≤ (z_48 : Int32).toInt ∧ (z_48 : Int32).toInt ≤ 129599 := by rw [ez_48]; exact yMI.em_ hId_3 _
      refine lv_iload_n hx hb dX9_clear_33 rfl (lv_at hl 4 rfl) ?_
      refine lv_icmp_lt (tgt := 52) hx hb dX9_clear_34 (by decide) (fun c_49 => ?_) (fun c_49 => ?_)
      · refine lv_iconst (v := 0) hx hb dX9_clear_52 (by decide) ?_
        refine lv_istore (lv' := [(6, .int 0), (5, .int v_2), (4, .int v_1), (0, .ref h0), (1, .int p0), (2, .int p1), (3, .int p2)]) hx hb dX9_clear_53 hl (by decide) rfl (fun ls hl => ?_)
        refine lv_iload hx hb dX9_clear_55 (lv_at hl 0 rfl) ?_
        refine lv_if_eq (tgt := 66) hx hb dX9_clear_57 (by decide) (fun c_50 => ?_) (fun c_50 => absurd c_50 (by decide +kernel))
        refine lv_aload_n hx hb dX9_clear_66 rfl (lv_at hl 3 rfl) ?_
        refine yget (ci := 9) (k := 15) (v := .ref (S.2.2.1 h0 15)) (C := RX9) (T := TX9) (N := 67) C0 hK hP hm_h0 hk_h0 (by decide) rfl inlX9 (by decide) mW122 (fun _ h9 => h9) rfl dX9_clear_67 ?_
        refine lv_iload hx hb dX9_clear_70 (lv_at hl 1 rfl) ?_
        refine lv_iload hx hb dX9_clear_72 (lv_at hl 2 rfl) ?_
        refine lv_isub hx hb dX9_clear_74 ?_
        refine lv_topi (fun z_51 ez_51 => ?_)
        refine lv_aload_n hx hb dX9_clear_75 rfl (lv_at hl 3 rfl) ?_
        refine yget (ci := 9) (k := 15) (v := .ref (S.2.2.1 h0 15)) (C := RX9) (T := TX9) (N := 67) C0 hK hP hm_h0 hk_h0 (by decide) rfl inlX9 (by decide) mW122 (fun _ h9 => h9) rfl dX9_clear_76 ?_
        refine lv_iload hx hb dX9_clear_79 (lv_at hl 1 rfl) ?_
        have F_53 := flt (rfl : (z_48 : Int32).toInt = (z_48 : Int32).toInt) (rfl : (p1 : Int32).toInt = (p1 : Int32).toInt) c_49
        have F_54 := feq (by decide +kernel : (0 : Int32).toInt = 0) (by decide +kernel : (0 : Int32).toInt = 0) c_50
        refine yaldB C0 hK hP hmy_17 hky_17 (by decide) rfl 1 rfl (xinT 5000 rfl (by omega) (by omega)) dX9_clear_81 ?_
        refine lv_topi (fun z_55 ez_55 => ?_)
        have T_56 : (z_51 : Int32).toInt = (v_2 : Int32).toInt - (v_1 : Int32).toInt := tsub ez_51 (rfl : (v_2 : Int32).toInt = (v_2 : Int32).toInt) (rfl : (v_1 : Int32).toInt = (v_1 : Int32).toInt) (by omega) (by omega)
        refine yastB C0 hK hP hD hS hmy_17 hky_17 (by decide) rfl 1 rfl (xinT 5000 rfl (by omega) (by omega)) dX9_clear_82 (fun H locs hP hD hS => ?_)
        obtain ⟨d_57, ed_57⟩ : ∃ z : yD, z = ycs d_3 (S.2.2.1 h0 15) (upd (d_3.2.2.2.1 (S.2.2.1 h0 15)) (z_51 : Int32).toNatClampNeg (vp_nar .byte z_55)) := ⟨_, rfl⟩
        rw [← ed_57] at hP hD
        have hgd_57 : yAg S [9, 45, 46, 47] d d_57 := by rw [ed_57]; exact yAg.cs hgd_3 (by rw [hky_17]; decide)
        have hPod_57 : yPo S d_57 := by rw [ed_57]; exact hPod_3
        have hfd_57 : yK [1] d d_57 h0 := yK.ag hfd_3 (show yAg S [45] d_3 d_57 from by rw [ed_57]; exact yAg.cs yAg.rf (by rw [hky_17]; decide)) (by rw [hk_h0]; decide)
        have hId_57 : yMI S d_57 h0 := yMI.ag hId_3 hSh hm_h0 hk_h0 (show yAg S [45] d_3 d_57 from by rw [ed_57]; exact yAg.cs yAg.rf (by rw [hky_17]; decide)) (yK.ag (F := []) yK.rf (show yAg S [45] d_3 d_57 from by rw [ed_57]; exact yAg.cs yAg.rf (by rw [hky_17]; decide)) (by rw [hk_h0]; decide)) (by decide) (by decide)
        have hE0d_57 : (d_57.1 h0 0).toInt = (d_3.1 h0 0).toInt := congrArg Int32.toInt ((yK.ag (F := []) yK.rf (show yAg S [45] d_3 d_57 from by rw [ed_57]; exact yAg.cs yAg.rf (by rw [hky_17]; decide)) (by rw [hk_h0]; decide)) 0 (by decide))
        have hE1d_57 : (d_57.1 h0 1).toInt = (d_3.1 h0 1).toInt := congrArg Int32.toInt ((yK.ag (F := []) yK.rf (show yAg S [45] d_3 d_57 from by rw [ed_57]; exact yAg.cs yAg.rf (by rw [hky_17]; decide)) (by rw [hk_h0]; decide)) 1 (by decide))
        have hE2d_57 : (d_57.1 h0 2).toInt = (d_3.1 h0 2).toInt := congrArg Int32.toInt ((yK.ag (F := []) yK.rf (show yAg S [45] d_3 d_57 from by rw [ed_57]; exact yAg.cs yAg.rf (by rw [hky_17]; decide)) (by rw [hk_h0]; decide)) 2 (by decide))
        have hE3d_57 : (d_57.1 h0 3).toInt = (d_3.1 h0 3).toInt := congrArg Int32.toInt ((yK.ag (F := []) yK.rf (show yAg S [45] d_3 d_57 from by rw [ed_57]; exact yAg.cs yAg.rf (by rw [hky_17]; decide)) (by rw [hk_h0]; decide)) 3 (by decide))
        have hE63d_57 : (d_57.1 h0 63).toInt = (d_3.1 h0 63).toInt := congrArg Int32.toInt ((yK.ag (F := []) yK.rf (show yAg S [45] d_3 d_57 from by rw [ed_57]; exact yAg.cs yAg.rf (by rw [hky_17]; decide)) (by rw [hk_h0]; decide)) 63 (by decide))
        refine lv_aload_n hx hb dX9_clear_83 rfl (lv_at hl 3 rfl) ?_
        refine yget (ci := 9) (k := 16) (v := .ref (S.2.2.1 h0 16)) (C := RX9) (T := TX9) (N := 67) C0 hK hP hm_h0 hk_h0 (by decide) rfl inlX9 (by decide) mW123 (fun _ h9 => h9) rfl dX9_clear_84 ?_
        refine lv_iload hx hb dX9_clear_87 (lv_at hl 1 rfl) ?_
        refine lv_iload hx hb dX9_clear_89 (lv_at hl 2 rfl) ?_
        refine lv_isub hx hb dX9_clear_91 ?_
        refine lv_topi (fun z_58 ez_58 => ?_)
        refine lv_aload_n hx hb dX9_clear_92 rfl (lv_at hl 3 rfl) ?_
        refine yget (ci := 9) (k := 16) (v := .ref (S.2.2.1 h0 16)) (C := RX9) (T := TX9) (N := 67) C0 hK hP hm_h0 hk_h0 (by decide) rfl inlX9 (by decide) mW123 (fun _ h9 => h9) rfl dX9_clear_93 ?_
        refine lv_iload hx hb dX9_clear_96 (lv_at hl 1 rfl) ?_
        have hCC_59 := yMI.c hId_57
        refine yald C0 hK hP hmy_45 hky_45 (by decide) rfl 0 rfl (xinT 5000 rfl (by omega) (by omega)) dX9_clear_98 ?_
        refine lv_topi (fun z_60 ez_60 => ?_)
        have hvz_60 : 0 ≤ (z_60 : Int32).toInt ∧ (z_60 : Int32).toInt ≤ 129599 := by rw [ez_60]; exact yMI.em_ hId_57 _
        have T_61 : (z_58 : Int32).toInt = (v_2 : Int32).toInt - (v_1 : Int32).toInt := tsub ez_58 (rfl : (v_2 : Int32).toInt = (v_2 : Int32).toInt) (rfl : (v_1 : Int32).toInt = (v_1 : Int32).toInt) (by omega) (by omega)
        refine yast C0 hK hP hD hS hmy_45 hky_45 (by decide) rfl 0 rfl (xinT 5000 rfl (by omega) (by omega)) dX9_clear_99 (fun H locs hP hD hS => ?_)
        obtain ⟨d_62, ed_62⟩ : ∃ z : yD, z = ycs d_57 (S.2.2.1 h0 16) (upd (d_57.2.2.2.1 (S.2.2.1 h0 16)) (z_58 : Int32).toNatClampNeg z_60) := ⟨_, rfl⟩
        rw [← ed_62] at hP hD
        have hgd_62 : yAg S [9, 45, 46, 47] d d_62 := by rw [ed_62]; exact yAg.cs hgd_57 (by rw [hky_45]; decide)
        have hPod_62 : yPo S d_62 := by rw [ed_62]; exact hPod_57
        have hfd_62 : yK [1] d d_62 h0 := yK.ag hfd_57 (show yAg S [46] d_57 d_62 from by rw [ed_62]; exact yAg.cs yAg.rf (by rw [hky_45]; decide)) (by rw [hk_h0]; decide)
        have hId_62 : yMI S d_62 h0 := by rw [ed_62]; exact yMI.w16 hId_57 hSh hm_h0 hk_h0 (yBr.up (yMI.em_ hId_57) ⟨by omega, by omega⟩)
        have hE0d_62 : (d_62.1 h0 0).toInt = (d_57.1 h0 0).toInt := congrArg Int32.toInt ((yK.ag (F := []) yK.rf (show yAg S [46] d_57 d_62 from by rw [ed_62]; exact yAg.cs yAg.rf (by rw [hky_45]; decide)) (by rw [hk_h0]; decide)) 0 (by decide))
        have hE1d_62 : (d_62.1 h0 1).toInt = (d_57.1 h0 1).toInt := congrArg Int32.toInt ((yK.ag (F := []) yK.rf (show yAg S [46] d_57 d_62 from by rw [ed_62]; exact yAg.cs yAg.rf (by rw [hky_45]; decide)) (by rw [hk_h0]; decide)) 1 (by decide))
        have hE2d_62 : (d_62.1 h0 2).toInt = (d_57.1 h0 2).toInt := congrArg Int32.toInt ((yK.ag (F := []) yK.rf (show yAg S [46] d_57 d_62 from by rw [ed_62]; exact yAg.cs yAg.rf (by rw [hky_45]; decide)) (by rw [hk_h0]; decide)) 2 (by decide))
        have hE3d_62 : (d_62.1 h0 3).toInt = (d_57.1 h0 3).toInt := congrArg Int32.toInt ((yK.ag (F := []) yK.rf (show yAg S [46] d_57 d_62 from by rw [ed_62]; exact yAg.cs yAg.rf (by rw [hky_45]; decide)) (by rw [hk_h0]; decide)) 3 (by decide))
        have hE63d_62 : (d_62.1 h0 63).toInt = (d_57.1 h0 63).toInt := congrArg Int32.toInt ((yK.ag (F := []) yK.rf (show yAg S [46] d_57 d_62 from by rw [ed_62]; exact yAg.cs yAg.rf (by rw [hky_45]; decide)) (by rw [hk_h0]; decide)) 63 (by decide))
        refine lv_aload_n hx hb dX9_clear_100 rfl (lv_at hl 3 rfl) ?_
        refine yget (ci := 9) (k := 17) (v := .ref (S.2.2.1 h0 17)) (C := RX9) (T := TX9) (N := 67) C0 hK hP hm_h0 hk_h0 (by decide) rfl inlX9 (by decide) mW124 (fun _ h9 => h9) rfl dX9_clear_101 ?_
        obtain ⟨hmy_64, hky_64⟩ := ySh.f9_17 hSh _ hm_h0 hk_h0
        refine lv_iload hx hb dX9_clear_104 (lv_at hl 1 rfl) ?_
        refine lv_iload hx hb dX9_clear_106 (lv_at hl 2 rfl) ?_
        refine lv_isub hx hb dX9_clear_108 ?_
        refine lv_topi (fun z_65 ez_65 => ?_)
        refine lv_aload_n hx hb dX9_clear_109 rfl (lv_at hl 3 rfl) ?_
        refine yget (ci := 9) (k := 17) (v := .ref (S.2.2.1 h0 17)) (C := RX9) (T := TX9) (N := 67) C0 hK hP hm_h0 hk_h0 (by decide) rfl inlX9 (by decide) mW124 (fun _ h9 => h9) rfl dX9_clear_110 ?_
        refine lv_iload hx hb dX9_clear_113 (lv_at hl 1 rfl) ?_
        have hCC_66 := yMI.c hId_62
        refine yaldB C0 hK hP hmy_64 hky_64 (by decide) rfl 1 rfl (xinT 5000 rfl (by omega) (by omega)) dX9_clear_115 ?_
        refine lv_topi (fun z_67 ez_67 => ?_)
        have T_68 : (z_65 : Int32).toInt = (v_2 : Int32).toInt - (v_1 : Int32).toInt := tsub ez_65 (rfl : (v_2 : Int32).toInt = (v_2 : Int32).toInt) (rfl : (v_1 : Int32).toInt = (v_1 : Int32).toInt) (by omega) (by omega)
        refine yastB C0 hK hP hD hS hmy_64 hky_64 (by decide) rfl 1 rfl (xinT 5000 rfl (by omega) (by omega)) dX9_clear_116 (fun H locs hP hD hS => ?_)
        obtain ⟨d_69, ed_69⟩ : ∃ z : yD, z = ycs d_62 (S.2.2.1 h0 17) (upd (d_62.2.2.2.1 (S.2.2.1 h0 17)) (z_65 : Int32).toNatClampNeg (vp_nar .byte z_67)) := ⟨_, rfl⟩
        rw [← ed_69] at hP hD
        have hgd_69 : yAg S [9, 45, 46, 47] d d_69 := by rw [ed_69]; exact yAg.cs hgd_62 (by rw [hky_64]; decide)
        have hPod_69 : yPo S d_69 := by rw [ed_69]; exact hPod_62
        have hfd_69 : yK [1] d d_69 h0 := yK.ag hfd_62 (show yAg S [47] d_62 d_69 from by rw [ed_69]; exact yAg.cs yAg.rf (by rw [hky_64]; decide)) (by rw [hk_h0]; decide)
        have hId_69 : yMI S d_69 h0 := yMI.ag hId_62 hSh hm_h0 hk_h0 (show yAg S [47] d_62 d_69 from by rw [ed_69]; exact yAg.cs yAg.rf (by rw [hky_64]; decide)) (yK.ag (F := []) yK.rf (show yAg S [47] d_62 d_69 from by rw [ed_69]; exact yAg.cs yAg.rf (by rw [hky_64]; decide)) (by rw [hk_h0]; decide)) (by decide) (by decide)
        have hE0d_69 : (d_69.1 h0 0).toInt = (d_62.1 h0 0).toInt := congrArg Int32.toInt ((yK.ag (F := []) yK.rf (show yAg S [47] d_62 d_69 from by rw [ed_69]; exact yAg.cs yAg.rf (by rw [hky_64]; decide)) (by rw [hk_h0]; decide)) 0 (by decide))
        have hE1d_69 : (d_69.1 h0 1).toInt = (d_62.1 h0 1).toInt := congrArg Int32.toInt ((yK.ag (F := []) yK.rf (show yAg S [47] d_62 d_69 from by rw [ed_69]; exact yAg.cs yAg.rf (by rw [hky_64]; decide)) (by rw [hk_h0]; decide)) 1 (by decide))
        have hE2d_69 : (d_69.1 h0 2).toInt = (d_62.1 h0 2).toInt := congrArg Int32.toInt ((yK.ag (F := []) yK.rf (show yAg S [47] d_62 d_69 from by rw [ed_69]; exact yAg.cs yAg.rf (by rw [hky_64]; decide)) (by rw [hk_h0]; decide)) 2 (by decide))
        have hE3d_69 : (d_69.1 h0 3).toInt = (d_62.1 h0 3).toInt := congrArg Int32.toInt ((yK.ag (F := []) yK.rf (show yAg S [47] d_62 d_69 from by rw [ed_69]; exact yAg.cs yAg.rf (by rw [hky_64]; decide)) (by rw [hk_h0]; decide)) 3 (by decide))
        have hE63d_69 : (d_69.1 h0 63).toInt = (d_62.1 h0 63).toInt := congrArg Int32.toInt ((yK.ag (F := []) yK.rf (show yAg S [47] d_62 d_69 from by rw [ed_69]; exact yAg.cs yAg.rf (by rw [hky_64]; decide)) (by rw [hk_h0]; decide)) 63 (by decide))
        refine lv_iinc (v := v_2 + 1) (lv' := [(5, .int (v_2 + 1)), (6, .int 0), (4, .int v_1), (0, .ref h0), (1, .int p0), (2, .int p1), (3, .int p2)]) hx hb dX9_clear_117 hl (k := 1) rfl rfl (by decide) rfl (fun ls hl => ?_)
        refine lv_goto (tgt := 6) hx hb dX9_clear_120 (by decide) ?_
        exact hnext_4 (v_1, v_2 + 1, d_69) _ _ ls (xup c_7) ⟨hP, hD, hS, hgd_69, hPod_69, hfd_69, hId_69, (yCl.miss hex_5 hSh hm_h0 hk_h0 hId_3 ez_6 c_7 (yCl.n2 hex_5 ez_48 c_49) ez_51 ez_58 ed_57 ed_62 ed_69), lv_sub hl [0, 2, 3, 4, 5, 6] rfl⟩
      · refine lv_aload_n hx hb dX9_clear_37 rfl (lv_at hl 2 rfl) ?_
        refine yget (ci := 9) (k := 16) (v := .ref (S.2.2.1 h0 16)) (C := RX9) (T := TX9) (N := 67) C0 hK hP hm_h0 hk_h0 (by decide) rfl inlX9 (by decide) mW123 (fun _ h9 => h9) rfl dX9_clear_38 ?_
        refine lv_iload hx hb dX9_clear_41 (lv_at hl 0 rfl) ?_
        have F_72 := fnlt (rfl : (z_48 : Int32).toInt = (z_48 : Int32).toInt) (rfl : (p1 : Int32).toInt = (p1 : Int32).toInt) c_49
        refine yald C0 hK hP hmy_45 hky_45 (by decide) rfl 0 rfl (xinT 5000 rfl (by omega) (by omega)) dX9_clear_43 ?_
        refine lv_topi (fun z_73 ez_73 => ?_)
        have hvz_73 : 0 ≤ (z_73 : Int32).toInt ∧ (z_73 : Int32).toInt ≤ 129599 := by rw [ez_73]; exact yMI.em_ hId_3 _
        refine lv_iload_n hx hb dX9_clear_44 rfl (lv_at hl 5 rfl) ?_
        refine lv_icmp_ge (tgt := 52) hx hb dX9_clear_45 (by decide) (fun c_74 => ?_) (fun c_74 => ?_)
        · refine lv_iconst (v := 0) hx hb dX9_clear_52 (by decide) ?_
          refine lv_istore (lv' := [(6, .int 0), (5, .int v_2), (4, .int v_1), (0, .ref h0), (1, .int p0), (2, .int p1), (3, .int p2)]) hx hb dX9_clear_53 hl (by decide) rfl (fun ls hl => ?_)
          refine lv_iload hx hb dX9_clear_55 (lv_at hl 0 rfl) ?_
          refine lv_if_eq (tgt := 66) hx hb dX9_clear_57 (by decide) (fun c_75 => ?_) (fun c_75 => absurd c_75 (by decide +kernel))
          refine lv_aload_n hx hb dX9_clear_66 rfl (lv_at hl 3 rfl) ?_
          refine yget (ci := 9) (k := 15) (v := .ref (S.2.2.1 h0 15)) (C := RX9) (T := TX9) (N := 67) C0 hK hP hm_h0 hk_h0 (by decide) rfl inlX9 (by decide) mW122 (fun _ h9 => h9) rfl dX9_clear_67 ?_
          refine lv_iload hx hb dX9_clear_70 (lv_at hl 1 rfl) ?_
          refine lv_iload hx hb dX9_clear_72 (lv_at hl 2 rfl) ?_
          refine lv_isub hx hb dX9_clear_74 ?_
          refine lv_topi (fun z_76 ez_76 => ?_)
          refine lv_aload_n hx hb dX9_clear_75 rfl (lv_at hl 3 rfl) ?_
          refine yget (ci := 9) (k := 15) (v := .ref (S.2.2.1 h0 15)) (C := RX9) (T := TX9) (N := 67) C0 hK hP hm_h0 hk_h0 (by decide) rfl inlX9 (by decide) mW122 (fun _ h9 => h9) rfl dX9_clear_76 ?_
          refine lv_iload hx hb dX9_clear_79 (lv_at hl 1 rfl) ?_
          have F_78 := fle (rfl : (p2 : Int32).toInt = (p2 : Int32).toInt) (rfl : (z_73 : Int32).toInt = (z_73 : Int32).toInt) c_74
          have F_79 := feq (by decide +kernel : (0 : Int32).toInt = 0) (by decide +kernel : (0 : Int32).toInt = 0) c_75
          refine yaldB C0 hK hP hmy_17 hky_17 (by decide) rfl 1 rfl (xinT 5000 rfl (by omega) (by omega)) dX9_clear_81 ?_
          refine lv_topi (fun z_80 ez_80 => ?_)
          have T_81 : (z_76 : Int32).toInt = (v_2 : Int32).toInt - (v_1 : Int32).toInt := tsub ez_76 (rfl : (v_2 : Int32).toInt = (v_2 : Int32).toInt) (rfl : (v_1 : Int32).toInt = (v_1 : Int32).toInt) (by omega) (by omega)
          refine yastB C0 hK hP hD hS hmy_17 hky_17 (by decide) rfl 1 rfl (xinT 5000 rfl (by omega) (by omega)) dX9_clear_82 (fun H locs hP hD hS => ?_)
          obtain ⟨d_82, ed_82⟩ : ∃ z : yD, z = ycs d_3 (S.2.2.1 h0 15) (upd (d_3.2.2.2.1 (S.2.2.1 h0 15)) (z_76 : Int32).toNatClampNeg (vp_nar .byte z_80)) := ⟨_, rfl⟩
          rw [← ed_82] at hP hD
          have hgd_82 : yAg S [9, 45, 46, 47] d d_82 := by rw [ed_82]; exact yAg.cs hgd_3 (by rw [hky_17]; decide)
          have hPod_82 : yPo S d_82 := by rw [ed_82]; exact hPod_3
          have hfd_82 : yK [1] d d_82 h0 := yK.ag hfd_3 (show yAg S [45] d_3 d_82 from by rw [ed_82]; exact yAg.cs yAg.rf (by rw [hky_17]; decide)) (by rw [hk_h0]; decide)
          have hId_82 : yMI S d_82 h0 := yMI.ag hId_3 hSh hm_h0 hk_h0 (show yAg S [45] d_3 d_82 from by rw [ed_82]; exact yAg.cs yAg.rf (by rw [hky_17]; decide)) (yK.ag (F := []) yK.rf (show yAg S [45] d_3 d_82 from by rw [ed_82]; exact yAg.cs yAg.rf (by rw [hky_17]; decide)) (by rw [hk_h0]; decide)) (by decide) (by decide)
          have hE0d_82 : (d_82.1 h0 0).toInt = (d_3.1 h0 0).toInt := congrArg Int32.toInt ((yK.ag (F := []) yK.rf (show yAg S [45] d_3 d_82 from by rw [ed_82]; exact yAg.cs yAg.rf (by rw [hky_17]; decide)) (by rw [hk_h0]; decide)) 0 (by decide))
          have hE1d_82 : (d_82.1 h0 1).toInt = (d_3.1 h0 1).toInt := congrArg Int32.toInt ((yK.ag (F := []) yK.rf (show yAg S [45] d_3 d_82 from by rw [ed_82]; exact yAg.cs yAg.rf (by rw [hky_17]; decide)) (by rw [hk_h0]; decide)) 1 (by decide))
          have hE2d_82 : (d_82.1 h0 2).toInt = (d_3.1 h0 2).toInt := congrArg Int32.toInt ((yK.ag (F := []) yK.rf (show yAg S [45] d_3 d_82 from by rw [ed_82]; exact yAg.cs yAg.rf (by rw [hky_17]; decide)) (by rw [hk_h0]; decide)) 2 (by decide))
          have hE3d_82 : (d_82.1 h0 3).toInt = (d_3.1 h0 3).toInt := congrArg Int32.toInt ((yK.ag (F := []) yK.rf (show yAg S [45] d_3 d_82 from by rw [ed_82]; exact yAg.cs yAg.rf (by rw [hky_17]; decide)) (by rw [hk_h0]; decide)) 3 (by decide))
          have hE63d_82 : (d_82.1 h0 63).toInt = (d_3.1 h0 63).toInt := congrArg Int32.toInt ((yK.ag (F := []) yK.rf (show yAg S [45] d_3 d_82 from by rw [ed_82]; exact yAg.cs yAg.rf (by rw [hky_17]; decide)) (by rw [hk_h0]; decide)) 63 (by decide))
          refine lv_aload_n hx hb dX9_clear_83 rfl (lv_at hl 3 rfl) ?_
          refine yget (ci := 9) (k := 16) (v := .ref (S.2.2.1 h0 16)) (C := RX9) (T := TX9) (N := 67) C0 hK hP hm_h0 hk_h0 (by decide) rfl inlX9 (by decide) mW123 (fun _ h9 => h9) rfl dX9_clear_84 ?_
          refine lv_iload hx hb dX9_clear_87 (lv_at hl 1 rfl) ?_
          refine lv_iload hx hb dX9_clear_89 (lv_at hl 2 rfl) ?_
          refine lv_isub hx hb dX9_clear_91 ?_
          refine lv_topi (fun z_83 ez_83 => ?_)
          refine lv_aload_n hx hb dX9_clear_92 rfl (lv_at hl 3 rfl) ?_
          refine yget (ci := 9) (k := 16) (v := .ref (S.2.2.1 h0 16)) (C := RX9) (T := TX9) (N := 67) C0 hK hP hm_h0 hk_h0 (by decide) rfl inlX9 (by decide) mW123 (fun _ h9 => h9) rfl dX9_clear_93 ?_
          refine lv_iload hx hb dX9_clear_96 (lv_at hl 1 rfl) ?_
          have hCC_84 := yMI.c hId_82
          refine yald C0 hK hP hmy_45 hky_45 (by decide) rfl 0 rfl (xinT 5000 rfl (by omega) (by omega)) dX9_clear_98 ?_
          refine lv_topi (fun z_85 ez_85 => ?_)
          have hvz_85 : 0 ≤ (z_85 : Int32).toInt ∧ (z_85 : Int32).toInt ≤ 129599 := by rw [ez_85]; exact yMI.em_ hId_82 _
          have T_86 : (z_83 : Int32).toInt = (v_2 : Int32).toInt - (v_1 : Int32).toInt := tsub ez_83 (rfl : (v_2 : Int32).toInt = (v_2 : Int32).toInt) (rfl : (v_1 : Int32).toInt = (v_1 : Int32).toInt) (by omega) (by omega)
          refine yast C0 hK hP hD hS hmy_45 hky_45 (by decide) rfl 0 rfl (xinT 5000 rfl (by omega) (by omega)) dX9_clear_99 (fun H locs hP hD hS => ?_)
          obtain ⟨d_87, ed_87⟩ : ∃ z : yD, z = ycs d_82 (S.2.2.1 h0 16) (upd (d_82.2.2.2.1 (S.2.2.1 h0 16)) (z_83 : Int32).toNatClampNeg z_85) := ⟨_, rfl⟩
          rw [← ed_87] at hP hD
          have hgd_87 : yAg S [9, 45, 46, 47] d d_87 := by rw [ed_87]; exact yAg.cs hgd_82 (by rw [hky_45]; decide)
          have hPod_87 : yPo S d_87 := by rw [ed_87]; exact hPod_82
          have hfd_87 : yK [1] d d_87 h0 := yK.ag hfd_82 (show yAg S [46] d_82 d_87 from by rw [ed_87]; exact yAg.cs yAg.rf (by rw [hky_45]; decide)) (by rw [hk_h0]; decide)
          have hId_87 : yMI S d_87 h0 := by rw [ed_87]; exact yMI.w16 hId_82 hSh hm_h0 hk_h0 (yBr.up (yMI.em_ hId_82) ⟨by omega, by omega⟩)
          have hE0d_87 : (d_87.1 h0 0).toInt = (d_82.1 h0 0).toInt := congrArg Int32.toInt ((yK.ag (F := []) yK.rf (show yAg S [46] d_82 d_87 from by rw [ed_87]; exact yAg.cs yAg.rf (by rw [hky_45]; decide)) (by rw [hk_h0]; decide)) 0 (by decide))
          have hE1d_87 : (d_87.1 h0 1).toInt = (d_82.1 h0 1).toInt := congrArg Int32.toInt ((yK.ag (F := []) yK.rf (show yAg S [46] d_82 d_87 from by rw [ed_87]; exact yAg.cs yAg.rf (by rw [hky_45]; decide)) (by rw [hk_h0]; decide)) 1 (by decide))
          have hE2d_87 : (d_87.1 h0 2).toInt = (d_82.1 h0 2).toInt := congrArg Int32.toInt ((yK.ag (F := []) yK.rf (show yAg S [46] d_82 d_87 from by rw [ed_87]; exact yAg.cs yAg.rf (by rw [hky_45]; decide)) (by rw [hk_h0]; decide)) 2 (by decide))
          have hE3d_87 : (d_87.1 h0 3).toInt = (d_82.1 h0 3).toInt := congrArg Int32.toInt ((yK.ag (F := []) yK.rf (show yAg S [46] d_82 d_87 from by rw [ed_87]; exact yAg.cs yAg.rf (by rw [hky_45]; decide)) (by rw [hk_h0]; decide)) 3 (by decide))
          have hE63d_87 : (d_87.1 h0 63).toInt = (d_82.1 h0 63).toInt := congrArg Int32.toInt ((yK.ag (F := []) yK.rf (show yAg S [46] d_82 d_87 from by rw [ed_87]; exact yAg.cs yAg.rf (by rw [hky_45]; decide)) (by rw [hk_h0]; decide)) 63 (by decide))
          refine lv_aload_n hx hb dX9_clear_100 rfl (lv_at hl 3 rfl) ?_
          refine yget (ci := 9) (k := 17) (v := .ref (S.2.2.1 h0 17)) (C := RX9) (T := TX9) (N := 67) C0 hK hP hm_h0 hk_h0 (by decide) rfl inlX9 (by decide) mW124 (fun _ h9 => h9) rfl dX9_clear_101 ?_
          obtain ⟨hmy_89, hky_89⟩ := ySh.f9_17 hSh _ hm_h0 hk_h0
          refine lv_iload hx hb dX9_clear_104 (lv_at hl 1 rfl) ?_
          refine lv_iload hx hb dX9_clear_106 (lv_at hl 2 rfl) ?_
          refine lv_isub hx hb dX9_clear_108 ?_
          refine lv_topi (fun z_90 ez_90 => ?_)
          refine lv_aload_n hx hb dX9_clear_109 rfl (lv_at hl 3 rfl) ?_
          refine yget (ci := 9) (k := 17) (v := .ref (S.2.2.1 h0 17)) (C := RX9) (T := TX9) (N := 67) C0 hK hP hm_h0 hk_h0 (by decide) rfl inlX9 (by decide) mW124 (fun _ h9 => h9) rfl dX9_clear_110 ?_
          refine lv_iload hx hb dX9_clear_113 (lv_at hl 1 rfl) ?_
          have hCC_91 := yMI.c hId_87
          refine yaldB C0 hK hP hmy_89 hky_89 (by decide) rfl 1 rfl (xinT 5000 rfl (by omega) (by omega)) dX9_clear_115 ?_
          refine lv_topi (fun z_92 ez_92 => ?_)
          have T_93 : (z_90 : Int32).toInt = (v_2 : Int32).toInt - (v_1 : Int32).toInt := tsub ez_90 (rfl : (v_2 : Int32).toInt = (v_2 : Int32).toInt) (rfl : (v_1 : Int32).toInt = (v_1 : Int32).toInt) (by omega) (by omega)
          refine yastB C0 hK hP hD hS hmy_89 hky_89 (by decide) rfl 1 rfl (xinT 5000 rfl (by omega) (by omega)) dX9_clear_116 (fun H locs hP hD hS => ?_)
          obtain ⟨d_94, ed_94⟩ : ∃ z : yD, z = ycs d_87 (S.2.2.1 h0 17) (upd (d_87.2.2.2.1 (S.2.2.1 h0 17)) (z_90 : Int32).toNatClampNeg (vp_nar .byte z_92)) := ⟨_, rfl⟩
          rw [← ed_94] at hP hD
          have hgd_94 : yAg S [9, 45, 46, 47] d d_94 := by rw [ed_94]; exact yAg.cs hgd_87 (by rw [hky_89]; decide)
          have hPod_94 : yPo S d_94 := by rw [ed_94]; exact hPod_87
          have hfd_94 : yK [1] d d_94 h0 := yK.ag hfd_87 (show yAg S [47] d_87 d_94 from by rw [ed_94]; exact yAg.cs yAg.rf (by rw [hky_89]; decide)) (by rw [hk_h0]; decide)
          have hId_94 : yMI S d_94 h0 := yMI.ag hId_87 hSh hm_h0 hk_h0 (show yAg S [47] d_87 d_94 from by rw [ed_94]; exact yAg.cs yAg.rf (by rw [hky_89]; decide)) (yK.ag (F := []) yK.rf (show yAg S [47] d_87 d_94 from by rw [ed_94]; exact yAg.cs yAg.rf (by rw [hky_89]; decide)) (by rw [hk_h0]; decide)) (by decide) (by decide)
          have hE0d_94 : (d_94.1 h0 0).toInt = (d_87.1 h0 0).toInt := congrArg Int32.toInt ((yK.ag (F := []) yK.rf (show yAg S [47] d_87 d_94 from by rw [ed_94]; exact yAg.cs yAg.rf (by rw [hky_89]; decide)) (by rw [hk_h0]; decide)) 0 (by decide))
          have hE1d_94 : (d_94.1 h0 1).toInt = (d_87.1 h0 1).toInt := congrArg Int32.toInt ((yK.ag (F := []) yK.rf (show yAg S [47] d_87 d_94 from by rw [ed_94]; exact yAg.cs yAg.rf (by rw [hky_89]; decide)) (by rw [hk_h0]; decide)) 1 (by decide))
          have hE2d_94 : (d_94.1 h0 2).toInt = (d_87.1 h0 2).toInt := congrArg Int32.toInt ((yK.ag (F := []) yK.rf (show yAg S [47] d_87 d_94 from by rw [ed_94]; exact yAg.cs yAg.rf (by rw [hky_89]; decide)) (by rw [hk_h0]; decide)) 2 (by decide))
          have hE3d_94 : (d_94.1 h0 3).toInt = (d_87.1 h0 3).toInt := congrArg Int32.toInt ((yK.ag (F := []) yK.rf (show yAg S [47] d_87 d_94 from by rw [ed_94]; exact yAg.cs yAg.rf (by rw [hky_89]; decide)) (by rw [hk_h0]; decide)) 3 (by decide))
          have hE63d_94 : (d_94.1 h0 63).toInt = (d_87.1 h0 63).toInt := congrArg Int32.toInt ((yK.ag (F := []) yK.rf (show yAg S [47] d_87 d_94 from by rw [ed_94]; exact yAg.cs yAg.rf (by rw [hky_89]; decide)) (by rw [hk_h0]; decide)) 63 (by decide))
          refine lv_iinc (v := v_2 + 1) (lv' := [(5, .int (v_2 + 1)), (6, .int 0), (4, .int v_1), (0, .ref h0), (1, .int p0), (2, .int p1), (3, .int p2)]) hx hb dX9_clear_117 hl (k := 1) rfl rfl (by decide) rfl (fun ls hl => ?_)
          refine lv_goto (tgt := 6) hx hb dX9_clear_120 (by decide) ?_
          exact hnext_4 (v_1, v_2 + 1, d_94) _ _ ls (xup c_7) ⟨hP, hD, hS, hgd_94, hPod_94, hfd_94, hId_94, (yCl.miss hex_5 hSh hm_h0 hk_h0 hId_3 ez_6 c_7 (yCl.n3 hex_5 ez_73 c_74) ez_76 ez_83 ed_82 ed_87 ed_94), lv_sub hl [0, 2, 3, 4, 5, 6] rfl⟩
        · refine lv_iconst (v := 1) hx hb dX9_clear_48 (by decide) ?_
          refine lv_goto (tgt := 53) hx hb dX9_clear_49 (by decide) ?_
          refine lv_istore (lv' := [(6, .int 1), (5, .int v_2), (4, .int v_1), (0, .ref h0), (1, .int p0), (2, .int p1), (3, .int p2)]) hx hb dX9_clear_53 hl (by decide) rfl (fun ls hl => ?_)
          refine lv_iload hx hb dX9_clear_55 (lv_at hl 0 rfl) ?_
          refine lv_if_eq (tgt := 66) hx hb dX9_clear_57 (by decide) (fun c_96 => absurd c_96 (by decide +kernel)) (fun c_96 => ?_)
          refine lv_iinc (v := v_1 + 1) (lv' := [(4, .int (v_1 + 1)), (6, .int 1), (5, .int v_2), (0, .ref h0), (1, .int p0), (2, .int p1), (3, .int p2)]) hx hb dX9_clear_60 hl (k := 2) rfl rfl (by decide) rfl (fun ls hl => ?_)
          refine lv_goto (tgt := 117) hx hb dX9_clear_63 (by decide) ?_
          refine lv_iinc (v := v_2 + 1) (lv' := [(5, .int (v_2 + 1)), (4, .int (v_1 + 1)), (6, .int 1), (0, .ref h0), (1, .int p0), (2, .int p1), (3, .int p2)]) hx hb dX9_clear_117 hl (k := 2) rfl rfl (by decide) rfl (fun ls hl => ?_)
          refine lv_goto (tgt := 6) hx hb dX9_clear_120 (by decide) ?_
          exact hnext_4 (v_1 + 1, v_2 + 1, d_3) _ _ ls (xup c_7) ⟨hP, hD, hS, hgd_3, hPod_3, hfd_3, hId_3, (yCl.hit hex_5 hId_3 ez_6 c_7 ez_21 ez_48 ez_73 c_22 c_49 c_74), lv_sub hl [0, 1, 3, 4, 5, 6] rfl⟩
