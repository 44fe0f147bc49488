theorem dX8_as_0 : decode cX8_as 0 = .ok (.iload_n 2, 1) := by decide +kernel
theorem dX8_as_1 : decode cX8_as 1 = .ok (.iconst 0, 1) := by decide +kernel
theorem dX8_as_2 : decode cX8_as 2 = .ok (.bipush 59, 2) := by decide +kernel
theorem dX8_as_4 : decode cX8_as 4 = .ok (.invokestatic 71, 3) := by decide +kernel
theorem dX8_as_7 : decode cX8_as 7 = .ok (.ifCond .eq 17, 3) := by decide +kernel
theorem dX8_as_10 : decode cX8_as 10 = .ok (.iload_n 3, 1) := by decide +kernel
theorem dX8_as_11 : decode cX8_as 11 = .ok (.iconst (-1), 1) := by decide +kernel
theorem dX8_as_12 : decode cX8_as 12 = .ok (.bipush 59, 2) := by decide +kernel
theorem dX8_as_14 : decode cX8_as 14 = .ok (.invokestatic 71, 3) := by decide +kernel
theorem dX8_as_17 : decode cX8_as 17 = .ok (.ifCond .eq 7, 3) := by decide +kernel
theorem dX8_as_20 : decode cX8_as 20 = .ok (.iconst 1, 1) := by decide +kernel
theorem dX8_as_21 : decode cX8_as 21 = .ok (.goto 4, 3) := by decide +kernel
theorem dX8_as_24 : decode cX8_as 24 = .ok (.iconst 0, 1) := by decide +kernel
theorem dX8_as_25 : decode cX8_as 25 = .ok (.istore 5, 2) := by decide +kernel
theorem dX8_as_27 : decode cX8_as 27 = .ok (.aload_n 0, 1) := by decide +kernel
theorem dX8_as_28 : decode cX8_as 28 = .ok (.aload_n 0, 1) := by decide +kernel
theorem dX8_as_29 : decode cX8_as 29 = .ok (.iload_n 1, 1) := by decide +kernel
theorem dX8_as_30 : decode cX8_as 30 = .ok (.invokevirtual 124, 3) := by decide +kernel
theorem dX8_as_33 : decode cX8_as 33 = .ok (.iload 5, 2) := by decide +kernel
theorem dX8_as_35 : decode cX8_as 35 = .ok (.invokestatic 54, 3) := by decide +kernel
theorem dX8_as_38 : decode cX8_as 38 = .ok (.invokestatic 58, 3) := by decide +kernel
theorem dX8_as_41 : decode cX8_as 41 = .ok (.invokevirtual 42, 3) := by decide +kernel
theorem dX8_as_44 : decode cX8_as 44 = .ok (.ifCond .eq 7, 3) := by decide +kernel
theorem dX8_as_47 : decode cX8_as 47 = .ok (.ldc2_w 251, 3) := by decide +kernel
theorem dX8_as_50 : decode cX8_as 50 = .ok (.lreturn, 1) := by decide +kernel
theorem dX8_as_51 : decode cX8_as 51 = .ok (.aload_n 0, 1) := by decide +kernel
theorem dX8_as_52 : decode cX8_as 52 = .ok (.getfield 12, 3) := by decide +kernel
theorem dX8_as_55 : decode cX8_as 55 = .ok (.getfield 32, 3) := by decide +kernel
theorem dX8_as_58 : decode cX8_as 58 = .ok (.astore 6, 2) := by decide +kernel
theorem dX8_as_60 : decode cX8_as 60 = .ok (.aload_n 0, 1) := by decide +kernel
theorem dX8_as_61 : decode cX8_as 61 = .ok (.getfield 12, 3) := by decide +kernel
theorem dX8_as_64 : decode cX8_as 64 = .ok (.iload_n 1, 1) := by decide +kernel
theorem dX8_as_65 : decode cX8_as 65 = .ok (.invokevirtual 114, 3) := by decide +kernel
theorem dX8_as_68 : decode cX8_as 68 = .ok (.getfield 248, 3) := by decide +kernel
theorem dX8_as_71 : decode cX8_as 71 = .ok (.istore 7, 2) := by decide +kernel
theorem dX8_as_73 : decode cX8_as 73 = .ok (.iload 7, 2) := by decide +kernel
theorem dX8_as_75 : decode cX8_as 75 = .ok (.iload_n 2, 1) := by decide +kernel
theorem dX8_as_76 : decode cX8_as 76 = .ok (.invokestatic 61, 3) := by decide +kernel
theorem dX8_as_79 : decode cX8_as 79 = .ok (.istore 8, 2) := by decide +kernel
theorem dX8_as_81 : decode cX8_as 81 = .ok (.aload 6, 2) := by decide +kernel
theorem dX8_as_83 : decode cX8_as 83 = .ok (.iload 8, 2) := by decide +kernel
theorem dX8_as_85 : decode cX8_as 85 = .ok (.sipush 2401, 3) := by decide +kernel
theorem dX8_as_88 : decode cX8_as 88 = .ok (.invokevirtual 322, 3) := by decide +kernel
theorem dX8_as_91 : decode cX8_as 91 = .ok (.aload 6, 2) := by decide +kernel
theorem dX8_as_93 : decode cX8_as 93 = .ok (.iload_n 3, 1) := by decide +kernel
theorem dX8_as_94 : decode cX8_as 94 = .ok (.iconst (-1), 1) := by decide +kernel
theorem dX8_as_95 : decode cX8_as 95 = .ok (.if_icmp .ne 9, 3) := by decide +kernel
theorem dX8_as_98 : decode cX8_as 98 = .ok (.sipush 2400, 3) := by decide +kernel
theorem dX8_as_101 : decode cX8_as 101 = .ok (.goto 9, 3) := by decide +kernel
theorem dX8_as_104 : decode cX8_as 104 = .ok (.iload 7, 2) := by decide +kernel
theorem dX8_as_106 : decode cX8_as 106 = .ok (.iload_n 3, 1) := by decide +kernel
theorem dX8_as_107 : decode cX8_as 107 = .ok (.invokestatic 61, 3) := by decide +kernel
theorem dX8_as_110 : decode cX8_as 110 = .ok (.iload 8, 2) := by decide +kernel
theorem dX8_as_112 : decode cX8_as 112 = .ok (.invokevirtual 322, 3) := by decide +kernel
theorem dX8_as_115 : decode cX8_as 115 = .ok (.aload_n 0, 1) := by decide +kernel
theorem dX8_as_116 : decode cX8_as 116 = .ok (.getfield 24, 3) := by decide +kernel
theorem dX8_as_119 : decode cX8_as 119 = .ok (.aload_n 0, 1) := by decide +kernel
theorem dX8_as_120 : decode cX8_as 120 = .ok (.getfield 12, 3) := by decide +kernel
theorem dX8_as_123 : decode cX8_as 123 = .ok (.iload_n 1, 1) := by decide +kernel
theorem dX8_as_124 : decode cX8_as 124 = .ok (.invokevirtual 258, 3) := by decide +kernel
theorem dX8_as_127 : decode cX8_as 127 = .ok (.iload 4, 2) := by decide +kernel
theorem dX8_as_129 : decode cX8_as 129 = .ok (.invokevirtual 261, 3) := by decide +kernel
theorem dX8_as_132 : decode cX8_as 132 = .ok (.aload_n 0, 1) := by decide +kernel
theorem dX8_as_133 : decode cX8_as 133 = .ok (.getfield 24, 3) := by decide +kernel
theorem dX8_as_136 : decode cX8_as 136 = .ok (.invokevirtual 289, 3) := by decide +kernel
theorem dX8_as_139 : decode cX8_as 139 = .ok (.aload_n 0, 1) := by decide +kernel
theorem dX8_as_140 : decode cX8_as 140 = .ok (.getfield 24, 3) := by decide +kernel
theorem dX8_as_143 : decode cX8_as 143 = .ok (.invokevirtual 303, 3) := by decide +kernel
theorem dX8_as_146 : decode cX8_as 146 = .ok (.aload_n 0, 1) := by decide +kernel
theorem dX8_as_147 : decode cX8_as 147 = .ok (.getfield 24, 3) := by decide +kernel
theorem dX8_as_150 : decode cX8_as 150 = .ok (.invokevirtual 307, 3) := by decide +kernel
theorem dX8_as_153 : decode cX8_as 153 = .ok (.lsub, 1) := by decide +kernel
theorem dX8_as_154 : decode cX8_as 154 = .ok (.lstore 9, 2) := by decide +kernel
theorem dX8_as_156 : decode cX8_as 156 = .ok (.aload 6, 2) := by decide +kernel
theorem dX8_as_158 : decode cX8_as 158 = .ok (.sipush 2401, 3) := by decide +kernel
theorem dX8_as_161 : decode cX8_as 161 = .ok (.iload 8, 2) := by decide +kernel
theorem dX8_as_163 : decode cX8_as 163 = .ok (.invokevirtual 322, 3) := by decide +kernel
theorem dX8_as_166 : decode cX8_as 166 = .ok (.lload 9, 2) := by decide +kernel
theorem dX8_as_168 : decode cX8_as 168 = .ok (.lreturn, 1) := by decide +kernel
set_option maxHeartbeats 4000000 in
set_option maxRecDepth 100000 in
theorem g_X8_as (l : Launch) (G : xG) (S : yS) (d : yD) (q0 : Nat) (p0 : Int32) (p1 : Int32) (p2 : Int32) (p3 : Int32) (hSh : ySh S) (hPo : yPo S d) (hm_q0 : q0 ∈ S.1) (hk_q0 : S.2.1 q0 = 8) (hz_p3 : p3 = 0 ∨ p3 = 1) (hI3 : ∀ a, a ∈ S.1 → S.2.1 a = 4 → 0 ≤ (d.1 a 3).toInt ∧ (d.1 a 3).toInt ≤ 39) : xWl l G yX8_as cX8_as 11 (some .long) 7 173 0 0 [.ref q0, .int p0, .int p1, .int p2, .int p3] (yW G S d) (fun r (u : yD) => yAg S [3, 5, 7, 8, 10, 11, 12, 13, 14, 15, 22, 23, 24] d u ∧ (yPo S d → yPo S u) ∧ (((∀ i, i < 6 → ∀ k, k < 2400 → u.2.2.2.1 (S.2.2.1 (S.2.2.1 (S.2.2.1 q0 0) 0) i) k = d.2.2.2.1 (S.2.2.1 (S.2.2.1 (S.2.2.1 q0 0) 0) i) k) ∧ ∀ t, t ∈ S.1 → S.2.1 t = 6 → t ≠ S.2.2.1 (S.2.2.1 q0 0) 0 → ∀ i, i < 6 → u.2.2.2.1 (S.2.2.1 t i) = d.2.2.2.1 (S.2.2.1 t i)) ∧ u.1 q0 4 = d.1 q0 4)) (fun u => yW G S u) := by
  intro sz
  refine xstart (by decide) (Nat.le_of_ble_eq_true rfl) (fun p e s m args below meth c ls C0 hr hlocks hin hsz hP hK hD hN hl => ?_)
  obtain ⟨hx, hb, hml, hown, htl⟩ := id C0
  subst hsz
  have hD := hD.self (sz := s.heap.size)
  generalize hAe : va_A (yW G S d) s.heap.size = A at hD ⊢
  have hA : ∀ q : Nat, s.heap.size ≤ q → A q := fun q h => by rw [← hAe]; exact Or.inr h
  have hS : va_S A s.heap s.heap [] := va_S.rf
  have hg0 : yAg S [3, 5, 7, 8, 10, 11, 12, 13, 14, 15, 22, 23, 24] d d := yAg.rf
  have hl : lv_has ls 11 [(0, .ref q0), (1, .int p0), (2, .int p1), (3, .int p2), (4, .int p3)] := hl
  refine lv_iload_n hx hb dX8_as_0 rfl (lv_at hl 2 rfl) ?_
  refine lv_iconst (v := 0) hx hb dX8_as_1 (by decide) ?_
  refine lv_bipush (v := 59) hx hb dX8_as_2 (by decide) ?_
  refine ySri (As := [.int p1, .int 0, .int 59]) (rest := []) C0 (g_X8_within l G S d p1 0 59 ) ok_X8_within (mW193 : Cond.methodLink RX8 71 yX8_within ∈ wsT) ⟨Nat.le_of_ble_eq_true rfl, Nat.le_of_ble_eq_true rfl⟩ hP hD hK hN rfl hl.1 rfl (Nat.le_of_ble_eq_true rfl) ⟨Nat.le_of_ble_eq_true rfl, Nat.le_of_ble_eq_true rfl⟩ dX8_as_4 (fun r_1 hr_1 => ?_)
  have hL_2 : (0 : Int32).toInt = 0 := by decide +kernel
  have hL_3 : (59 : Int32).toInt = 59 := by decide +kernel
  have tr_1 := tw_ hr_1
  refine lv_if_eq (tgt := 24) hx hb dX8_as_7 (by decide) (fun c_4 => ?_) (fun c_4 => ?_)
  · refine lv_iconst (v := 0) hx hb dX8_as_24 (by decide) ?_
    refine lv_istore (lv' := [(5, .int 0), (0, .ref q0), (1, .int p0), (2, .int p1), (3, .int p2), (4, .int p3)]) hx hb dX8_as_25 hl (by decide) rfl (fun ls hl => ?_)
    refine lv_aload_n hx hb dX8_as_27 rfl (lv_at hl 1 rfl) ?_
    refine lv_aload_n hx hb dX8_as_28 rfl (lv_at hl 1 rfl) ?_
    refine lv_iload_n hx hb dX8_as_29 rfl (lv_at hl 2 rfl) ?_
    refine yVri (As := [.int p0]) (rest := [.ref q0]) C0 (g_X8_portReason l G S d q0 p0 hSh hm_q0 hk_q0) ok_X8_portReason (mW374 : Cond.methodLink RX8 124 yX8_portReason ∈ wsT) ⟨Nat.le_of_ble_eq_true rfl, Nat.le_of_ble_eq_true rfl⟩ hP hD hK hN hm_q0 hk_q0 (by decide) rfl rfl rfl hl.1 rfl (Nat.le_of_ble_eq_true rfl) ⟨Nat.le_of_ble_eq_true rfl, Nat.le_of_ble_eq_true rfl⟩ dX8_as_30 (fun r_5 hr_5 => ?_)
    have tr_5 := tp_ hr_5
    refine lv_iload hx hb dX8_as_33 (lv_at hl 0 rfl) ?_
    refine ySri (As := [.int 0]) (rest := [.int r_5, .ref q0]) C0 (g_X8_number l G S d 0 ) ok_X8_number (mW196 : Cond.methodLink RX8 54 yX8_number ∈ wsT) ⟨Nat.le_of_ble_eq_true rfl, Nat.le_of_ble_eq_true rfl⟩ hP hD hK hN rfl hl.1 rfl (Nat.le_of_ble_eq_true rfl) ⟨Nat.le_of_ble_eq_true rfl, Nat.le_of_ble_eq_true rfl⟩ dX8_as_35 (fun r_6 hr_6 => ?_)
    have tr_6 := tn_ hr_6
    refine ySri (As := [.int r_5, .int r_6]) (rest := [.ref q0]) C0 (g_X8_least l G S d r_5 r_6 ) ok_X8_least (mW199 : Cond.methodLink RX8 58 yX8_least ∈ wsT) ⟨Nat.le_of_ble_eq_true rfl, Nat.le_of_ble_eq_true rfl⟩ hP hD hK hN rfl hl.1 rfl (Nat.le_of_ble_eq_true rfl) ⟨Nat.le_of_ble_eq_true rfl, Nat.le_of_ble_eq_true rfl⟩ dX8_as_38 (fun r_7 hr_7 => ?_)
    have tr_7 := tl_ hr_7
    refine yVwi (As := [.int r_7]) (rest := []) C0 (g_X8_refused l G S d q0 r_7 hSh hPo hm_q0 hk_q0) ok_X8_refused (mW160 : Cond.methodLink RX8 42 yX8_refused ∈ wsT) ⟨Nat.le_of_ble_eq_true rfl, Nat.le_of_ble_eq_true rfl⟩ hP hD hS hA hK hN hm_q0 hk_q0 (by decide) rfl rfl rfl hl.1 rfl (Nat.le_of_ble_eq_true rfl) ⟨Nat.le_of_ble_eq_true rfl, Nat.le_of_ble_eq_true rfl⟩ dX8_as_41 (fun r_8 d_9 H locs hr_8 hP hD hS => ?_)
    obtain ⟨hgad_9, hpad_9, hxd_9⟩ := hr_8
    have hgd_9 : yAg S [3, 5, 7, 8, 10, 11, 12, 13, 14, 15, 22, 23, 24] d d_9 := yAg.tr hg0 hgad_9 (by first | decide | exact fun _ h => h)
    have hPod_9 : yPo S d_9 := hpad_9 hPo
    have tr_8 := tr_ hxd_9.1
    refine lv_if_eq (tgt := 51) hx hb dX8_as_44 (by decide) (fun c_10 => ?_) (fun c_10 => ?_)
    · refine lv_aload_n hx hb dX8_as_51 rfl (lv_at hl 1 rfl) ?_
      refine yget (ci := 8) (k := 0) (v := .ref (S.2.2.1 q0 0)) (C := RX8) (T := TX8) (N := 6) C0 hK hP hm_q0 hk_q0 (by decide) rfl inlX8 (by decide) mW16 (fun _ h9 => h9) rfl dX8_as_52 ?_
      obtain ⟨hmy_11, hky_11⟩ := ySh.f8_0 hSh _ hm_q0 hk_q0
      refine yget (ci := 0) (k := 0) (v := .ref (S.2.2.1 (S.2.2.1 q0 0) 0)) (C := RX0) (T := TX0) (N := 6) C0 hK hP hmy_11 hky_11 (by decide) rfl inlX0 (by decide) mW158 (fun _ h9 => h9) rfl dX8_as_55 ?_
      obtain ⟨hmy_12, hky_12⟩ := ySh.f0_0 hSh _ hmy_11 hky_11
      refine lv_astore (lv' := [(6, .ref (S.2.2.1 (S.2.2.1 q0 0) 0)), (5, .int 0), (0, .ref q0), (1, .int p0), (2, .int p1), (3, .int p2), (4, .int p3)]) hx hb dX8_as_58 hl (by decide) rfl (fun ls hl => ?_)
      refine lv_aload_n hx hb dX8_as_60 rfl (lv_at hl 2 rfl) ?_
      refine yget (ci := 8) (k := 0) (v := .ref (S.2.2.1 q0 0)) (C := RX8) (T := TX8) (N := 6) C0 hK hP hm_q0 hk_q0 (by decide) rfl inlX8 (by decide) mW16 (fun _ h9 => h9) rfl dX8_as_61 ?_
      refine lv_iload_n hx hb dX8_as_64 rfl (lv_at hl 3 rfl) ?_
      refine yVrr (As := [.int p0]) (rest := []) C0 (g_X0_portAt l G S d_9 (S.2.2.1 q0 0) p0 hSh hmy_11 hky_11) ok_X0_portAt (mW337 : Cond.methodLink RX8 114 yX0_portAt ∈ wsT) ⟨Nat.le_of_ble_eq_true rfl, Nat.le_of_ble_eq_true rfl⟩ hP hD hK hN hmy_11 hky_11 (by decide) rfl rfl rfl hl.1 rfl (Nat.le_of_ble_eq_true rfl) ⟨Nat.le_of_ble_eq_true rfl, Nat.le_of_ble_eq_true rfl⟩ dX8_as_65 (fun r_13 hr_13 => ?_)
      obtain ⟨hmr_13, hkr_13, her_13⟩ := hr_13
      refine yget (ci := 4) (k := 3) (v := .int (d_9.1 r_13 3)) (C := RX4) (T := TX4) (N := 11) C0 hK hP hmr_13 hkr_13 (by decide) rfl inlX4 (by decide) mW569 (fun _ h9 => h9) rfl dX8_as_68 ?_
      refine lv_topi (fun z_14 ez_14 => ?_)
      refine lv_istore (lv' := [(7, .int z_14), (6, .ref (S.2.2.1 (S.2.2.1 q0 0) 0)), (5, .int 0), (0, .ref q0), (1, .int p0), (2, .int p1), (3, .int p2), (4, .int p3)]) hx hb dX8_as_71 hl (by decide) rfl (fun ls hl => ?_)
      refine lv_iload hx hb dX8_as_73 (lv_at hl 0 rfl) ?_
      refine lv_iload_n hx hb dX8_as_75 rfl (lv_at hl 5 rfl) ?_
      refine ySri (As := [.int z_14, .int p1]) (rest := []) C0 (g_X8_rowOf l G S d_9 z_14 p1 ) ok_X8_rowOf (mW210 : Cond.methodLink RX8 61 yX8_rowOf ∈ wsT) ⟨Nat.le_of_ble_eq_true rfl, Nat.le_of_ble_eq_true rfl⟩ hP hD hK hN rfl hl.1 rfl (Nat.le_of_ble_eq_true rfl) ⟨Nat.le_of_ble_eq_true rfl, Nat.le_of_ble_eq_true rfl⟩ dX8_as_76 (fun r_15 hr_15 => ?_)
      refine lv_istore (lv' := [(8, .int r_15), (7, .int z_14), (6, .ref (S.2.2.1 (S.2.2.1 q0 0) 0)), (5, .int 0), (0, .ref q0), (1, .int p0), (2, .int p1), (3, .int p2), (4, .int p3)]) hx hb dX8_as_79 hl (by decide) rfl (fun ls hl => ?_)
      refine lv_aload hx hb dX8_as_81 (lv_at hl 2 rfl) ?_
      refine lv_iload hx hb dX8_as_83 (lv_at hl 0 rfl) ?_
      refine lv_sipush (v := 2401) hx hb dX8_as_85 (by decide) ?_
      refine yVwv (As := [.int r_15, .int 2401]) (rest := []) C0 (g_X6_copyRow l G S d_9 (S.2.2.1 (S.2.2.1 q0 0) 0) r_15 2401 hSh hPod_9 hmy_12 hky_12) ok_X6_copyRow (mW1016 : Cond.methodLink RX8 322 yX6_copyRow ∈ wsT) ⟨Nat.le_of_ble_eq_true rfl, Nat.le_of_ble_eq_true rfl⟩ hP hD hS hA hK hN hmy_12 hky_12 (by decide) rfl rfl rfl hl.1 rfl (Nat.le_of_ble_eq_true rfl) ⟨Nat.le_of_ble_eq_true rfl, Nat.le_of_ble_eq_true rfl⟩ dX8_as_88 (fun d_17 H locs hr_16 hP hD hS => ?_)
      obtain ⟨hgad_17, hpad_17, hxd_17⟩ := hr_16
      have hgd_17 : yAg S [3, 5, 7, 8, 10, 11, 12, 13, 14, 15, 22, 23, 24] d d_17 := yAg.tr hgd_9 hgad_17 (by first | decide | exact fun _ h => h)
      have hPod_17 : yPo S d_17 := hpad_17 hPod_9
      refine lv_aload hx hb dX8_as_91 (lv_at hl 2 rfl) ?_
      refine lv_iload_n hx hb dX8_as_93 rfl (lv_at hl 7 rfl) ?_
      refine lv_iconst (v := (-1)) hx hb dX8_as_94 (by decide) ?_
      refine lv_icmp_ne (tgt := 104) hx hb dX8_as_95 (by decide) (fun c_18 => ?_) (fun c_18 => ?_)
      · refine lv_iload hx hb dX8_as_104 (lv_at hl 1 rfl) ?_
        refine lv_iload_n hx hb dX8_as_106 rfl (lv_at hl 7 rfl) ?_
        refine ySri (As := [.int z_14, .int p2]) (rest := [.ref (S.2.2.1 (S.2.2.1 q0 0) 0)]) C0 (g_X8_rowOf l G S d_17 z_14 p2 ) ok_X8_rowOf (mW210 : Cond.methodLink RX8 61 yX8_rowOf ∈ wsT) ⟨Nat.le_of_ble_eq_true rfl, Nat.le_of_ble_eq_true rfl⟩ hP hD hK hN rfl hl.1 rfl (Nat.le_of_ble_eq_true rfl) ⟨Nat.le_of_ble_eq_true rfl, Nat.le_of_ble_eq_true rfl⟩ dX8_as_107 (fun r_19 hr_19 => ?_)
        refine lv_iload hx hb dX8_as_110 (lv_at hl 0 rfl) ?_
        refine yVwv (As := [.int r_19, .int r_15]) (rest := []) C0 (g_X6_copyRow l G S d_17 (S.2.2.1 (S.2.2.1 q0 0) 0) r_19 r_15 hSh hPod_17 hmy_12 hky_12) ok_X6_copyRow (mW1016 : Cond.methodLink RX8 322 yX6_copyRow ∈ wsT) ⟨Nat.le_of_ble_eq_true rfl, Nat.le_of_ble_eq_true rfl⟩ hP hD hS hA hK hN hmy_12 hky_12 (by decide) rfl rfl rfl hl.1 rfl (Nat.le_of_ble_eq_true rfl) ⟨Nat.le_of_ble_eq_true rfl, Nat.le_of_ble_eq_true rfl⟩ dX8_as_112 (fun d_21 H locs hr_20 hP hD hS => ?_)
        obtain ⟨hgad_21, hpad_21, hxd_21⟩ := hr_20
        have hgd_21 : yAg S [3, 5, 7, 8, 10, 11, 12, 13, 14, 15, 22, 23, 24] d d_21 := yAg.tr hgd_17 hgad_21 (by first | decide | exact fun _ h => h)
        have hPod_21 : yPo S d_21 := hpad_21 hPod_17
        refine lv_aload_n hx hb dX8_as_115 rfl (lv_at hl 4 rfl) ?_
        refine yget (ci := 8) (k := 2) (v := .ref (S.2.2.1 q0 2)) (C := RX8) (T := TX8) (N := 6) C0 hK hP hm_q0 hk_q0 (by decide) rfl inlX8 (by decide) mW21 (fun _ h9 => h9) rfl dX8_as_116 ?_
        obtain ⟨hmy_22, hky_22⟩ := ySh.f8_2 hSh _ hm_q0 hk_q0
        refine lv_aload_n hx hb dX8_as_119 rfl (lv_at hl 4 rfl) ?_
        refine yget (ci := 8) (k := 0) (v := .ref (S.2.2.1 q0 0)) (C := RX8) (T := TX8) (N := 6) C0 hK hP hm_q0 hk_q0 (by decide) rfl inlX8 (by decide) mW16 (fun _ h9 => h9) rfl dX8_as_120 ?_
        refine lv_iload_n hx hb dX8_as_123 rfl (lv_at hl 5 rfl) ?_
        refine yVri (As := [.int p0]) (rest := [.ref (S.2.2.1 q0 2)]) C0 (g_X0_groupOf l G S d_21 (S.2.2.1 q0 0) p0 hSh hmy_11 hky_11) ok_X0_groupOf (mW694 : Cond.methodLink RX8 258 yX0_groupOf ∈ wsT) ⟨Nat.le_of_ble_eq_true rfl, Nat.le_of_ble_eq_true rfl⟩ hP hD hK hN hmy_11 hky_11 (by decide) rfl rfl rfl hl.1 rfl (Nat.le_of_ble_eq_true rfl) ⟨Nat.le_of_ble_eq_true rfl, Nat.le_of_ble_eq_true rfl⟩ dX8_as_124 (fun r_23 hr_23 => ?_)
        refine lv_iload hx hb dX8_as_127 (lv_at hl 8 rfl) ?_
        refine yVwv (As := [.int r_23, .int p3]) (rest := []) C0 (g_X3_read l G S d_21 (S.2.2.1 q0 2) r_23 p3 hSh hPod_21 hmy_22 hky_22 hz_p3) ok_X3_read (mW699 : Cond.methodLink RX8 261 yX3_read ∈ wsT) ⟨Nat.le_of_ble_eq_true rfl, Nat.le_of_ble_eq_true rfl⟩ hP hD hS hA hK hN hmy_22 hky_22 (by decide) rfl rfl rfl hl.1 rfl (Nat.le_of_ble_eq_true rfl) ⟨Nat.le_of_ble_eq_true rfl, Nat.le_of_ble_eq_true rfl⟩ dX8_as_129 (fun d_25 H locs hr_24 hP hD hS => ?_)
        obtain ⟨hgad_25, hpad_25, hxd_25⟩ := hr_24
        have hgd_25 : yAg S [3, 5, 7, 8, 10, 11, 12, 13, 14, 15, 22, 23, 24] d d_25 := yAg.tr hgd_21 hgad_25 (by first | decide | exact fun _ h => h)
        have hPod_25 : yPo S d_25 := hpad_25 hPod_21
        refine lv_aload_n hx hb dX8_as_132 rfl (lv_at hl 4 rfl) ?_
        refine yget (ci := 8) (k := 2) (v := .ref (S.2.2.1 q0 2)) (C := RX8) (T := TX8) (N := 6) C0 hK hP hm_q0 hk_q0 (by decide) rfl inlX8 (by decide) mW21 (fun _ h9 => h9) rfl dX8_as_133 ?_
        refine yVwv (As := []) (rest := []) C0 (g_X3_settle l G S d_25 (S.2.2.1 q0 2) hSh hPod_25 hmy_22 hky_22) ok_X3_settle (mW952 : Cond.methodLink RX8 289 yX3_settle ∈ wsT) ⟨Nat.le_of_ble_eq_true rfl, Nat.le_of_ble_eq_true rfl⟩ hP hD hS hA hK hN hmy_22 hky_22 (by decide) rfl rfl rfl hl.1 rfl (Nat.le_of_ble_eq_true rfl) ⟨Nat.le_of_ble_eq_true rfl, Nat.le_of_ble_eq_true rfl⟩ dX8_as_136 (fun d_27 H locs hr_26 hP hD hS => ?_)
        obtain ⟨hgad_27, hpad_27, hxd_27⟩ := hr_26
        have hgd_27 : yAg S [3, 5, 7, 8, 10, 11, 12, 13, 14, 15, 22, 23, 24] d d_27 := yAg.tr hgd_25 hgad_27 (by first | decide | exact fun _ h => h)
        have hPod_27 : yPo S d_27 := hpad_27 hPod_25
        refine lv_aload_n hx hb dX8_as_139 rfl (lv_at hl 4 rfl) ?_
        refine yget (ci := 8) (k := 2) (v := .ref (S.2.2.1 q0 2)) (C := RX8) (T := TX8) (N := 6) C0 hK hP hm_q0 hk_q0 (by decide) rfl inlX8 (by decide) mW21 (fun _ h9 => h9) rfl dX8_as_140 ?_
        refine yVrl (As := []) (rest := []) C0 (g_X3_owed l G S d_27 (S.2.2.1 q0 2) hSh hmy_22 hky_22) ok_X3_owed (mW958 : Cond.methodLink RX8 303 yX3_owed ∈ wsT) ⟨Nat.le_of_ble_eq_true rfl, Nat.le_of_ble_eq_true rfl⟩ hP hD hK hN hmy_22 hky_22 (by decide) rfl rfl rfl hl.1 rfl (Nat.le_of_ble_eq_true rfl) ⟨Nat.le_of_ble_eq_true rfl, Nat.le_of_ble_eq_true rfl⟩ dX8_as_143 (fun r_28 hr_28 => ?_)
        refine lv_aload_n hx hb dX8_as_146 rfl (lv_at hl 4 rfl) ?_
        refine yget (ci := 8) (k := 2) (v := .ref (S.2.2.1 q0 2)) (C := RX8) (T := TX8) (N := 6) C0 hK hP hm_q0 hk_q0 (by decide) rfl inlX8 (by decide) mW21 (fun _ h9 => h9) rfl dX8_as_147 ?_
        refine yVrl (As := []) (rest := [.long r_28]) C0 (g_X3_saved l G S d_27 (S.2.2.1 q0 2) hSh hmy_22 hky_22) ok_X3_saved (mW965 : Cond.methodLink RX8 307 yX3_saved ∈ wsT) ⟨Nat.le_of_ble_eq_true rfl, Nat.le_of_ble_eq_true rfl⟩ hP hD hK hN hmy_22 hky_22 (by decide) rfl rfl rfl hl.1 rfl (Nat.le_of_ble_eq_true rfl) ⟨Nat.le_of_ble_eq_true rfl, Nat.le_of_ble_eq_true rfl⟩ dX8_as_150 (fun r_29 hr_29 => ?_)
        refine lv_lsub hx hb dX8_as_153 ?_
        refine lv_topl (fun z_30 ez_30 => ?_)
        refine lv_lstore (lv' := [(9, .long z_30), (8, .int r_15), (7, .int z_14), (6, .ref (S.2.2.1 (S.2.2.1 q0 0) 0)), (5, .int 0), (0, .ref q0), (1, .int p0), (2, .int p1), (3, .int p2), (4, .int p3)]) hx hb dX8_as_154 hl (by decide) rfl (fun ls hl => ?_)
        refine lv_aload hx hb dX8_as_156 (lv_at hl 3 rfl) ?_
        refine lv_sipush (v := 2401) hx hb dX8_as_158 (by decide) ?_
        refine lv_iload hx hb dX8_as_161 (lv_at hl 1 rfl) ?_
        refine yVwv (As := [.int 2401, .int r_15]) (rest := []) C0 (g_X6_copyRow l G S d_27 (S.2.2.1 (S.2.2.1 q0 0) 0) 2401 r_15 hSh hPod_27 hmy_12 hky_12) ok_X6_copyRow (mW1016 : Cond.methodLink RX8 322 yX6_copyRow ∈ wsT) ⟨Nat.le_of_ble_eq_true rfl, Nat.le_of_ble_eq_true rfl⟩ hP hD hS hA hK hN hmy_12 hky_12 (by decide) rfl rfl rfl hl.1 rfl (Nat.le_of_ble_eq_true rfl) ⟨Nat.le_of_ble_eq_true rfl, Nat.le_of_ble_eq_true rfl⟩ dX8_as_163 (fun d_32 H locs hr_31 hP hD hS => ?_)
        obtain ⟨hgad_32, hpad_32, hxd_32⟩ := hr_31
        have hgd_32 : yAg S [3, 5, 7, 8, 10, 11, 12, 13, 14, 15, 22, 23, 24] d d_32 := yAg.tr hgd_27 hgad_32 (by first | decide | exact fun _ h => h)
        have hPod_32 : yPo S d_32 := hpad_32 hPod_27
        refine lv_lload hx hb dX8_as_166 (lv_at hl 0 rfl) ?_
        have hz3_ : (z_14 : Int32).toInt = (d.1 r_13 3).toInt := by rw [ez_14]; exact congrArg Int32.toInt (congrFun ((yAg.o hgad_9 (a := r_13) (by rw [hkr_13]; decide))).1 3)
        have hz4_ := hI3 r_13 hmr_13 hkr_13
        have F_33 := feq (rfl : (r_1 : Int32).toInt = (r_1 : Int32).toInt) (by decide +kernel : (0 : Int32).toInt = 0) c_4
        have F_34 := feq (rfl : (r_8 : Int32).toInt = (r_8 : Int32).toInt) (by decide +kernel : (0 : Int32).toInt = 0) c_10
        have F_35 := fne (rfl : (p2 : Int32).toInt = (p2 : Int32).toInt) (by decide +kernel : ((-1) : Int32).toInt = (-1)) c_18
        have h60_ : (60 : Int32).toInt = 60 := by decide +kernel
        have hm6_ : (z_14 * 60 : Int32).toInt = (z_14 : Int32).toInt * 60 := tmul rfl rfl h60_ (by omega) (by omega)
        have hrw_ : (r_15 : Int32).toInt = (z_14 : Int32).toInt * 60 + p1.toInt := tadd (hr_15) hm6_ rfl (by omega) (by omega)
        have hzt_ := zAside hSh hmy_12 hky_12 (by omega) (by omega) hxd_17 hxd_21 (yAg.tr (yAg.tr (yAg.rf (M := [3, 5, 7, 22, 23])) hgad_25 (by decide)) hgad_27 (by decide)) (by decide) hxd_32
        exact W.lret (v := z_30) hx hb hr (fun t ht hW => ⟨⟨z_30, d_32, rfl, ⟨hgd_32, (fun _ => hPod_32), ⟨⟨fun i hi k hk => (hzt_.1 i hi k hk).trans (congrFun (((zTm.ag zTm.rf hSh hmy_12 hky_12 hgad_9 (by decide))).1 i hi) k), fun t a b c i hi => (hzt_.2 t a b c i hi).trans (((zTm.ag zTm.rf hSh hmy_12 hky_12 hgad_9 (by decide))).2 t a b c i hi)⟩, ((congrFun (hgad_32 q0 (by rw [hk_q0]; decide)).1 4).trans ((congrFun (hgad_27 q0 (by rw [hk_q0]; decide)).1 4).trans ((congrFun (hgad_25 q0 (by rw [hk_q0]; decide)).1 4).trans ((congrFun (hgad_21 q0 (by rw [hk_q0]; decide)).1 4).trans ((congrFun (hgad_17 q0 (by rw [hk_q0]; decide)).1 4).trans (hxd_9.2))))))⟩⟩, by rw [ht]; exact hP, hD⟩, hS.F ht⟩) hS.2.2 dX8_as_168
      · refine lv_sipush (v := 2400) hx hb dX8_as_98 (by decide) ?_
        refine lv_goto (tgt := 110) hx hb dX8_as_101 (by decide) ?_
        refine lv_iload hx hb dX8_as_110 (lv_at hl 0 rfl) ?_
        refine yVwv (As := [.int 2400, .int r_15]) (rest := []) C0 (g_X6_copyRow l G S d_17 (S.2.2.1 (S.2.2.1 q0 0) 0) 2400 r_15 hSh hPod_17 hmy_12 hky_12) ok_X6_copyRow (mW1016 : Cond.methodLink RX8 322 yX6_copyRow ∈ wsT) ⟨Nat.le_of_ble_eq_true rfl, Nat.le_of_ble_eq_true rfl⟩ hP hD hS hA hK hN hmy_12 hky_12 (by decide) rfl rfl rfl hl.1 rfl (Nat.le_of_ble_eq_true rfl) ⟨Nat.le_of_ble_eq_true rfl, Nat.le_of_ble_eq_true rfl⟩ dX8_as_112 (fun d_37 H locs hr_36 hP hD hS => ?_)
        obtain ⟨hgad_37, hpad_37, hxd_37⟩ := hr_36
        have hgd_37 : yAg S [3, 5, 7, 8, 10, 11, 12, 13, 14, 15, 22, 23, 24] d d_37 := yAg.tr hgd_17 hgad_37 (by first | decide | exact fun _ h => h)
        have hPod_37 : yPo S d_37 := hpad_37 hPod_17
        refine lv_aload_n hx hb dX8_as_115 rfl (lv_at hl 4 rfl) ?_
        refine yget (ci := 8) (k := 2) (v := .ref (S.2.2.1 q0 2)) (C := RX8) (T := TX8) (N := 6) C0 hK hP hm_q0 hk_q0 (by decide) rfl inlX8 (by decide) mW21 (fun _ h9 => h9) rfl dX8_as_116 ?_
        obtain ⟨hmy_38, hky_38⟩ := ySh.f8_2 hSh _ hm_q0 hk_q0
        refine lv_aload_n hx hb dX8_as_119 rfl (lv_at hl 4 rfl) ?_
        refine yget (ci := 8) (k := 0) (v := .ref (S.2.2.1 q0 0)) (C := RX8) (T := TX8) (N := 6) C0 hK hP hm_q0 hk_q0 (by decide) rfl inlX8 (by decide) mW16 (fun _ h9 => h9) rfl dX8_as_120 ?_
        refine lv_iload_n hx hb dX8_as_123 rfl (lv_at hl 5 rfl) ?_
        refine yVri (As := [.int p0]) (rest := [.ref (S.2.2.1 q0 2)]) C0 (g_X0_groupOf l G S d_37 (S.2.2.1 q0 0) p0 hSh hmy_11 hky_11) ok_X0_groupOf (mW694 : Cond.methodLink RX8 258 yX0_groupOf ∈ wsT) ⟨Nat.le_of_ble_eq_true rfl, Nat.le_of_ble_eq_true rfl⟩ hP hD hK hN hmy_11 hky_11 (by decide) rfl rfl rfl hl.1 rfl (Nat.le_of_ble_eq_true rfl) ⟨Nat.le_of_ble_eq_true rfl, Nat.le_of_ble_eq_true rfl⟩ dX8_as_124 (fun r_39 hr_39 => ?_)
        refine lv_iload hx hb dX8_as_127 (lv_at hl 8 rfl) ?_
        refine yVwv (As := [.int r_39, .int p3]) (rest := []) C0 (g_X3_read l G S d_37 (S.2.2.1 q0 2) r_39 p3 hSh hPod_37 hmy_38 hky_38 hz_p3) ok_X3_read (mW699 : Cond.methodLink RX8 261 yX3_read ∈ wsT) ⟨Nat.le_of_ble_eq_true rfl, Nat.le_of_ble_eq_true rfl⟩ hP hD hS hA hK hN hmy_38 hky_38 (by decide) rfl rfl rfl hl.1 rfl (Nat.le_of_ble_eq_true rfl) ⟨Nat.le_of_ble_eq_true rfl, Nat.le_of_ble_eq_true rfl⟩ dX8_as_129 (fun d_41 H locs hr_40 hP hD hS => ?_)
        obtain ⟨hgad_41, hpad_41, hxd_41⟩ := hr_40
        have hgd_41 : yAg S [3, 5, 7, 8, 10, 11, 12, 13, 14, 15, 22, 23, 24] d d_41 := yAg.tr hgd_37 hgad_41 (by first | decide | exact fun _ h => h)
        have hPod_41 : yPo S d_41 := hpad_41 hPod_37
        refine lv_aload_n hx hb dX8_as_132 rfl (lv_at hl 4 rfl) ?_
        refine yget (ci := 8) (k := 2) (v := .ref (S.2.2.1 q0 2)) (C := RX8) (T := TX8) (N := 6) C0 hK hP hm_q0 hk_q0 (by decide) rfl inlX8 (by decide) mW21 (fun _ h9 => h9) rfl dX8_as_133 ?_
        refine yVwv (As := []) (rest := []) C0 (g_X3_settle l G S d_41 (S.2.2.1 q0 2) hSh hPod_41 hmy_38 hky_38) ok_X3_settle (mW952 : Cond.methodLink RX8 289 yX3_settle ∈ wsT) ⟨Nat.le_of_ble_eq_true rfl, Nat.le_of_ble_eq_true rfl⟩ hP hD hS hA hK hN hmy_38 hky_38 (by decide) rfl rfl rfl hl.1 rfl (Nat.le_of_ble_eq_true rfl) ⟨Nat.le_of_ble_eq_true rfl, Nat.le_of_ble_eq_true rfl⟩ dX8_as_136 (fun d_43 H locs hr_42 hP hD hS => ?_)
        obtain ⟨hgad_43, hpad_43, hxd_43⟩ := hr_42
        have hgd_43 : yAg S [3, 5, 7, 8, 10, 11, 12, 13, 14, 15, 22, 23, 24] d d_43 := yAg.tr hgd_41 hgad_43 (by first | decide | exact fun _ h => h)
        have hPod_43 : yPo S d_43 := hpad_43 hPod_41
        refine lv_aload_n hx hb dX8_as_139 rfl (lv_at hl 4 rfl) ?_
        refine yget (ci := 8) (k := 2) (v := .ref (S.2.2.1 q0 2)) (C := RX8) (T := TX8) (N := 6) C0 hK hP hm_q0 hk_q0 (by decide) rfl inlX8 (by decide) mW21 (fun _ h9 => h9) rfl dX8_as_140 ?_
        refine yVrl (As := []) (rest := []) C0 (g_X3_owed l G S d_43 (S.2.2.1 q0 2) hSh hmy_38 hky_38) ok_X3_owed (mW958 : Cond.methodLink RX8 303 yX3_owed ∈ wsT) ⟨Nat.le_of_ble_eq_true rfl, Nat.le_of_ble_eq_true rfl⟩ hP hD hK hN hmy_38 hky_38 (by decide) rfl rfl rfl hl.1 rfl (Nat.le_of_ble_eq_true rfl) ⟨Nat.le_of_ble_eq_true rfl, Nat.le_of_ble_eq_true rfl⟩ dX8_as_143 (fun r_44 hr_44 => ?_)
        refine lv_aload_n hx hb dX8_as_146 rfl (lv_at hl 4 rfl) ?_
        refine yget (ci := 8) (k := 2) (v := .ref (S.2.2.1 q0 2)) (C := RX8) (T := TX8) (N := 6) C0 hK hP hm_q0 hk_q0 (by decide) rfl inlX8 (by decide) mW21 (fun _ h9 => h9) rfl dX8_as_147 ?_
        refine yVrl (As := []) (rest := [.long r_44]) C0 (g_X3_saved l G S d_43 (S.2.2.1 q0 2) hSh hmy_38 hky_38) ok_X3_saved (mW965 : Cond.methodLink RX8 307 yX3_saved ∈ wsT) ⟨Nat.le_of_ble_eq_true rfl, Nat.le_of_ble_eq_true rfl⟩ hP hD hK hN hmy_38 hky_38 (by decide) rfl rfl rfl hl.1 rfl (Nat.le_of_ble_eq_true rfl) ⟨Nat.le_of_ble_eq_true rfl, Nat.le_of_ble_eq_true rfl⟩ dX8_as_150 (fun r_45 hr_45 => ?_)
        refine lv_lsub hx hb dX8_as_153 ?_
        refine lv_topl (fun z_46 ez_46 => ?_)
        refine lv_lstore (lv' := [(9, .long z_46), (8, .int r_15), (7, .int z_14), (6, .ref (S.2.2.1 (S.2.2.1 q0 0) 0)), (5, .int 0), (0, .ref q0), (1, .int p0), (2, .int p1), (3, .int p2), (4, .int p3)]) hx hb dX8_as_154 hl (by decide) rfl (fun ls hl => ?_)
        refine lv_aload hx hb dX8_as_156 (lv_at hl 3 rfl) ?_
        refine lv_sipush (v := 2401) hx hb dX8_as_158 (by decide) ?_
        refine lv_iload hx hb dX8_as_161 (lv_at hl 1 rfl) ?_
        refine yVwv (As := [.int 2401, .int r_15]) (rest := []) C0 (g_X6_copyRow l G S d_43 (S.2.2.1 (S.2.2.1 q0 0) 0) 2401 r_15 hSh hPod_43 hmy_12 hky_12) ok_X6_copyRow (mW1016 : Cond.methodLink RX8 322 yX6_copyRow ∈ wsT) ⟨Nat.le_of_ble_eq_true rfl, Nat.le_of_ble_eq_true rfl⟩ hP hD hS hA hK hN hmy_12 hky_12 (by decide) rfl rfl rfl hl.1 rfl (Nat.le_of_ble_eq_true rfl) ⟨Nat.le_of_ble_eq_true rfl, Nat.le_of_ble_eq_true rfl⟩ dX8_as_163 (fun d_48 H locs hr_47 hP hD hS => ?_)
        obtain ⟨hgad_48, hpad_48, hxd_48⟩ := hr_47
        have hgd_48 : yAg S [3, 5, 7, 8, 10, 11, 12, 13, 14, 15, 22, 23, 24] d d_48 := yAg.tr hgd_43 hgad_48 (by first | decide | exact fun _ h => h)
        have hPod_48 : yPo S d_48 := hpad_48 hPod_43
        refine lv_lload hx hb dX8_as_166 (lv_at hl 0 rfl) ?_
        have hz3_ : (z_14 : Int32).toInt = (d.1 r_13 3).toInt := by rw [ez_14]; exact congrArg Int32.toInt (congrFun ((yAg.o hgad_9 (a := r_13) (by rw [hkr_13]; decide))).1 3)
        have hz4_ := hI3 r_13 hmr_13 hkr_13
        have F_49 := feq (rfl : (r_1 : Int32).toInt = (r_1 : Int32).toInt) (by decide +kernel : (0 : Int32).toInt = 0) c_4
        have F_50 := feq (rfl : (r_8 : Int32).toInt = (r_8 : Int32).toInt) (by decide +kernel : (0 : Int32).toInt = 0) c_10
        have F_51 := feq (rfl : (p2 : Int32).toInt = (p2 : Int32).toInt) (by decide +kernel : ((-1) : Int32).toInt = (-1)) c_18
        have h60_ : (60 : Int32).toInt = 60 := by decide +kernel
        have hm6_ : (z_14 * 60 : Int32).toInt = (z_14 : Int32).toInt * 60 := tmul rfl rfl h60_ (by omega) (by omega)
        have hrw_ : (r_15 : Int32).toInt = (z_14 : Int32).toInt * 60 + p1.toInt := tadd (hr_15) hm6_ rfl (by omega) (by omega)
        have hzt_ := zAside hSh hmy_12 hky_12 (by omega) (by omega) hxd_17 hxd_37 (yAg.tr (yAg.tr (yAg.rf (M := [3, 5, 7, 22, 23])) hgad_41 (by decide)) hgad_43 (by decide)) (by decide) hxd_48
        exact W.lret (v := z_46) hx hb hr (fun t ht hW => ⟨⟨z_46, d_48, rfl, ⟨hgd_48, (fun _ => hPod_48), ⟨⟨fun i hi k hk => (hzt_.1 i hi k hk).trans (congrFun (((zTm.ag zTm.rf hSh hmy_12 hky_12 hgad_9 (by decide))).1 i hi) k), fun t a b c i hi => (hzt_.2 t a b c i hi).trans (((zTm.ag zTm.rf hSh hmy_12 hky_12 hgad_9 (by decide))).2 t a b c i hi)⟩, ((congrFun (hgad_48 q0 (by rw [hk_q0]; decide)).1 4).trans ((congrFun (hgad_43 q0 (by rw [hk_q0]; decide)).1 4).trans ((congrFun (hgad_41 q0 (by rw [hk_q0]; decide)).1 4).trans ((congrFun (hgad_37 q0 (by rw [hk_q0]; decide)).1 4).trans ((congrFun (hgad_17 q0 (by rw [hk_q0]; decide)).1 4).trans (hxd_9.2))))))⟩⟩, by rw [ht]; exact hP, hD⟩, hS.F ht⟩) hS.2.2 dX8_as_168
    · refine lv_ldc2 (v := (-1)) hx hb hown (htl (.constantLong RX8 251 (-1)) mW669) dX8_as_47 ?_
      obtain ⟨hmy_52, hky_52⟩ := ySh.f8_0 hSh _ hm_q0 hk_q0
      obtain ⟨hmy_53, hky_53⟩ := ySh.f0_0 hSh _ hmy_52 hky_52
      exact W.lret (v := (-1)) hx hb hr (fun t ht hW => ⟨⟨(-1), d_9, rfl, ⟨hgd_9, (fun _ => hPod_9), ⟨⟨fun i hi k hk => congrFun (((zTm.ag zTm.rf hSh hmy_53 hky_53 hgad_9 (by decide))).1 i hi) k, ((zTm.ag zTm.rf hSh hmy_53 hky_53 hgad_9 (by decide))).2⟩, (hxd_9.2)⟩⟩, by rw [ht]; exact hP, hD⟩, hS.F ht⟩) hS.2.2 dX8_as_50
  · refine lv_iload_n hx hb dX8_as_10 rfl (lv_at hl 3 rfl) ?_
    refine lv_iconst (v := (-1)) hx hb dX8_as_11 (by decide) ?_
    refine lv_bipush (v := 59) hx hb dX8_as_12 (by decide) ?_
    refine ySri (As := [.int p2, .int (-1), .int 59]) (rest := []) C0 (g_X8_within l G S d p2 (-1) 59 ) ok_X8_within (mW193 : Cond.methodLink RX8 71 yX8_within ∈ wsT) ⟨Nat.le_of_ble_eq_true rfl, Nat.le_of_ble_eq_true rfl⟩ hP hD hK hN rfl hl.1 rfl (Nat.le_of_ble_eq_true rfl) ⟨Nat.le_of_ble_eq_true rfl, Nat.le_of_ble_eq_true rfl⟩ dX8_as_14 (fun r_54 hr_54 => ?_)
    have hL_55 : ((-1) : Int32).toInt = (-1) := by decide +kernel
    have tr_54 := tw_ hr_54
    refine lv_if_eq (tgt := 24) hx hb dX8_as_17 (by decide) (fun c_56 => ?_) (fun c_56 => ?_)
    · refine lv_iconst (v := 0) hx hb dX8_as_24 (by decide) ?_
      refine lv_istore (lv' := [(5, .int 0), (0, .ref q0), (1, .int p0), (2, .int p1), (3, .int p2), (4, .int p3)]) hx hb dX8_as_25 hl (by decide) rfl (fun ls hl => ?_)
      refine lv_aload_n hx hb dX8_as_27 rfl (lv_at hl 1 rfl) ?_
      refine lv_aload_n hx hb dX8_as_28 rfl (lv_at hl 1 rfl) ?_
      refine lv_iload_n hx hb dX8_as_29 rfl (lv_at hl 2 rfl) ?_
      refine yVri (As := [.int p0]) (rest := [.ref q0]) C0 (g_X8_portReason l G S d q0 p0 hSh hm_q0 hk_q0) ok_X8_portReason (mW374 : Cond.methodLink RX8 124 yX8_portReason ∈ wsT) ⟨Nat.le_of_ble_eq_true rfl, Nat.le_of_ble_eq_true rfl⟩ hP hD hK hN hm_q0 hk_q0 (by decide) rfl rfl rfl hl.1 rfl (Nat.le_of_ble_eq_true rfl) ⟨Nat.le_of_ble_eq_true rfl, Nat.le_of_ble_eq_true rfl⟩ dX8_as_30 (fun r_57 hr_57 => ?_)
      have tr_57 := tp_ hr_57
      refine lv_iload hx hb dX8_as_33 (lv_at hl 0 rfl) ?_
      refine ySri (As := [.int 0]) (rest := [.int r_57, .ref q0]) C0 (g_X8_number l G S d 0 ) ok_X8_number (mW196 : Cond.methodLink RX8 54 yX8_number ∈ wsT) ⟨Nat.le_of_ble_eq_true rfl, Nat.le_of_ble_eq_true rfl⟩ hP hD hK hN rfl hl.1 rfl (Nat.le_of_ble_eq_true rfl) ⟨Nat.le_of_ble_eq_true rfl, Nat.le_of_ble_eq_true rfl⟩ dX8_as_35 (fun r_58 hr_58 => ?_)
      have tr_58 := tn_ hr_58
      refine ySri (As := [.int r_57, .int r_58]) (rest := [.ref q0]) C0 (g_X8_least l G S d r_57 r_58 ) ok_X8_least (mW199 : Cond.methodLink RX8 58 yX8_least ∈ wsT) ⟨Nat.le_of_ble_eq_true rfl, Nat.le_of_ble_eq_true rfl⟩ hP hD hK hN rfl hl.1 rfl (Nat.le_of_ble_eq_true rfl) ⟨Nat.le_of_ble_eq_true rfl, Nat.le_of_ble_eq_true rfl⟩ dX8_as_38 (fun r_59 hr_59 => ?_)
      have tr_59 := tl_ hr_59
      refine yVwi (As := [.int r_59]) (rest := []) C0 (g_X8_refused l G S d q0 r_59 hSh hPo hm_q0 hk_q0) ok_X8_refused (mW160 : Cond.methodLink RX8 42 yX8_refused ∈ wsT) ⟨Nat.le_of_ble_eq_true rfl, Nat.le_of_ble_eq_true rfl⟩ hP hD hS hA hK hN hm_q0 hk_q0 (by decide) rfl rfl rfl hl.1 rfl (Nat.le_of_ble_eq_true rfl) ⟨Nat.le_of_ble_eq_true rfl, Nat.le_of_ble_eq_true rfl⟩ dX8_as_41 (fun r_60 d_61 H locs hr_60 hP hD hS => ?_)
      obtain ⟨hgad_61, hpad_61, hxd_61⟩ := hr_60
      have hgd_61 : yAg S [3, 5, 7, 8, 10, 11, 12, 13, 14, 15, 22, 23, 24] d d_61 := yAg.tr hg0 hgad_61 (by first | decide | exact fun _ h => h)
      have hPod_61 : yPo S d_61 := hpad_61 hPo
      have tr_60 := tr_ hxd_61.1
      refine lv_if_eq (tgt := 51) hx hb dX8_as_44 (by decide) (fun c_62 => ?_) (fun c_62 => ?_)
      · refine lv_aload_n hx hb dX8_as_51 rfl (lv_at hl 1 rfl) ?_
        refine yget (ci := 8) (k := 0) (v := .ref (S.2.2.1 q0 0)) (C := RX8) (T := TX8) (N := 6) C0 hK hP hm_q0 hk_q0 (by decide) rfl inlX8 (by decide) mW16 (fun _ h9 => h9) rfl dX8_as_52 ?_
        obtain ⟨hmy_63, hky_63⟩ := ySh.f8_0 hSh _ hm_q0 hk_q0
        refine yget (ci := 0) (k := 0) (v := .ref (S.2.2.1 (S.2.2.1 q0 0) 0)) (C := RX0) (T := TX0) (N := 6) C0 hK hP hmy_63 hky_63 (by decide) rfl inlX0 (by decide) mW158 (fun _ h9 => h9) rfl dX8_as_55 ?_
        obtain ⟨hmy_64, hky_64⟩ := ySh.f0_0 hSh _ hmy_63 hky_63
        refine lv_astore (lv' := [(6, .ref (S.2.2.1 (S.2.2.1 q0 0) 0)), (5, .int 0), (0, .ref q0), (1, .int p0), (2, .int p1), (3, .int p2), (4, .int p3)]) hx hb dX8_as_58 hl (by decide) rfl (fun ls hl => ?_)
        refine lv_aload_n hx hb dX8_as_60 rfl (lv_at hl 2 rfl) ?_
        refine yget (ci := 8) (k := 0) (v := .ref (S.2.2.1 q0 0)) (C := RX8) (T := TX8) (N := 6) C0 hK hP hm_q0 hk_q0 (by decide) rfl inlX8 (by decide) mW16 (fun _ h9 => h9) rfl dX8_as_61 ?_
        refine lv_iload_n hx hb dX8_as_64 rfl (lv_at hl 3 rfl) ?_
        refine yVrr (As := [.int p0]) (rest := []) C0 (g_X0_portAt l G S d_61 (S.2.2.1 q0 0) p0 hSh hmy_63 hky_63) ok_X0_portAt (mW337 : Cond.methodLink RX8 114 yX0_portAt ∈ wsT) ⟨Nat.le_of_ble_eq_true rfl, Nat.le_of_ble_eq_true rfl⟩ hP hD hK hN hmy_63 hky_63 (by decide) rfl rfl rfl hl.1 rfl (Nat.le_of_ble_eq_true rfl) ⟨Nat.le_of_ble_eq_true rfl, Nat.le_of_ble_eq_true rfl⟩ dX8_as_65 (fun r_65 hr_65 => ?_)
        obtain ⟨hmr_65, hkr_65, her_65⟩ := hr_65
        refine yget (ci := 4) (k := 3) (v := .int (d_61.1 r_65 3)) (C := RX4) (T := TX4) (N := 11) C0 hK hP hmr_65 hkr_65 (by decide) rfl inlX4 (by decide) mW569 (fun _ h9 => h9) rfl dX8_as_68 ?_
        refine lv_topi (fun z_66 ez_66 => ?_)
        refine lv_istore (lv' := [(7, .int z_66), (6, .ref (S.2.2.1 (S.2.2.1 q0 0) 0)), (5, .int 0), (0, .ref q0), (1, .int p0), (2, .int p1), (3, .int p2), (4, .int p3)]) hx hb dX8_as_71 hl (by decide) rfl (fun ls hl => ?_)
        refine lv_iload hx hb dX8_as_73 (lv_at hl 0 rfl) ?_
        refine lv_iload_n hx hb dX8_as_75 rfl (lv_at hl 5 rfl) ?_
        refine ySri (As := [.int z_66, .int p1]) (rest := []) C0 (g_X8_rowOf l G S d_61 z_66 p1 ) ok_X8_rowOf (mW210 : Cond.methodLink RX8 61 yX8_rowOf ∈ wsT) ⟨Nat.le_of_ble_eq_true rfl, Nat.le_of_ble_eq_true rfl⟩ hP hD hK hN rfl hl.1 rfl (Nat.le_of_ble_eq_true rfl) ⟨Nat.le_of_ble_eq_true rfl, Nat.le_of_ble_eq_true rfl⟩ dX8_as_76 (fun r_67 hr_67 => ?_)
        refine lv_istore (lv' := [(8, .int r_67), (7, .int z_66), (6, .ref (S.2.2.1 (S.2.2.1 q0 0) 0)), (5, .int 0), (0, .ref q0), (1, .int p0), (2, .int p1), (3, .int p2), (4, .int p3)]) hx hb dX8_as_79 hl (by decide) rfl (fun ls hl => ?_)
        refine lv_aload hx hb dX8_as_81 (lv_at hl 2 rfl) ?_
        refine lv_iload hx hb dX8_as_83 (lv_at hl 0 rfl) ?_
        refine lv_sipush (v := 2401) hx hb dX8_as_85 (by decide) ?_
        refine yVwv (As := [.int r_67, .int 2401]) (rest := []) C0 (g_X6_copyRow l G S d_61 (S.2.2.1 (S.2.2.1 q0 0) 0) r_67 2401 hSh hPod_61 hmy_64 hky_64) ok_X6_copyRow (mW1016 : Cond.methodLink RX8 322 yX6_copyRow ∈ wsT) ⟨Nat.le_of_ble_eq_true rfl, Nat.le_of_ble_eq_true rfl⟩ hP hD hS hA hK hN hmy_64 hky_64 (by decide) rfl rfl rfl hl.1 rfl (Nat.le_of_ble_eq_true rfl) ⟨Nat.le_of_ble_eq_true rfl, Nat.le_of_ble_eq_true rfl⟩ dX8_as_88 (fun d_69 H locs hr_68 hP hD hS => ?_)
        obtain ⟨hgad_69, hpad_69, hxd_69⟩ := hr_68
        have hgd_69 : yAg S [3, 5, 7, 8, 10, 11, 12, 13, 14, 15, 22, 23, 24] d d_69 := yAg.tr hgd_61 hgad_69 (by first | decide | exact fun _ h => h)
        have hPod_69 : yPo S d_69 := hpad_69 hPod_61
        refine lv_aload hx hb dX8_as_91 (lv_at hl 2 rfl) ?_
        refine lv_iload_n hx hb dX8_as_93 rfl (lv_at hl 7 rfl) ?_
        refine lv_iconst (v := (-1)) hx hb dX8_as_94 (by decide) ?_
        refine lv_icmp_ne (tgt := 104) hx hb dX8_as_95 (by decide) (fun c_70 => ?_) (fun c_70 => ?_)
        · refine lv_iload hx hb dX8_as_104 (lv_at hl 1 rfl) ?_
          refine lv_iload_n hx hb dX8_as_106 rfl (lv_at hl 7 rfl) ?_
          refine ySri (As := [.int z_66, .int p2]) (rest := [.ref (S.2.2.1 (S.2.2.1 q0 0) 0)]) C0 (g_X8_rowOf l G S d_69 z_66 p2 ) ok_X8_rowOf (mW210 : Cond.methodLink RX8 61 yX8_rowOf ∈ wsT) ⟨Nat.le_of_ble_eq_true rfl, Nat.le_of_ble_eq_true rfl⟩ hP hD hK hN rfl hl.1 rfl (Nat.le_of_ble_eq_true rfl) ⟨Nat.le_of_ble_eq_true rfl, Nat.le_of_ble_eq_true rfl⟩ dX8_as_107 (fun r_71 hr_71 => ?_)
          refine lv_iload hx hb dX8_as_110 (lv_at hl 0 rfl) ?_
          refine yVwv (As := [.int r_71, .int r_67]) (rest := []) C0 (g_X6_copyRow l G S d_69 (S.2.2.1 (S.2.2.1 q0 0) 0) r_71 r_67 hSh hPod_69 hmy_64 hky_64) ok_X6_copyRow (mW1016 : Cond.methodLink RX8 322 yX6_copyRow ∈ wsT) ⟨Nat.le_of_ble_eq_true rfl, Nat.le_of_ble_eq_true rfl⟩ hP hD hS hA hK hN hmy_64 hky_64 (by decide) rfl rfl rfl hl.1 rfl (Nat.le_of_ble_eq_true rfl) ⟨Nat.le_of_ble_eq_true rfl, Nat.le_of_ble_eq_true rfl⟩ dX8_as_112 (fun d_73 H locs hr_72 hP hD hS => ?_)
          obtain ⟨hgad_73, hpad_73, hxd_73⟩ := hr_72
          have hgd_73 : yAg S [3, 5, 7, 8, 10, 11, 12, 13, 14, 15, 22, 23, 24] d d_73 := yAg.tr hgd_69 hgad_73 (by first | decide | exact fun _ h => h)
          have hPod_73 : yPo S d_73 := hpad_73 hPod_69
          refine lv_aload_n hx hb dX8_as_115 rfl (lv_at hl 4 rfl) ?_
          refine yget (ci := 8) (k := 2) (v := .ref (S.2.2.1 q0 2)) (C := RX8) (T := TX8) (N := 6) C0 hK hP hm_q0 hk_q0 (by decide) rfl inlX8 (by decide) mW21 (fun _ h9 => h9) rfl dX8_as_116 ?_
          obtain ⟨hmy_74, hky_74⟩ := ySh.f8_2 hSh _ hm_q0 hk_q0
          refine lv_aload_n hx hb dX8_as_119 rfl (lv_at hl 4 rfl) ?_
          refine yget (ci := 8) (k := 0) (v := .ref (S.2.2.1 q0 0)) (C := RX8) (T := TX8) (N := 6) C0 hK hP hm_q0 hk_q0 (by decide) rfl inlX8 (by decide) mW16 (fun _ h9 => h9) rfl dX8_as_120 ?_
          refine lv_iload_n hx hb dX8_as_123 rfl (lv_at hl 5 rfl) ?_
          refine yVri (As := [.int p0]) (rest := [.ref (S.2.2.1 q0 2)]) C0 (g_X0_groupOf l G S d_73 (S.2.2.1 q0 0) p0 hSh hmy_63 hky_63) ok_X0_groupOf (mW694 : Cond.methodLink RX8 258 yX0_groupOf ∈ wsT) ⟨Nat.le_of_ble_eq_true rfl, Nat.le_of_ble_eq_true rfl⟩ hP hD hK hN hmy_63 hky_63 (by decide) rfl rfl rfl hl.1 rfl (Nat.le_of_ble_eq_true rfl) ⟨Nat.le_of_ble_eq_true rfl, Nat.le_of_ble_eq_true rfl⟩ dX8_as_124 (fun r_75 hr_75 => ?_)
          refine lv_iload hx hb dX8_as_127 (lv_at hl 8 rfl) ?_
          refine yVwv (As := [.int r_75, .int p3]) (rest := []) C0 (g_X3_read l G S d_73 (S.2.2.1 q0 2) r_75 p3 hSh hPod_73 hmy_74 hky_74 hz_p3) ok_X3_read (mW699 : Cond.methodLink RX8 261 yX3_read ∈ wsT) ⟨Nat.le_of_ble_eq_true rfl, Nat.le_of_ble_eq_true rfl⟩ hP hD hS hA hK hN hmy_74 hky_74 (by decide) rfl rfl rfl hl.1 rfl (Nat.le_of_ble_eq_true rfl) ⟨Nat.le_of_ble_eq_true rfl, Nat.le_of_ble_eq_true rfl⟩ dX8_as_129 (fun d_77 H locs hr_76 hP hD hS => ?_)
          obtain ⟨hgad_77, hpad_77, hxd_77⟩ := hr_76
          have hgd_77 : yAg S [3, 5, 7, 8, 10, 11, 12, 13, 14, 15, 22, 23, 24] d d_77 := yAg.tr hgd_73 hgad_77 (by first | decide | exact fun _ h => h)
          have hPod_77 : yPo S d_77 := hpad_77 hPod_73
          refine lv_aload_n hx hb dX8_as_132 rfl (lv_at hl 4 rfl) ?_
          refine yget (ci := 8) (k := 2) (v := .ref (S.2.2.1 q0 2)) (C := RX8) (T := TX8) (N := 6) C0 hK hP hm_q0 hk_q0 (by decide) rfl inlX8 (by decide) mW21 (fun _ h9 => h9) rfl dX8_as_133 ?_
          refine yVwv (As := []) (rest := []) C0 (g_X3_settle l G S d_77 (S.2.2.1 q0 2) hSh hPod_77 hmy_74 hky_74) ok_X3_settle (mW952 : Cond.methodLink RX8 289 yX3_settle ∈ wsT) ⟨Nat.le_of_ble_eq_true rfl, Nat.le_of_ble_eq_true rfl⟩ hP hD hS hA hK hN hmy_74 hky_74 (by decide) rfl rfl rfl hl.1 rfl (Nat.le_of_ble_eq_true rfl) ⟨Nat.le_of_ble_eq_true rfl, Nat.le_of_ble_eq_true rfl⟩ dX8_as_136 (fun d_79 H locs hr_78 hP hD hS => ?_)
          obtain ⟨hgad_79, hpad_79, hxd_79⟩ := hr_78
          have hgd_79 : yAg S [3, 5, 7, 8, 10, 11, 12, 13, 14, 15, 22, 23, 24] d d_79 := yAg.tr hgd_77 hgad_79 (by first | decide | exact fun _ h => h)
          have hPod_79 : yPo S d_79 := hpad_79 hPod_77
          refine lv_aload_n hx hb dX8_as_139 rfl (lv_at hl 4 rfl) ?_
          refine yget (ci := 8) (k := 2) (v := .ref (S.2.2.1 q0 2)) (C := RX8) (T := TX8) (N := 6) C0 hK hP hm_q0 hk_q0 (by decide) rfl inlX8 (by decide) mW21 (fun _ h9 => h9) rfl dX8_as_140 ?_
          refine yVrl (As := []) (rest := []) C0 (g_X3_owed l G S d_79 (S.2.2.1 q0 2) hSh hmy_74 hky_74) ok_X3_owed (mW958 : Cond.methodLink RX8 303 yX3_owed ∈ wsT) ⟨Nat.le_of_ble_eq_true rfl, Nat.le_of_ble_eq_true rfl⟩ hP hD hK hN hmy_74 hky_74 (by decide) rfl rfl rfl hl.1 rfl (Nat.le_of_ble_eq_true rfl) ⟨Nat.le_of_ble_eq_true rfl, Nat.le_of_ble_eq_true rfl⟩ dX8_as_143 (fun r_80 hr_80 => ?_)
          refine lv_aload_n hx hb dX8_as_146 rfl (lv_at hl 4 rfl) ?_
          refine yget (ci := 8) (k := 2) (v := .ref (S.2.2.1 q0 2)) (C := RX8) (T := TX8) (N := 6) C0 hK hP hm_q0 hk_q0 (by decide) rfl inlX8 (by decide) mW21 (fun _ h9 => h9) rfl dX8_as_147 ?_
          refine yVrl (As := []) (rest := [.long r_80]) C0 (g_X3_saved l G S d_79 (S.2.2.1 q0 2) hSh hmy_74 hky_74) ok_X3_saved (mW965 : Cond.methodLink RX8 307 yX3_saved ∈ wsT) ⟨Nat.le_of_ble_eq_true rfl, Nat.le_of_ble_eq_true rfl⟩ hP hD hK hN hmy_74 hky_74 (by decide) rfl rfl rfl hl.1 rfl (Nat.le_of_ble_eq_true rfl) ⟨Nat.le_of_ble_eq_true rfl, Nat.le_of_ble_eq_true rfl⟩ dX8_as_150 (fun r_81 hr_81 => ?_)
          refine lv_lsub hx hb dX8_as_153 ?_
          refine lv_topl (fun z_82 ez_82 => ?_)
          refine lv_lstore (lv' := [(9, .long z_82), (8, .int r_67), (7, .int z_66), (6, .ref (S.2.2.1 (S.2.2.1 q0 0) 0)), (5, .int 0), (0, .ref q0), (1, .int p0), (2, .int p1), (3, .int p2), (4, .int p3)]) hx hb dX8_as_154 hl (by decide) rfl (fun ls hl => ?_)
          refine lv_aload hx hb dX8_as_156 (lv_at hl 3 rfl) ?_
          refine lv_sipush (v := 2401) hx hb dX8_as_158 (by decide) ?_
          refine lv_iload hx hb dX8_as_161 (lv_at hl 1 rfl) ?_
          refine yVwv (As := [.int 2401, .int r_67]) (rest := []) C0 (g_X6_copyRow l G S d_79 (S.2.2.1 (S.2.2.1 q0 0) 0) 2401 r_67 hSh hPod_79 hmy_64 hky_64) ok_X6_copyRow (mW1016 : Cond.methodLink RX8 322 yX6_copyRow ∈ wsT) ⟨Nat.le_of_ble_eq_true rfl, Nat.le_of_ble_eq_true rfl⟩ hP hD hS hA hK hN hmy_64 hky_64 (by decide) rfl rfl rfl hl.1 rfl (Nat.le_of_ble_eq_true rfl) ⟨Nat.le_of_ble_eq_true rfl, Nat.le_of_ble_eq_true rfl⟩ dX8_as_163 (fun d_84 H locs hr_83 hP hD hS => ?_)
          obtain ⟨hgad_84, hpad_84, hxd_84⟩ := hr_83
          have hgd_84 : yAg S [3, 5, 7, 8, 10, 11, 12, 13, 14, 15, 22, 23, 24] d d_84 := yAg.tr hgd_79 hgad_84 (by first | decide | exact fun _ h => h)
          have hPod_84 : yPo S d_84 := hpad_84 hPod_79
          refine lv_lload hx hb dX8_as_166 (lv_at hl 0 rfl) ?_
          have hz3_ : (z_66 : Int32).toInt = (d.1 r_65 3).toInt := by rw [ez_66]; exact congrArg Int32.toInt (congrFun ((yAg.o hgad_61 (a := r_65) (by rw [hkr_65]; decide))).1 3)
          have hz4_ := hI3 r_65 hmr_65 hkr_65
          have F_85 := fne (rfl : (r_1 : Int32).toInt = (r_1 : Int32).toInt) (by decide +kernel : (0 : Int32).toInt = 0) c_4
          have F_86 := feq (rfl : (r_54 : Int32).toInt = (r_54 : Int32).toInt) (by decide +kernel : (0 : Int32).toInt = 0) c_56
          have F_87 := feq (rfl : (r_60 : Int32).toInt = (r_60 : Int32).toInt) (by decide +kernel : (0 : Int32).toInt = 0) c_62
          have F_88 := fne (rfl : (p2 : Int32).toInt = (p2 : Int32).toInt) (by decide +kernel : ((-1) : Int32).toInt = (-1)) c_70
          have h60_ : (60 : Int32).toInt = 60 := by decide +kernel
          have hm6_ : (z_66 * 60 : Int32).toInt = (z_66 : Int32).toInt * 60 := tmul rfl rfl h60_ (by omega) (by omega)
          have hrw_ : (r_67 : Int32).toInt = (z_66 : Int32).toInt * 60 + p1.toInt := tadd (hr_67) hm6_ rfl (by omega) (by omega)
          have hzt_ := zAside hSh hmy_64 hky_64 (by omega) (by omega) hxd_69 hxd_73 (yAg.tr (yAg.tr (yAg.rf (M := [3, 5, 7, 22, 23])) hgad_77 (by decide)) hgad_79 (by decide)) (by decide) hxd_84
          exact W.lret (v := z_82) hx hb hr (fun t ht hW => ⟨⟨z_82, d_84, rfl, ⟨hgd_84, (fun _ => hPod_84), ⟨⟨fun i hi k hk => (hzt_.1 i hi k hk).trans (congrFun (((zTm.ag zTm.rf hSh hmy_64 hky_64 hgad_61 (by decide))).1 i hi) k), fun t a b c i hi => (hzt_.2 t a b c i hi).trans (((zTm.ag zTm.rf hSh hmy_64 hky_64 hgad_61 (by decide))).2 t a b c i hi)⟩, ((congrFun (hgad_84 q0 (by rw [hk_q0]; decide)).1 4).trans ((congrFun (hgad_79 q0 (by rw [hk_q0]; decide)).1 4).trans ((congrFun (hgad_77 q0 (by rw [hk_q0]; decide)).1 4).trans ((congrFun (hgad_73 q0 (by rw [hk_q0]; decide)).1 4).trans ((congrFun (hgad_69 q0 (by rw [hk_q0]; decide)).1 4).trans (hxd_61.2))))))⟩⟩, by rw [ht]; exact hP, hD⟩, hS.F ht⟩) hS.2.2 dX8_as_168
        · refine lv_sipush (v := 2400) hx hb dX8_as_98 (by decide) ?_
          refine lv_goto (tgt := 110) hx hb dX8_as_101 (by decide) ?_
          refine lv_iload hx hb dX8_as_110 (lv_at hl 0 rfl) ?_
          refine yVwv (As := [.int 2400, .int r_67]) (rest := []) C0 (g_X6_copyRow l G S d_69 (S.2.2.1 (S.2.2.1 q0 0) 0) 2400 r_67 hSh hPod_69 hmy_64 hky_64) ok_X6_copyRow (mW1016 : Cond.methodLink RX8 322 yX6_copyRow ∈ wsT) ⟨Nat.le_of_ble_eq_true rfl, Nat.le_of_ble_eq_true rfl⟩ hP hD hS hA hK hN hmy_64 hky_64 (by decide) rfl rfl rfl hl.1 rfl (Nat.le_of_ble_eq_true rfl) ⟨Nat.le_of_ble_eq_true rfl, Nat.le_of_ble_eq_true rfl⟩ dX8_as_112 (fun d_90 H locs hr_89 hP hD hS => ?_)
          obtain ⟨hgad_90, hpad_90, hxd_90⟩ := hr_89
          have hgd_90 : yAg S [3, 5, 7, 8, 10, 11, 12, 13, 14, 15, 22, 23, 24] d d_90 := yAg.tr hgd_69 hgad_90 (by first | decide | exact fun _ h => h)
          have hPod_90 : yPo S d_90 := hpad_90 hPod_69
          refine lv_aload_n hx hb dX8_as_115 rfl (lv_at hl 4 rfl) ?_
          refine yget (ci := 8) (k := 2) (v := .ref (S.2.2.1 q0 2)) (C := RX8) (T := TX8) (N := 6) C0 hK hP hm_q0 hk_q0 (by decide) rfl inlX8 (by decide) mW21 (fun _ h9 => h9) rfl dX8_as_116 ?_
          obtain ⟨hmy_91, hky_91⟩ := ySh.f8_2 hSh _ hm_q0 hk_q0
          refine lv_aload_n hx hb dX8_as_119 rfl (lv_at hl 4 rfl) ?_
          refine yget (ci := 8) (k := 0) (v := .ref (S.2.2.1 q0 0)) (C := RX8) (T := TX8) (N := 6) C0 hK hP hm_q0 hk_q0 (by decide) rfl inlX8 (by decide) mW16 (fun _ h9 => h9) rfl dX8_as_120 ?_
          refine lv_iload_n hx hb dX8_as_123 rfl (lv_at hl 5 rfl) ?_
          refine yVri (As := [.int p0]) (rest := [.ref (S.2.2.1 q0 2)]) C0 (g_X0_groupOf l G S d_90 (S.2.2.1 q0 0) p0 hSh hmy_63 hky_63) ok_X0_groupOf (mW694 : Cond.methodLink RX8 258 yX0_groupOf ∈ wsT) ⟨Nat.le_of_ble_eq_true rfl, Nat.le_of_ble_eq_true rfl⟩ hP hD hK hN hmy_63 hky_63 (by decide) rfl rfl rfl hl.1 rfl (Nat.le_of_ble_eq_true rfl) ⟨Nat.le_of_ble_eq_true rfl, Nat.le_of_ble_eq_true rfl⟩ dX8_as_124 (fun r_92 hr_92 => ?_)
          refine lv_iload hx hb dX8_as_127 (lv_at hl 8 rfl) ?_
          refine yVwv (As := [.int r_92, .int p3]) (rest := []) C0 (g_X3_read l G S d_90 (S.2.2.1 q0 2) r_92 p3 hSh hPod_90 hmy_91 hky_91 hz_p3) ok_X3_read (mW699 : Cond.methodLink RX8 261 yX3_read ∈ wsT) ⟨Nat.le_of_ble_eq_true rfl, Nat.le_of_ble_eq_true rfl⟩ hP hD hS hA hK hN hmy_91 hky_91 (by decide) rfl rfl rfl hl.1 rfl (Nat.le_of_ble_eq_true rfl) ⟨Nat.le_of_ble_eq_true rfl, Nat.le_of_ble_eq_true rfl⟩ dX8_as_129 (fun d_94 H locs hr_93 hP hD hS => ?_)
          obtain ⟨hgad_94, hpad_94, hxd_94⟩ := hr_93
          have hgd_94 : yAg S [3, 5, 7, 8, 10, 11, 12, 13, 14, 15, 22, 23, 24] d d_94 := yAg.tr hgd_90 hgad_94 (by first | decide | exact fun _ h => h)
          have hPod_94 : yPo S d_94 := hpad_94 hPod_90
          refine lv_aload_n hx hb dX8_as_132 rfl (lv_at hl 4 rfl) ?_
          refine yget (ci := 8) (k := 2) (v := .ref (S.2.2.1 q0 2)) (C := RX8) (T := TX8) (N := 6) C0 hK hP hm_q0 hk_q0 (by decide) rfl inlX8 (by decide) mW21 (fun _ h9 => h9) rfl dX8_as_133 ?_
          refine yVwv (As := []) (rest := []) C0 (g_X3_settle l G S d_94 (S.2.2.1 q0 2) hSh hPod_94 hmy_91 hky_91) ok_X3_settle (mW952 : Cond.methodLink RX8 289 yX3_settle ∈ wsT) ⟨Nat.le_of_ble_eq_true rfl, Nat.le_of_ble_eq_true rfl⟩ hP hD hS hA hK hN hmy_91 hky_91 (by decide) rfl rfl rfl hl.1 rfl (Nat.le_of_ble_eq_true rfl) ⟨Nat.le_of_ble_eq_true rfl, Nat.le_of_ble_eq_true rfl⟩ dX8_as_136 (fun d_96 H locs hr_95 hP hD hS => ?_)
          obtain ⟨hgad_96, hpad_96, hxd_96⟩ := hr_95
          have hgd_96 : yAg S [3, 5, 7, 8, 10, 11, 12, 13, 14, 15, 22, 23, 24] d d_96 := yAg.tr hgd_94 hgad_96 (by first | decide | exact fun _ h => h)
          have hPod_96 : yPo S d_96 := hpad_96 hPod_94
          refine lv_aload_n hx hb dX8_as_139 rfl (lv_at hl 4 rfl) ?_
          refine yget (ci := 8) (k := 2) (v := .ref (S.2.2.1 q0 2)) (C := RX8) (T := TX8) (N := 6) C0 hK hP hm_q0 hk_q0 (by decide) rfl inlX8 (by decide) mW21 (fun _ h9 => h9) rfl dX8_as_140 ?_
          refine yVrl (As := []) (rest := []) C0 (g_X3_owed l G S d_96 (S.2.2.1 q0 2) hSh hmy_91 hky_91) ok_X3_owed (mW958 : Cond.methodLink RX8 303 yX3_owed ∈ wsT) ⟨Nat.le_of_ble_eq_true rfl, Nat.le_of_ble_eq_true rfl⟩ hP hD hK hN hmy_91 hky_91 (by decide) rfl rfl rfl hl.1 rfl (Nat.le_of_ble_eq_true rfl) ⟨Nat.le_of_ble_eq_true rfl, Nat.le_of_ble_eq_true rfl⟩ dX8_as_143 (fun r_97 hr_97 => ?_)
          refine lv_aload_n hx hb dX8_as_146 rfl (lv_at hl 4 rfl) ?_
          refine yget (ci := 8) (k := 2) (v := .ref (S.2.2.1 q0 2)) (C := RX8) (T := TX8) (N := 6) C0 hK hP hm_q0 hk_q0 (by decide) rfl inlX8 (by decide) mW21 (fun _ h9 => h9) rfl dX8_as_147 ?_
          refine yVrl (As := []) (rest := [.long r_97]) C0 (g_X3_saved l G S d_96 (S.2.2.1 q0 2) hSh hmy_91 hky_91) ok_X3_saved (mW965 : Cond.methodLink RX8 307 yX3_saved ∈ wsT) ⟨Nat.le_of_ble_eq_true rfl, Nat.le_of_ble_eq_true rfl⟩ hP hD hK hN hmy_91 hky_91 (by decide) rfl rfl rfl hl.1 rfl (Nat.le_of_ble_eq_true rfl) ⟨Nat.le_of_ble_eq_true rfl, Nat.le_of_ble_eq_true rfl⟩ dX8_as_150 (fun r_98 hr_98 => ?_)
          refine lv_lsub hx hb dX8_as_153 ?_
          refine lv_topl (fun z_99 ez_99 => ?_)
          refine lv_lstore (lv' := [(9, .long z_99), (8, .int r_67), (7, .int z_66), (6, .ref (S.2.2.1 (S.2.2.1 q0 0) 0)), (5, .int 0), (0, .ref q0), (1, .int p0), (2, .int p1), (3, .int p2), (4, .int p3)]) hx hb dX8_as_154 hl (by decide) rfl (fun ls hl => ?_)
          refine lv_aload hx hb dX8_as_156 (lv_at hl 3 rfl) ?_
          refine lv_sipush (v := 2401) hx hb dX8_as_158 (by decide) ?_
          refine lv_iload hx hb dX8_as_161 (lv_at hl 1 rfl) ?_
          refine yVwv (As := [.int 2401, .int r_67]) (rest := []) C0 (g_X6_copyRow l G S d_96 (S.2.2.1 (S.2.2.1 q0 0) 0) 2401 r_67 hSh hPod_96 hmy_64 hky_64) ok_X6_copyRow (mW1016 : Cond.methodLink RX8 322 yX6_copyRow ∈ wsT) ⟨Nat.le_of_ble_eq_true rfl, Nat.le_of_ble_eq_true rfl⟩ hP hD hS hA hK hN hmy_64 hky_64 (by decide) rfl rfl rfl hl.1 rfl (Nat.le_of_ble_eq_true rfl) ⟨Nat.le_of_ble_eq_true rfl, Nat.le_of_ble_eq_true rfl⟩ dX8_as_163 (fun d_101 H locs hr_100 hP hD hS => ?_)
          obtain ⟨hgad_101, hpad_101, hxd_101⟩ := hr_100
          have hgd_101 : yAg S [3, 5, 7, 8, 10, 11, 12, 13, 14, 15, 22, 23, 24] d d_101 := yAg.tr hgd_96 hgad_101 (by first | decide | exact fun _ h => h)
          have hPod_101 : yPo S d_101 := hpad_101 hPod_96
          refine lv_lload hx hb dX8_as_166 (lv_at hl 0 rfl) ?_
          have hz3_ : (z_66 : Int32).toInt = (d.1 r_65 3).toInt := by rw [ez_66]; exact congrArg Int32.toInt (congrFun ((yAg.o hgad_61 (a := r_65) (by rw [hkr_65]; decide))).1 3)
          have hz4_ := hI3 r_65 hmr_65 hkr_65
          have F_102 := fne (rfl : (r_1 : Int32).toInt = (r_1 : Int32).toInt) (by decide +kernel : (0 : Int32).toInt = 0) c_4
          have F_103 := feq (rfl : (r_54 : Int32).toInt = (r_54 : Int32).toInt) (by decide +kernel : (0 : Int32).toInt = 0) c_56
          have F_104 := feq (rfl : (r_60 : Int32).toInt = (r_60 : Int32).toInt) (by decide +kernel : (0 : Int32).toInt = 0) c_62
          have F_105 := feq (rfl : (p2 : Int32).toInt = (p2 : Int32).toInt) (by decide +kernel : ((-1) : Int32).toInt = (-1)) c_70
          have h60_ : (60 : Int32).toInt = 60 := by decide +kernel
          have hm6_ : (z_66 * 60 : Int32).toInt = (z_66 : Int32).toInt * 60 := tmul rfl rfl h60_ (by omega) (by omega)
          have hrw_ : (r_67 : Int32).toInt = (z_66 : Int32).toInt * 60 + p1.toInt := tadd (hr_67) hm6_ rfl (by omega) (by omega)
          have hzt_ := zAside hSh hmy_64 hky_64 (by omega) (by omega) hxd_69 hxd_90 (yAg.tr (yAg.tr (yAg.rf (M := [3, 5, 7, 22, 23])) hgad_94 (by decide)) hgad_96 (by decide)) (by decide) hxd_101
          exact W.lret (v := z_99) hx hb hr (fun t ht hW => ⟨⟨z_99, d_101, rfl, ⟨hgd_101, (fun _ => hPod_101), ⟨⟨fun i hi k hk => (hzt_.1 i hi k hk).trans (congrFun (((zTm.ag zTm.rf hSh hmy_64 hky_64 hgad_61 (by decide))).1 i hi) k), fun t a b c i hi => (hzt_.2 t a b c i hi).trans (((zTm.ag zTm.rf hSh hmy_64 hky_64 hgad_61 (by decide))).2 t a b c i hi)⟩, ((congrFun (hgad_101 q0 (by rw [hk_q0]; decide)).1 4).trans ((congrFun (hgad_96 q0 (by rw [hk_q0]; decide)).1 4).trans ((congrFun (hgad_94 q0 (by rw [hk_q0]; decide)).1 4).trans ((congrFun (hgad_90 q0 (by rw [hk_q0]; decide)).1 4).trans ((congrFun (hgad_69 q0 (by rw [hk_q0]; decide)).1 4).trans (hxd_61.2))))))⟩⟩, by rw [ht]; exact hP, hD⟩, hS.F ht⟩) hS.2.2 dX8_as_168
      · refine lv_ldc2 (v := (-1)) hx hb hown (htl (.constantLong RX8 251 (-1)) mW669) dX8_as_47 ?_
        obtain ⟨hmy_106, hky_106⟩ := ySh.f8_0 hSh _ hm_q0 hk_q0
        obtain ⟨hmy_107, hky_107⟩ := ySh.f0_0 hSh _ hmy_106 hky_106
        exact W.lret (v := (-1)) hx hb hr (fun t ht hW => ⟨⟨(-1), d_61, rfl, ⟨hgd_61, (fun _ => hPod_61), ⟨⟨fun i hi k hk => congrFun (((zTm.ag zTm.rf hSh hmy_107 hky_107 hgad_61 (by decide))).1 i hi) k, ((zTm.ag zTm.rf hSh hmy_107 hky_107 hgad_61 (by decide))).2⟩, (hxd_61.2)⟩⟩, by rw [ht]; exact hP, hD⟩, hS.F ht⟩) hS.2.2 dX8_as_50
    · refine lv_iconst (v := 1) hx hb dX8_as_20 (by decide) ?_
      refine lv_goto (tgt := 25) hx hb dX8_as_21 (by decide) ?_
      refine lv_istore (lv' := [(5, .int 1), (0, .ref q0), (1, .int p0), (2, .int p1), (3, .int p2), (4, .int p3)]) hx hb dX8_as_25 hl (by decide) rfl (fun ls hl => ?_)
      refine lv_aload_n hx hb dX8_as_27 rfl (lv_at hl 1 rfl) ?_
      refine lv_aload_n hx hb dX8_as_28 rfl (lv_at hl 1 rfl) ?_
      refine lv_iload_n hx hb dX8_as_29 rfl (lv_at hl 2 rfl) ?_
      refine yVri (As := [.int p0]) (rest := [.ref q0]) C0 (g_X8_portReason l G S d q0 p0 hSh hm_q0 hk_q0) ok_X8_portReason (mW374 : Cond.methodLink RX8 124 yX8_portReason ∈ wsT) ⟨Nat.le_of_ble_eq_true rfl, Nat.le_of_ble_eq_true rfl⟩ hP hD hK hN hm_q0 hk_q0 (by decide) rfl rfl rfl hl.1 rfl (Nat.le_of_ble_eq_true rfl) ⟨Nat.le_of_ble_eq_true rfl, Nat.le_of_ble_eq_true rfl⟩ dX8_as_30 (fun r_108 hr_108 => ?_)
      have tr_108 := tp_ hr_108
      refine lv_iload hx hb dX8_as_33 (lv_at hl 0 rfl) ?_
      refine ySri (As := [.int 1]) (rest := [.int r_108, .ref q0]) C0 (g_X8_number l G S d 1 ) ok_X8_number (mW196 : Cond.methodLink RX8 54 yX8_number ∈ wsT) ⟨Nat.le_of_ble_eq_true rfl, Nat.le_of_ble_eq_true rfl⟩ hP hD hK hN rfl hl.1 rfl (Nat.le_of_ble_eq_true rfl) ⟨Nat.le_of_ble_eq_true rfl, Nat.le_of_ble_eq_true rfl⟩ dX8_as_35 (fun r_109 hr_109 => ?_)
      have hL_110 : (1 : Int32).toInt = 1 := by decide +kernel
      have tr_109 := tn_ hr_109
      refine ySri (As := [.int r_108, .int r_109]) (rest := [.ref q0]) C0 (g_X8_least l G S d r_108 r_109 ) ok_X8_least (mW199 : Cond.methodLink RX8 58 yX8_least ∈ wsT) ⟨Nat.le_of_ble_eq_true rfl, Nat.le_of_ble_eq_true rfl⟩ hP hD hK hN rfl hl.1 rfl (Nat.le_of_ble_eq_true rfl) ⟨Nat.le_of_ble_eq_true rfl, Nat.le_of_ble_eq_true rfl⟩ dX8_as_38 (fun r_111 hr_111 => ?_)
      have tr_111 := tl_ hr_111
      refine yVwi (As := [.int r_111]) (rest := []) C0 (g_X8_refused l G S d q0 r_111 hSh hPo hm_q0 hk_q0) ok_X8_refused (mW160 : Cond.methodLink RX8 42 yX8_refused ∈ wsT) ⟨Nat.le_of_ble_eq_true rfl, Nat.le_of_ble_eq_true rfl⟩ hP hD hS hA hK hN hm_q0 hk_q0 (by decide) rfl rfl rfl hl.1 rfl (Nat.le_of_ble_eq_true rfl) ⟨Nat.le_of_ble_eq_true rfl, Nat.le_of_ble_eq_true rfl⟩ dX8_as_41 (fun r_112 d_113 H locs hr_112 hP hD hS => ?_)
      obtain ⟨hgad_113, hpad_113, hxd_113⟩ := hr_112
      have hgd_113 : yAg S [3, 5, 7, 8, 10, 11, 12, 13, 14, 15, 22, 23, 24] d d_113 := yAg.tr hg0 hgad_113 (by first | decide | exact fun _ h => h)
      have hPod_113 : yPo S d_113 := hpad_113 hPo
      have tr_112 := tr_ hxd_113.1
      refine lv_if_eq (tgt := 51) hx hb dX8_as_44 (by decide) (fun c_114 => ?_) (fun c_114 => ?_)
      · refine lv_aload_n hx hb dX8_as_51 rfl (lv_at hl 1 rfl) ?_
        refine yget (ci := 8) (k := 0) (v := .ref (S.2.2.1 q0 0)) (C := RX8) (T := TX8) (N := 6) C0 hK hP hm_q0 hk_q0 (by decide) rfl inlX8 (by decide) mW16 (fun _ h9 => h9) rfl dX8_as_52 ?_
        obtain ⟨hmy_115, hky_115⟩ := ySh.f8_0 hSh _ hm_q0 hk_q0
        refine yget (ci := 0) (k := 0) (v := .ref (S.2.2.1 (S.2.2.1 q0 0) 0)) (C := RX0) (T := TX0) (N := 6) C0 hK hP hmy_115 hky_115 (by decide) rfl inlX0 (by decide) mW158 (fun _ h9 => h9) rfl dX8_as_55 ?_
        obtain ⟨hmy_116, hky_116⟩ := ySh.f0_0 hSh _ hmy_115 hky_115
        refine lv_astore (lv' := [(6, .ref (S.2.2.1 (S.2.2.1 q0 0) 0)), (5, .int 1), (0, .ref q0), (1, .int p0), (2, .int p1), (3, .int p2), (4, .int p3)]) hx hb dX8_as_58 hl (by decide) rfl (fun ls hl => ?_)
        refine lv_aload_n hx hb dX8_as_60 rfl (lv_at hl 2 rfl) ?_
        refine yget (ci := 8) (k := 0) (v := .ref (S.2.2.1 q0 0)) (C := RX8) (T := TX8) (N := 6) C0 hK hP hm_q0 hk_q0 (by decide) rfl inlX8 (by decide) mW16 (fun _ h9 => h9) rfl dX8_as_61 ?_
        refine lv_iload_n hx hb dX8_as_64 rfl (lv_at hl 3 rfl) ?_
        refine yVrr (As := [.int p0]) (rest := []) C0 (g_X0_portAt l G S d_113 (S.2.2.1 q0 0) p0 hSh hmy_115 hky_115) ok_X0_portAt (mW337 : Cond.methodLink RX8 114 yX0_portAt ∈ wsT) ⟨Nat.le_of_ble_eq_true rfl, Nat.le_of_ble_eq_true rfl⟩ hP hD hK hN hmy_115 hky_115 (by decide) rfl rfl rfl hl.1 rfl (Nat.le_of_ble_eq_true rfl) ⟨Nat.le_of_ble_eq_true rfl, Nat.le_of_ble_eq_true rfl⟩ dX8_as_65 (fun r_117 hr_117 => ?_)
        obtain ⟨hmr_117, hkr_117, her_117⟩ := hr_117
        refine yget (ci := 4) (k := 3) (v := .int (d_113.1 r_117 3)) (C := RX4) (T := TX4) (N := 11) C0 hK hP hmr_117 hkr_117 (by decide) rfl inlX4 (by decide) mW569 (fun _ h9 => h9) rfl dX8_as_68 ?_
        refine lv_topi (fun z_118 ez_118 => ?_)
        refine lv_istore (lv' := [(7, .int z_118), (6, .ref (S.2.2.1 (S.2.2.1 q0 0) 0)), (5, .int 1), (0, .ref q0), (1, .int p0), (2, .int p1), (3, .int p2), (4, .int p3)]) hx hb dX8_as_71 hl (by decide) rfl (fun ls hl => ?_)
        refine lv_iload hx hb dX8_as_73 (lv_at hl 0 rfl) ?_
        refine lv_iload_n hx hb dX8_as_75 rfl (lv_at hl 5 rfl) ?_
        refine ySri (As := [.int z_118, .int p1]) (rest := []) C0 (g_X8_rowOf l G S d_113 z_118 p1 ) ok_X8_rowOf (mW210 : Cond.methodLink RX8 61 yX8_rowOf ∈ wsT) ⟨Nat.le_of_ble_eq_true rfl, Nat.le_of_ble_eq_true rfl⟩ hP hD hK hN rfl hl.1 rfl (Nat.le_of_ble_eq_true rfl) ⟨Nat.le_of_ble_eq_true rfl, Nat.le_of_ble_eq_true rfl⟩ dX8_as_76 (fun r_119 hr_119 => ?_)
        refine lv_istore (lv' := [(8, .int r_119), (7, .int z_118), (6, .ref (S.2.2.1 (S.2.2.1 q0 0) 0)), (5, .int 1), (0, .ref q0), (1, .int p0), (2, .int p1), (3, .int p2), (4, .int p3)]) hx hb dX8_as_79 hl (by decide) rfl (fun ls hl => ?_)
        refine lv_aload hx hb dX8_as_81 (lv_at hl 2 rfl) ?_
        refine lv_iload hx hb dX8_as_83 (lv_at hl 0 rfl) ?_
        refine lv_sipush (v := 2401) hx hb dX8_as_85 (by decide) ?_
        refine yVwv (As := [.int r_119, .int 2401]) (rest := []) C0 (g_X6_copyRow l G S d_113 (S.2.2.1 (S.2.2.1 q0 0) 0) r_119 2401 hSh hPod_113 hmy_116 hky_116) ok_X6_copyRow (mW1016 : Cond.methodLink RX8 322 yX6_copyRow ∈ wsT) ⟨Nat.le_of_ble_eq_true rfl, Nat.le_of_ble_eq_true rfl⟩ hP hD hS hA hK hN hmy_116 hky_116 (by decide) rfl rfl rfl hl.1 rfl (Nat.le_of_ble_eq_true rfl) ⟨Nat.le_of_ble_eq_true rfl, Nat.le_of_ble_eq_true rfl⟩ dX8_as_88 (fun d_121 H locs hr_120 hP hD hS => ?_)
        obtain ⟨hgad_121, hpad_121, hxd_121⟩ := hr_120
        have hgd_121 : yAg S [3, 5, 7, 8, 10, 11, 12, 13, 14, 15, 22, 23, 24] d d_121 := yAg.tr hgd_113 hgad_121 (by first | decide | exact fun _ h => h)
        have hPod_121 : yPo S d_121 := hpad_121 hPod_113
        refine lv_aload hx hb dX8_as_91 (lv_at hl 2 rfl) ?_
        refine lv_iload_n hx hb dX8_as_93 rfl (lv_at hl 7 rfl) ?_
        refine lv_iconst (v := (-1)) hx hb dX8_as_94 (by decide) ?_
        refine lv_icmp_ne (tgt := 104) hx hb dX8_as_95 (by decide) (fun c_122 => ?_) (fun c_122 => ?_)
        · refine lv_iload hx hb dX8_as_104 (lv_at hl 1 rfl) ?_
          refine lv_iload_n hx hb dX8_as_106 rfl (lv_at hl 7 rfl) ?_
          refine ySri (As := [.int z_118, .int p2]) (rest := [.ref (S.2.2.1 (S.2.2.1 q0 0) 0)]) C0 (g_X8_rowOf l G S d_121 z_118 p2 ) ok_X8_rowOf (mW210 : Cond.methodLink RX8 61 yX8_rowOf ∈ wsT) ⟨Nat.le_of_ble_eq_true rfl, Nat.le_of_ble_eq_true rfl⟩ hP hD hK hN rfl hl.1 rfl (Nat.le_of_ble_eq_true rfl) ⟨Nat.le_of_ble_eq_true rfl, Nat.le_of_ble_eq_true rfl⟩ dX8_as_107 (fun r_123 hr_123 => ?_)
          refine lv_iload hx hb dX8_as_110 (lv_at hl 0 rfl) ?_
          refine yVwv (As := [.int r_123, .int r_119]) (rest := []) C0 (g_X6_copyRow l G S d_121 (S.2.2.1 (S.2.2.1 q0 0) 0) r_123 r_119 hSh hPod_121 hmy_116 hky_116) ok_X6_copyRow (mW1016 : Cond.methodLink RX8 322 yX6_copyRow ∈ wsT) ⟨Nat.le_of_ble_eq_true rfl, Nat.le_of_ble_eq_true rfl⟩ hP hD hS hA hK hN hmy_116 hky_116 (by decide) rfl rfl rfl hl.1 rfl (Nat.le_of_ble_eq_true rfl) ⟨Nat.le_of_ble_eq_true rfl, Nat.le_of_ble_eq_true rfl⟩ dX8_as_112 (fun d_125 H locs hr_124 hP hD hS => ?_)
          obtain ⟨hgad_125, hpad_125, hxd_125⟩ := hr_124
          have hgd_125 : yAg S [3, 5, 7, 8, 10, 11, 12, 13, 14, 15, 22, 23, 24] d d_125 := yAg.tr hgd_121 hgad_125 (by first | decide | exact fun _ h => h)
          have hPod_125 : yPo S d_125 := hpad_125 hPod_121
          refine lv_aload_n hx hb dX8_as_115 rfl (lv_at hl 4 rfl) ?_
          refine yget (ci := 8) (k := 2) (v := .ref (S.2.2.1 q0 2)) (C := RX8) (T := TX8) (N := 6) C0 hK hP hm_q0 hk_q0 (by decide) rfl inlX8 (by decide) mW21 (fun _ h9 => h9) rfl dX8_as_116 ?_
          obtain ⟨hmy_126, hky_126⟩ := ySh.f8_2 hSh _ hm_q0 hk_q0
          refine lv_aload_n hx hb dX8_as_119 rfl (lv_at hl 4 rfl) ?_
          refine yget (ci := 8) (k := 0) (v := .ref (S.2.2.1 q0 0)) (C := RX8) (T := TX8) (N := 6) C0 hK hP hm_q0 hk_q0 (by decide) rfl inlX8 (by decide) mW16 (fun _ h9 => h9) rfl dX8_as_120 ?_
          refine lv_iload_n hx hb dX8_as_123 rfl (lv_at hl 5 rfl) ?_
          refine yVri (As := [.int p0]) (rest := [.ref (S.2.2.1 q0 2)]) C0 (g_X0_groupOf l G S d_125 (S.2.2.1 q0 0) p0 hSh hmy_115 hky_115) ok_X0_groupOf (mW694 : Cond.methodLink RX8 258 yX0_groupOf ∈ wsT) ⟨Nat.le_of_ble_eq_true rfl, Nat.le_of_ble_eq_true rfl⟩ hP hD hK hN hmy_115 hky_115 (by decide) rfl rfl rfl hl.1 rfl (Nat.le_of_ble_eq_true rfl) ⟨Nat.le_of_ble_eq_true rfl, Nat.le_of_ble_eq_true rfl⟩ dX8_as_124 (fun r_127 hr_127 => ?_)
          refine lv_iload hx hb dX8_as_127 (lv_at hl 8 rfl) ?_
          refine yVwv (As := [.int r_127, .int p3]) (rest := []) C0 (g_X3_read l G S d_125 (S.2.2.1 q0 2) r_127 p3 hSh hPod_125 hmy_126 hky_126 hz_p3) ok_X3_read (mW699 : Cond.methodLink RX8 261 yX3_read ∈ wsT) ⟨Nat.le_of_ble_eq_true rfl, Nat.le_of_ble_eq_true rfl⟩ hP hD hS hA hK hN hmy_126 hky_126 (by decide) rfl rfl rfl hl.1 rfl (Nat.le_of_ble_eq_true rfl) ⟨Nat.le_of_ble_eq_true rfl, Nat.le_of_ble_eq_true rfl⟩ dX8_as_129 (fun d_129 H locs hr_128 hP hD hS => ?_)
          obtain ⟨hgad_129, hpad_129, hxd_129⟩ := hr_128
          have hgd_129 : yAg S [3, 5, 7, 8, 10, 11, 12, 13, 14, 15, 22, 23, 24] d d_129 := yAg.tr hgd_125 hgad_129 (by first | decide | exact fun _ h => h)
          have hPod_129 : yPo S d_129 := hpad_129 hPod_125
          refine lv_aload_n hx hb dX8_as_132 rfl (lv_at hl 4 rfl) ?_
          refine yget (ci := 8) (k := 2) (v := .ref (S.2.2.1 q0 2)) (C := RX8) (T := TX8) (N := 6) C0 hK hP hm_q0 hk_q0 (by decide) rfl inlX8 (by decide) mW21 (fun _ h9 => h9) rfl dX8_as_133 ?_
          refine yVwv (As := []) (rest := []) C0 (g_X3_settle l G S d_129 (S.2.2.1 q0 2) hSh hPod_129 hmy_126 hky_126) ok_X3_settle (mW952 : Cond.methodLink RX8 289 yX3_settle ∈ wsT) ⟨Nat.le_of_ble_eq_true rfl, Nat.le_of_ble_eq_true rfl⟩ hP hD hS hA hK hN hmy_126 hky_126 (by decide) rfl rfl rfl hl.1 rfl (Nat.le_of_ble_eq_true rfl) ⟨Nat.le_of_ble_eq_true rfl, Nat.le_of_ble_eq_true rfl⟩ dX8_as_136 (fun d_131 H locs hr_130 hP hD hS => ?_)
          obtain ⟨hgad_131, hpad_131, hxd_131⟩ := hr_130
          have hgd_131 : yAg S [3, 5, 7, 8, 10, 11, 12, 13, 14, 15, 22, 23, 24] d d_131 := yAg.tr hgd_129 hgad_131 (by first | decide | exact fun _ h => h)
          have hPod_131 : yPo S d_131 := hpad_131 hPod_129
          refine lv_aload_n hx hb dX8_as_139 rfl (lv_at hl 4 rfl) ?_
          refine yget (ci := 8) (k := 2) (v := .ref (S.2.2.1 q0 2)) (C := RX8) (T := TX8) (N := 6) C0 hK hP hm_q0 hk_q0 (by decide) rfl inlX8 (by decide) mW21 (fun _ h9 => h9) rfl dX8_as_140 ?_
          refine yVrl (As := []) (rest := []) C0 (g_X3_owed l G S d_131 (S.2.2.1 q0 2) hSh hmy_126 hky_126) ok_X3_owed (mW958 : Cond.methodLink RX8 303 yX3_owed ∈ wsT) ⟨Nat.le_of_ble_eq_true rfl, Nat.le_of_ble_eq_true rfl⟩ hP hD hK hN hmy_126 hky_126 (by decide) rfl rfl rfl hl.1 rfl (Nat.le_of_ble_eq_true rfl) ⟨Nat.le_of_ble_eq_true rfl, Nat.le_of_ble_eq_true rfl⟩ dX8_as_143 (fun r_132 hr_132 => ?_)
          refine lv_aload_n hx hb dX8_as_146 rfl (lv_at hl 4 rfl) ?_
          refine yget (ci := 8) (k := 2) (v := .ref (S.2.2.1 q0 2)) (C := RX8) (T := TX8) (N := 6) C0 hK hP hm_q0 hk_q0 (by decide) rfl inlX8 (by decide) mW21 (fun _ h9 => h9) rfl dX8_as_147 ?_
          refine yVrl (As := []) (rest := [.long r_132]) C0 (g_X3_saved l G S d_131 (S.2.2.1 q0 2) hSh hmy_126 hky_126) ok_X3_saved (mW965 : Cond.methodLink RX8 307 yX3_saved ∈ wsT) ⟨Nat.le_of_ble_eq_true rfl, Nat.le_of_ble_eq_true rfl⟩ hP hD hK hN hmy_126 hky_126 (by decide) rfl rfl rfl hl.1 rfl (Nat.le_of_ble_eq_true rfl) ⟨Nat.le_of_ble_eq_true rfl, Nat.le_of_ble_eq_true rfl⟩ dX8_as_150 (fun r_133 hr_133 => ?_)
          refine lv_lsub hx hb dX8_as_153 ?_
          refine lv_topl (fun z_134 ez_134 => ?_)
          refine lv_lstore (lv' := [(9, .long z_134), (8, .int r_119), (7, .int z_118), (6, .ref (S.2.2.1 (S.2.2.1 q0 0) 0)), (5, .int 1), (0, .ref q0), (1, .int p0), (2, .int p1), (3, .int p2), (4, .int p3)]) hx hb dX8_as_154 hl (by decide) rfl (fun ls hl => ?_)
          refine lv_aload hx hb dX8_as_156 (lv_at hl 3 rfl) ?_
          refine lv_sipush (v := 2401) hx hb dX8_as_158 (by decide) ?_
          refine lv_iload hx hb dX8_as_161 (lv_at hl 1 rfl) ?_
          refine yVwv (As := [.int 2401, .int r_119]) (rest := []) C0 (g_X6_copyRow l G S d_131 (S.2.2.1 (S.2.2.1 q0 0) 0) 2401 r_119 hSh hPod_131 hmy_116 hky_116) ok_X6_copyRow (mW1016 : Cond.methodLink RX8 322 yX6_copyRow ∈ wsT) ⟨Nat.le_of_ble_eq_true rfl, Nat.le_of_ble_eq_true rfl⟩ hP hD hS hA hK hN hmy_116 hky_116 (by decide) rfl rfl rfl hl.1 rfl (Nat.le_of_ble_eq_true rfl) ⟨Nat.le_of_ble_eq_true rfl, Nat.le_of_ble_eq_true rfl⟩ dX8_as_163 (fun d_136 H locs hr_135 hP hD hS => ?_)
          obtain ⟨hgad_136, hpad_136, hxd_136⟩ := hr_135
          have hgd_136 : yAg S [3, 5, 7, 8, 10, 11, 12, 13, 14, 15, 22, 23, 24] d d_136 := yAg.tr hgd_131 hgad_136 (by first | decide | exact fun _ h => h)
          have hPod_136 : yPo S d_136 := hpad_136 hPod_131
          refine lv_lload hx hb dX8_as_166 (lv_at hl 0 rfl) ?_
          have hz3_ : (z_118 : Int32).toInt = (d.1 r_117 3).toInt := by rw [ez_118]; exact congrArg Int32.toInt (congrFun ((yAg.o hgad_113 (a := r_117) (by rw [hkr_117]; decide))).1 3)
          have hz4_ := hI3 r_117 hmr_117 hkr_117
          have F_137 := fne (rfl : (r_1 : Int32).toInt = (r_1 : Int32).toInt) (by decide +kernel : (0 : Int32).toInt = 0) c_4
          have F_138 := fne (rfl : (r_54 : Int32).toInt = (r_54 : Int32).toInt) (by decide +kernel : (0 : Int32).toInt = 0) c_56
          have F_139 := feq (rfl : (r_112 : Int32).toInt = (r_112 : Int32).toInt) (by decide +kernel : (0 : Int32).toInt = 0) c_114
          have F_140 := fne (rfl : (p2 : Int32).toInt = (p2 : Int32).toInt) (by decide +kernel : ((-1) : Int32).toInt = (-1)) c_122
          have h60_ : (60 : Int32).toInt = 60 := by decide +kernel
          have hm6_ : (z_118 * 60 : Int32).toInt = (z_118 : Int32).toInt * 60 := tmul rfl rfl h60_ (by omega) (by omega)
          have hrw_ : (r_119 : Int32).toInt = (z_118 : Int32).toInt * 60 + p1.toInt := tadd (hr_119) hm6_ rfl (by omega) (by omega)
          have hzt_ := zAside hSh hmy_116 hky_116 (by omega) (by omega) hxd_121 hxd_125 (yAg.tr (yAg.tr (yAg.rf (M := [3, 5, 7, 22, 23])) hgad_129 (by decide)) hgad_131 (by decide)) (by decide) hxd_136
          exact W.lret (v := z_134) hx hb hr (fun t ht hW => ⟨⟨z_134, d_136, rfl, ⟨hgd_136, (fun _ => hPod_136), ⟨⟨fun i hi k hk => (hzt_.1 i hi k hk).trans (congrFun (((zTm.ag zTm.rf hSh hmy_116 hky_116 hgad_113 (by decide))).1 i hi) k), fun t a b c i hi => (hzt_.2 t a b c i hi).trans (((zTm.ag zTm.rf hSh hmy_116 hky_116 hgad_113 (by decide))).2 t a b c i hi)⟩, ((congrFun (hgad_136 q0 (by rw [hk_q0]; decide)).1 4).trans ((congrFun (hgad_131 q0 (by rw [hk_q0]; decide)).1 4).trans ((congrFun (hgad_129 q0 (by rw [hk_q0]; decide)).1 4).trans ((congrFun (hgad_125 q0 (by rw [hk_q0]; decide)).1 4).trans ((congrFun (hgad_121 q0 (by rw [hk_q0]; decide)).1 4).trans (hxd_113.2))))))⟩⟩, by rw [ht]; exact hP, hD⟩, hS.F ht⟩) hS.2.2 dX8_as_168
        · refine lv_sipush (v := 2400) hx hb dX8_as_98 (by decide) ?_
          refine lv_goto (tgt := 110) hx hb dX8_as_101 (by decide) ?_
          refine lv_iload hx hb dX8_as_110 (lv_at hl 0 rfl) ?_
          refine yVwv (As := [.int 2400, .int r_119]) (rest := []) C0 (g_X6_copyRow l G S d_121 (S.2.2.1 (S.2.2.1 q0 0) 0) 2400 r_119 hSh hPod_121 hmy_116 hky_116) ok_X6_copyRow (mW1016 : Cond.methodLink RX8 322 yX6_copyRow ∈ wsT) ⟨Nat.le_of_ble_eq_true rfl, Nat.le_of_ble_eq_true rfl⟩ hP hD hS hA hK hN hmy_116 hky_116 (by decide) rfl rfl rfl hl.1 rfl (Nat.le_of_ble_eq_true rfl) ⟨Nat.le_of_ble_eq_true rfl, Nat.le_of_ble_eq_true rfl⟩ dX8_as_112 (fun d_142 H locs hr_141 hP hD hS => ?_)
          obtain ⟨hgad_142, hpad_142, hxd_142⟩ := hr_141
          have hgd_142 : yAg S [3, 5, 7, 8, 10, 11, 12, 13, 14, 15, 22, 23, 24] d d_142 := yAg.tr hgd_121 hgad_142 (by first | decide | exact fun _ h => h)
          have hPod_142 : yPo S d_142 := hpad_142 hPod_121
          refine lv_aload_n hx hb dX8_as_115 rfl (lv_at hl 4 rfl) ?_
          refine yget (ci := 8) (k := 2) (v := .ref (S.2.2.1 q0 2)) (C := RX8) (T := TX8) (N := 6) C0 hK hP hm_q0 hk_q0 (by decide) rfl inlX8 (by decide) mW21 (fun _ h9 => h9) rfl dX8_as_116 ?_
          obtain ⟨hmy_143, hky_143⟩ := ySh.f8_2 hSh _ hm_q0 hk_q0
          refine lv_aload_n hx hb dX8_as_119 rfl (lv_at hl 4 rfl) ?_
          refine yget (ci := 8) (k := 0) (v := .ref (S.2.2.1 q0 0)) (C := RX8) (T := TX8) (N := 6) C0 hK hP hm_q0 hk_q0 (by decide) rfl inlX8 (by decide) mW16 (fun _ h9 => h9) rfl dX8_as_120 ?_
          refine lv_iload_n hx hb dX8_as_123 rfl (lv_at hl 5 rfl) ?_
          refine yVri (As := [.int p0]) (rest := [.ref (S.2.2.1 q0 2)]) C0 (g_X0_groupOf l G S d_142 (S.2.2.1 q0 0) p0 hSh hmy_115 hky_115) ok_X0_groupOf (mW694 : Cond.methodLink RX8 258 yX0_groupOf ∈ wsT) ⟨Nat.le_of_ble_eq_true rfl, Nat.le_of_ble_eq_true rfl⟩ hP hD hK hN hmy_115 hky_115 (by decide) rfl rfl rfl hl.1 rfl (Nat.le_of_ble_eq_true rfl) ⟨Nat.le_of_ble_eq_true rfl, Nat.le_of_ble_eq_true rfl⟩ dX8_as_124 (fun r_144 hr_144 => ?_)
          refine lv_iload hx hb dX8_as_127 (lv_at hl 8 rfl) ?_
          refine yVwv (As := [.int r_144, .int p3]) (rest := []) C0 (g_X3_read l G S d_142 (S.2.2.1 q0 2) r_144 p3 hSh hPod_142 hmy_143 hky_143 hz_p3) ok_X3_read (mW699 : Cond.methodLink RX8 261 yX3_read ∈ wsT) ⟨Nat.le_of_ble_eq_true rfl, Nat.le_of_ble_eq_true rfl⟩ hP hD hS hA hK hN hmy_143 hky_143 (by decide) rfl rfl rfl hl.1 rfl (Nat.le_of_ble_eq_true rfl) ⟨Nat.le_of_ble_eq_true rfl, Nat.le_of_ble_eq_true rfl⟩ dX8_as_129 (fun d_146 H locs hr_145 hP hD hS => ?_)
          obtain ⟨hgad_146, hpad_146, hxd_146⟩ := hr_145
          have hgd_146 : yAg S [3, 5, 7, 8, 10, 11, 12, 13, 14, 15, 22, 23, 24] d d_146 := yAg.tr hgd_142 hgad_146 (by first | decide | exact fun _ h => h)
          have hPod_146 : yPo S d_146 := hpad_146 hPod_142
          refine lv_aload_n hx hb dX8_as_132 rfl (lv_at hl 4 rfl) ?_
          refine yget (ci := 8) (k := 2) (v := .ref (S.2.2.1 q0 2)) (C := RX8) (T := TX8) (N := 6) C0 hK hP hm_q0 hk_q0 (by decide) rfl inlX8 (by decide) mW21 (fun _ h9 => h9) rfl dX8_as_133 ?_
          refine yVwv (As := []) (rest := []) C0 (g_X3_settle l G S d_146 (S.2.2.1 q0 2) hSh hPod_146 hmy_143 hky_143) ok_X3_settle (mW952 : Cond.methodLink RX8 289 yX3_settle ∈ wsT) ⟨Nat.le_of_ble_eq_true rfl, Nat.le_of_ble_eq_true rfl⟩ hP hD hS hA hK hN hmy_143 hky_143 (by decide) rfl rfl rfl hl.1 rfl (Nat.le_of_ble_eq_true rfl) ⟨Nat.le_of_ble_eq_true rfl, Nat.le_of_ble_eq_true rfl⟩ dX8_as_136 (fun d_148 H locs hr_147 hP hD hS => ?_)
          obtain ⟨hgad_148, hpad_148, hxd_148⟩ := hr_147
          have hgd_148 : yAg S [3, 5, 7, 8, 10, 11, 12, 13, 14, 15, 22, 23, 24] d d_148 := yAg.tr hgd_146 hgad_148 (by first | decide | exact fun _ h => h)
          have hPod_148 : yPo S d_148 := hpad_148 hPod_146
          refine lv_aload_n hx hb dX8_as_139 rfl (lv_at hl 4 rfl) ?_
          refine yget (ci := 8) (k := 2) (v := .ref (S.2.2.1 q0 2)) (C := RX8) (T := TX8) (N := 6) C0 hK hP hm_q0 hk_q0 (by decide) rfl inlX8 (by decide) mW21 (fun _ h9 => h9) rfl dX8_as_140 ?_
          refine yVrl (As := []) (rest := []) C0 (g_X3_owed l G S d_148 (S.2.2.1 q0 2) hSh hmy_143 hky_143) ok_X3_owed (mW958 : Cond.methodLink RX8 303 yX3_owed ∈ wsT) ⟨Nat.le_of_ble_eq_true rfl, Nat.le_of_ble_eq_true rfl⟩ hP hD hK hN hmy_143 hky_143 (by decide) rfl rfl rfl hl.1 rfl (Nat.le_of_ble_eq_true rfl) ⟨Nat.le_of_ble_eq_true rfl, Nat.le_of_ble_eq_true rfl⟩ dX8_as_143 (fun r_149 hr_149 => ?_)
          refine lv_aload_n hx hb dX8_as_146 rfl (lv_at hl 4 rfl) ?_
          refine yget (ci := 8) (k := 2) (v := .ref (S.2.2.1 q0 2)) (C := RX8) (T := TX8) (N := 6) C0 hK hP hm_q0 hk_q0 (by decide) rfl inlX8 (by decide) mW21 (fun _ h9 => h9) rfl dX8_as_147 ?_
          refine yVrl (As := []) (rest := [.long r_149]) C0 (g_X3_saved l G S d_148 (S.2.2.1 q0 2) hSh hmy_143 hky_143) ok_X3_saved (mW965 : Cond.methodLink RX8 307 yX3_saved ∈ wsT) ⟨Nat.le_of_ble_eq_true rfl, Nat.le_of_ble_eq_true rfl⟩ hP hD hK hN hmy_143 hky_143 (by decide) rfl rfl rfl hl.1 rfl (Nat.le_of_ble_eq_true rfl) ⟨Nat.le_of_ble_eq_true rfl, Nat.le_of_ble_eq_true rfl⟩ dX8_as_150 (fun r_150 hr_150 => ?_)
          refine lv_lsub hx hb dX8_as_153 ?_
          refine lv_topl (fun z_151 ez_151 => ?_)
          refine lv_lstore (lv' := [(9, .long z_151), (8, .int r_119), (7, .int z_118), (6, .ref (S.2.2.1 (S.2.2.1 q0 0) 0)), (5, .int 1), (0, .ref q0), (1, .int p0), (2, .int p1), (3, .int p2), (4, .int p3)]) hx hb dX8_as_154 hl (by decide) rfl (fun ls hl => ?_)
          refine lv_aload hx hb dX8_as_156 (lv_at hl 3 rfl) ?_
          refine lv_sipush (v := 2401) hx hb dX8_as_158 (by decide) ?_
          refine lv_iload hx hb dX8_as_161 (lv_at hl 1 rfl) ?_
          refine yVwv (As := [.int 2401, .int r_119]) (rest := []) C0 (g_X6_copyRow l G S d_148 (S.2.2.1 (S.2.2.1 q0 0) 0) 2401 r_119 hSh hPod_148 hmy_116 hky_116) ok_X6_copyRow (mW1016 : Cond.methodLink RX8 322 yX6_copyRow ∈ wsT) ⟨Nat.le_of_ble_eq_true rfl, Nat.le_of_ble_eq_true rfl⟩ hP hD hS hA hK hN hmy_116 hky_116 (by decide) rfl rfl rfl hl.1 rfl (Nat.le_of_ble_eq_true rfl) ⟨Nat.le_of_ble_eq_true rfl, Nat.le_of_ble_eq_true rfl⟩ dX8_as_163 (fun d_153 H locs hr_152 hP hD hS => ?_)
          obtain ⟨hgad_153, hpad_153, hxd_153⟩ := hr_152
          have hgd_153 : yAg S [3, 5, 7, 8, 10, 11, 12, 13, 14, 15, 22, 23, 24] d d_153 := yAg.tr hgd_148 hgad_153 (by first | decide | exact fun _ h => h)
          have hPod_153 : yPo S d_153 := hpad_153 hPod_148
          refine lv_lload hx hb dX8_as_166 (lv_at hl 0 rfl) ?_
          have hz3_ : (z_118 : Int32).toInt = (d.1 r_117 3).toInt := by rw [ez_118]; exact congrArg Int32.toInt (congrFun ((yAg.o hgad_113 (a := r_117) (by rw [hkr_117]; decide))).1 3)
          have hz4_ := hI3 r_117 hmr_117 hkr_117
          have F_154 := fne (rfl : (r_1 : Int32).toInt = (r_1 : Int32).toInt) (by decide +kernel : (0 : Int32).toInt = 0) c_4
          have F_155 := fne (rfl : (r_54 : Int32).toInt = (r_54 : Int32).toInt) (by decide +kernel : (0 : Int32).toInt = 0) c_56
          have F_156 := feq (rfl : (r_112 : Int32).toInt = (r_112 : Int32).toInt) (by decide +kernel : (0 : Int32).toInt = 0) c_114
          have F_157 := feq (rfl : (p2 : Int32).toInt = (p2 : Int32).toInt) (by decide +kernel : ((-1) : Int32).toInt = (-1)) c_122
          have h60_ : (60 : Int32).toInt = 60 := by decide +kernel
          have hm6_ : (z_118 * 60 : Int32).toInt = (z_118 : Int32).toInt * 60 := tmul rfl rfl h60_ (by omega) (by omega)
          have hrw_ : (r_119 : Int32).toInt = (z_118 : Int32).toInt * 60 + p1.toInt := tadd (hr_119) hm6_ rfl (by omega) (by omega)
          have hzt_ := zAside hSh hmy_116 hky_116 (by omega) (by omega) hxd_121 hxd_142 (yAg.tr (yAg.tr (yAg.rf (M := [3, 5, 7, 22, 23])) hgad_146 (by decide)) hgad_148 (by decide)) (by decide) hxd_153
          exact W.lret (v := z_151) hx hb hr (fun t ht hW => ⟨⟨z_151, d_153, rfl, ⟨hgd_153, (fun _ => hPod_153), ⟨⟨fun i hi k hk => (hzt_.1 i hi k hk).trans (congrFun (((zTm.ag zTm.rf hSh hmy_116 hky_116 hgad_113 (by decide))).1 i hi) k), fun t a b c i hi => (hzt_.2 t a b c i hi).trans (((zTm.ag zTm.rf hSh hmy_116 hky_116 hgad_113 (by decide))).2 t a b c i hi)⟩, ((congrFun (hgad_153 q0 (by rw [hk_q0]; decide)).1 4).trans ((congrFun (hgad_148 q0 (by rw [hk_q0]; decide)).1 4).trans ((congrFun (hgad_146 q0 (by rw [hk_q0]; decide)).1 4).trans ((congrFun (hgad_142 q0 (by rw [hk_q0]; decide)).1 4).trans ((congrFun (hgad_121 q0 (by rw [hk_q0]; decide)).1 4).trans (hxd_113.2))))))⟩⟩, by rw [ht]; exact hP, hD⟩, hS.F ht⟩) hS.2.2 dX8_as_168
      · refine lv_ldc2 (v := (-1)) hx hb hown (htl (.constantLong RX8 251 (-1)) mW669) dX8_as_47 ?_
        obtain ⟨hmy_158, hky_158⟩ := ySh.f8_0 hSh _ hm_q0 hk_q0
        obtain ⟨hmy_159, hky_159⟩ := ySh.f0_0 hSh _ hmy_158 hky_158
        exact W.lret (v := (-1)) hx hb hr (fun t ht hW => ⟨⟨(-1), d_113, rfl, ⟨hgd_113, (fun _ => hPod_113), ⟨⟨fun i hi k hk => congrFun (((zTm.ag zTm.rf hSh hmy_159 hky_159 hgad_113 (by decide))).1 i hi) k, ((zTm.ag zTm.rf hSh hmy_159 hky_159 hgad_113 (by decide))).2⟩, (hxd_113.2)⟩⟩, by rw [ht]; exact hP, hD⟩, hS.F ht⟩) hS.2.2 dX8_as_50
