theorem dX8_told_0 : decode cX8_told 0 = .ok (.aload_n 0, 1) := by decide +kernel
theorem dX8_told_1 : decode cX8_told 1 = .ok (.aload_n 0, 1) := by decide +kernel
theorem dX8_told_2 : decode cX8_told 2 = .ok (.iload_n 1, 1) := by decide +kernel
theorem dX8_told_3 : decode cX8_told 3 = .ok (.invokevirtual 124, 3) := by decide +kernel
theorem dX8_told_6 : decode cX8_told 6 = .ok (.iload_n 2, 1) := by decide +kernel
theorem dX8_told_7 : decode cX8_told 7 = .ok (.iconst 0, 1) := by decide +kernel
theorem dX8_told_8 : decode cX8_told 8 = .ok (.bipush 7, 2) := by decide +kernel
theorem dX8_told_10 : decode cX8_told 10 = .ok (.invokestatic 71, 3) := by decide +kernel
theorem dX8_told_13 : decode cX8_told 13 = .ok (.invokestatic 54, 3) := by decide +kernel
theorem dX8_told_16 : decode cX8_told 16 = .ok (.invokestatic 58, 3) := by decide +kernel
theorem dX8_told_19 : decode cX8_told 19 = .ok (.invokevirtual 42, 3) := by decide +kernel
theorem dX8_told_22 : decode cX8_told 22 = .ok (.ifCond .eq 5, 3) := by decide +kernel
theorem dX8_told_25 : decode cX8_told 25 = .ok (.iconst (-1), 1) := by decide +kernel
theorem dX8_told_26 : decode cX8_told 26 = .ok (.ireturn, 1) := by decide +kernel
theorem dX8_told_27 : decode cX8_told 27 = .ok (.aload_n 0, 1) := by decide +kernel
theorem dX8_told_28 : decode cX8_told 28 = .ok (.getfield 24, 3) := by decide +kernel
theorem dX8_told_31 : decode cX8_told 31 = .ok (.iload_n 1, 1) := by decide +kernel
theorem dX8_told_32 : decode cX8_told 32 = .ok (.invokevirtual 214, 3) := by decide +kernel
theorem dX8_told_35 : decode cX8_told 35 = .ok (.astore_n 3, 1) := by decide +kernel
theorem dX8_told_36 : decode cX8_told 36 = .ok (.aload_n 3, 1) := by decide +kernel
theorem dX8_told_37 : decode cX8_told 37 = .ok (.aload_n 0, 1) := by decide +kernel
theorem dX8_told_38 : decode cX8_told 38 = .ok (.getfield 12, 3) := by decide +kernel
theorem dX8_told_41 : decode cX8_told 41 = .ok (.iload_n 1, 1) := by decide +kernel
theorem dX8_told_42 : decode cX8_told 42 = .ok (.invokevirtual 218, 3) := by decide +kernel
theorem dX8_told_45 : decode cX8_told 45 = .ok (.iload_n 2, 1) := by decide +kernel
theorem dX8_told_46 : decode cX8_told 46 = .ok (.tableswitch 113 0 6 #[42, 47, 52, 68, 74, 86, 101], 42) := by decide +kernel
theorem dX8_told_88 : decode cX8_told 88 = .ok (.aload_n 3, 1) := by decide +kernel
theorem dX8_told_89 : decode cX8_told 89 = .ok (.getfield 224, 3) := by decide +kernel
theorem dX8_told_92 : decode cX8_told 92 = .ok (.ireturn, 1) := by decide +kernel
theorem dX8_told_93 : decode cX8_told 93 = .ok (.aload_n 3, 1) := by decide +kernel
theorem dX8_told_94 : decode cX8_told 94 = .ok (.getfield 227, 3) := by decide +kernel
theorem dX8_told_97 : decode cX8_told 97 = .ok (.ireturn, 1) := by decide +kernel
theorem dX8_told_98 : decode cX8_told 98 = .ok (.aload_n 3, 1) := by decide +kernel
theorem dX8_told_99 : decode cX8_told 99 = .ok (.getfield 230, 3) := by decide +kernel
theorem dX8_told_102 : decode cX8_told 102 = .ok (.ifCond .eq 10, 3) := by decide +kernel
theorem dX8_told_105 : decode cX8_told 105 = .ok (.aload_n 3, 1) := by decide +kernel
theorem dX8_told_106 : decode cX8_told 106 = .ok (.getfield 234, 3) := by decide +kernel
theorem dX8_told_109 : decode cX8_told 109 = .ok (.goto 4, 3) := by decide +kernel
theorem dX8_told_112 : decode cX8_told 112 = .ok (.iconst (-1), 1) := by decide +kernel
theorem dX8_told_113 : decode cX8_told 113 = .ok (.ireturn, 1) := by decide +kernel
theorem dX8_told_114 : decode cX8_told 114 = .ok (.aload_n 3, 1) := by decide +kernel
theorem dX8_told_115 : decode cX8_told 115 = .ok (.getfield 237, 3) := by decide +kernel
theorem dX8_told_118 : decode cX8_told 118 = .ok (.l2i, 1) := by decide +kernel
theorem dX8_told_119 : decode cX8_told 119 = .ok (.ireturn, 1) := by decide +kernel
theorem dX8_told_120 : decode cX8_told 120 = .ok (.aload_n 0, 1) := by decide +kernel
theorem dX8_told_121 : decode cX8_told 121 = .ok (.getfield 12, 3) := by decide +kernel
theorem dX8_told_124 : decode cX8_told 124 = .ok (.iload_n 1, 1) := by decide +kernel
theorem dX8_told_125 : decode cX8_told 125 = .ok (.invokevirtual 114, 3) := by decide +kernel
theorem dX8_told_128 : decode cX8_told 128 = .ok (.getfield 167, 3) := by decide +kernel
theorem dX8_told_131 : decode cX8_told 131 = .ok (.ireturn, 1) := by decide +kernel
theorem dX8_told_132 : decode cX8_told 132 = .ok (.aload_n 0, 1) := by decide +kernel
theorem dX8_told_133 : decode cX8_told 133 = .ok (.getfield 12, 3) := by decide +kernel
theorem dX8_told_136 : decode cX8_told 136 = .ok (.getfield 136, 3) := by decide +kernel
theorem dX8_told_139 : decode cX8_told 139 = .ok (.iload_n 1, 1) := by decide +kernel
theorem dX8_told_140 : decode cX8_told 140 = .ok (.iconst 0, 1) := by decide +kernel
theorem dX8_told_141 : decode cX8_told 141 = .ok (.ldc 240, 2) := by decide +kernel
theorem dX8_told_143 : decode cX8_told 143 = .ok (.invokevirtual 241, 3) := by decide +kernel
theorem dX8_told_146 : decode cX8_told 146 = .ok (.ireturn, 1) := by decide +kernel
theorem dX8_told_147 : decode cX8_told 147 = .ok (.aload_n 0, 1) := by decide +kernel
theorem dX8_told_148 : decode cX8_told 148 = .ok (.getfield 12, 3) := by decide +kernel
theorem dX8_told_151 : decode cX8_told 151 = .ok (.iload_n 1, 1) := by decide +kernel
theorem dX8_told_152 : decode cX8_told 152 = .ok (.invokevirtual 114, 3) := by decide +kernel
theorem dX8_told_155 : decode cX8_told 155 = .ok (.invokevirtual 244, 3) := by decide +kernel
theorem dX8_told_158 : decode cX8_told 158 = .ok (.ireturn, 1) := by decide +kernel
theorem dX8_told_159 : decode cX8_told 159 = .ok (.aload_n 0, 1) := by decide +kernel
theorem dX8_told_160 : decode cX8_told 160 = .ok (.getfield 12, 3) := by decide +kernel
theorem dX8_told_163 : decode cX8_told 163 = .ok (.iload_n 1, 1) := by decide +kernel
theorem dX8_told_164 : decode cX8_told 164 = .ok (.invokevirtual 114, 3) := by decide +kernel
theorem dX8_told_167 : decode cX8_told 167 = .ok (.getfield 248, 3) := by decide +kernel
theorem dX8_told_170 : decode cX8_told 170 = .ok (.ireturn, 1) := by decide +kernel
set_option maxHeartbeats 4000000 in
set_option maxRecDepth 100000 in
theorem g_X8_told (l : Launch) (G : xG) (S : yS) (d : yD) (q0 : Nat) (p0 : Int32) (p1 : Int32) (hSh : ySh S) (hPo : yPo S d) (hm_q0 : q0 ∈ S.1) (hk_q0 : S.2.1 q0 = 8) : xWi l G yX8_told cX8_told 4 (some .int) 4 102 0 0 [.ref q0, .int p0, .int p1] (yW G S d) (fun r (u : yD) => yAg S [5, 8, 24] d u ∧ (yPo S d → yPo S u) ∧ (u.1 q0 4 = d.1 q0 4)) (fun u => yW G S u) := by
  intro sz
  refine xstart (by decide) (Nat.le_of_ble_eq_true rfl) (fun p e s m args below meth c ls C0 hr hlocks hin hsz hP hK hD hN hl => ?_)
  obtain ⟨hx, hb, hml, hown, htl⟩ := id C0
  subst hsz
  have hD := hD.self (sz := s.heap.size)
  generalize hAe : va_A (yW G S d) s.heap.size = A at hD ⊢
  have hA : ∀ q : Nat, s.heap.size ≤ q → A q := fun q h => by rw [← hAe]; exact Or.inr h
  have hS : va_S A s.heap s.heap [] := va_S.rf
  have hg0 : yAg S [5, 8, 24] d d := yAg.rf
  have hl : lv_has ls 4 [(0, .ref q0), (1, .int p0), (2, .int p1)] := hl
  refine lv_aload_n hx hb dX8_told_0 rfl (lv_at hl 0 rfl) ?_
  refine lv_aload_n hx hb dX8_told_1 rfl (lv_at hl 0 rfl) ?_
  refine lv_iload_n hx hb dX8_told_2 rfl (lv_at hl 1 rfl) ?_
  refine yVri (As := [.int p0]) (rest := [.ref q0]) C0 (g_X8_portReason l G S d q0 p0 hSh hm_q0 hk_q0) ok_X8_portReason (mW374 : Cond.methodLink RX8 124 yX8_portReason ∈ wsT) ⟨Nat.le_of_ble_eq_true rfl, Nat.le_of_ble_eq_true rfl⟩ hP hD hK hN hm_q0 hk_q0 (by decide) rfl rfl rfl hl.1 rfl (Nat.le_of_ble_eq_true rfl) ⟨Nat.le_of_ble_eq_true rfl, Nat.le_of_ble_eq_true rfl⟩ dX8_told_3 (fun r_1 hr_1 => ?_)
  refine lv_iload_n hx hb dX8_told_6 rfl (lv_at hl 2 rfl) ?_
  refine lv_iconst (v := 0) hx hb dX8_told_7 (by decide) ?_
  refine lv_bipush (v := 7) hx hb dX8_told_8 (by decide) ?_
  refine ySri (As := [.int p1, .int 0, .int 7]) (rest := [.int r_1, .ref q0]) C0 (g_X8_within l G S d p1 0 7 ) ok_X8_within (mW193 : Cond.methodLink RX8 71 yX8_within ∈ wsT) ⟨Nat.le_of_ble_eq_true rfl, Nat.le_of_ble_eq_true rfl⟩ hP hD hK hN rfl hl.1 rfl (Nat.le_of_ble_eq_true rfl) ⟨Nat.le_of_ble_eq_true rfl, Nat.le_of_ble_eq_true rfl⟩ dX8_told_10 (fun r_2 hr_2 => ?_)
  refine ySri (As := [.int r_2]) (rest := [.int r_1, .ref q0]) C0 (g_X8_number l G S d r_2 ) ok_X8_number (mW196 : Cond.methodLink RX8 54 yX8_number ∈ wsT) ⟨Nat.le_of_ble_eq_true rfl, Nat.le_of_ble_eq_true rfl⟩ hP hD hK hN rfl hl.1 rfl (Nat.le_of_ble_eq_true rfl) ⟨Nat.le_of_ble_eq_true rfl, Nat.le_of_ble_eq_true rfl⟩ dX8_told_13 (fun r_3 hr_3 => ?_)
  refine ySri (As := [.int r_1, .int r_3]) (rest := [.ref q0]) C0 (g_X8_least l G S d r_1 r_3 ) ok_X8_least (mW199 : Cond.methodLink RX8 58 yX8_least ∈ wsT) ⟨Nat.le_of_ble_eq_true rfl, Nat.le_of_ble_eq_true rfl⟩ hP hD hK hN rfl hl.1 rfl (Nat.le_of_ble_eq_true rfl) ⟨Nat.le_of_ble_eq_true rfl, Nat.le_of_ble_eq_true rfl⟩ dX8_told_16 (fun r_4 hr_4 => ?_)
  refine yVwi (As := [.int r_4]) (rest := []) C0 (g_X8_refused l G S d q0 r_4 hSh hPo hm_q0 hk_q0) ok_X8_refused (mW160 : Cond.methodLink RX8 42 yX8_refused ∈ wsT) ⟨Nat.le_of_ble_eq_true rfl, Nat.le_of_ble_eq_true rfl⟩ hP hD hS hA hK hN hm_q0 hk_q0 (by decide) rfl rfl rfl hl.1 rfl (Nat.le_of_ble_eq_true rfl) ⟨Nat.le_of_ble_eq_true rfl, Nat.le_of_ble_eq_true rfl⟩ dX8_told_19 (fun r_5 d_6 H locs hr_5 hP hD hS => ?_)
  obtain ⟨hgad_6, hpad_6, hxd_6⟩ := hr_5
  have hgd_6 : yAg S [5, 8, 24] d d_6 := yAg.tr hg0 hgad_6 (by first | decide | exact fun _ h => h)
  have hPod_6 : yPo S d_6 := hpad_6 hPo
  refine lv_if_eq (tgt := 27) hx hb dX8_told_22 (by decide) (fun c_7 => ?_) (fun c_7 => ?_)
  · refine lv_aload_n hx hb dX8_told_27 rfl (lv_at hl 0 rfl) ?_
    refine yget (ci := 8) (k := 2) (v := .ref (S.2.2.1 q0 2)) (C := RX8) (T := TX8) (N := 6) C0 hK hP hm_q0 hk_q0 (by decide) rfl inlX8 (by decide) mW21 (fun _ h9 => h9) rfl dX8_told_28 ?_
    obtain ⟨hmy_8, hky_8⟩ := ySh.f8_2 hSh _ hm_q0 hk_q0
    refine lv_iload_n hx hb dX8_told_31 rfl (lv_at hl 1 rfl) ?_
    refine yVrr (As := [.int p0]) (rest := []) C0 (g_X3_stayAt l G S d_6 (S.2.2.1 q0 2) p0 hSh hmy_8 hky_8) ok_X3_stayAt (mW570 : Cond.methodLink RX8 214 yX3_stayAt ∈ wsT) ⟨Nat.le_of_ble_eq_true rfl, Nat.le_of_ble_eq_true rfl⟩ hP hD hK hN hmy_8 hky_8 (by decide) rfl rfl rfl hl.1 rfl (Nat.le_of_ble_eq_true rfl) ⟨Nat.le_of_ble_eq_true rfl, Nat.le_of_ble_eq_true rfl⟩ dX8_told_32 (fun r_9 hr_9 => ?_)
    obtain ⟨hmr_9, hkr_9⟩ := hr_9
    refine lv_astore_n (lv' := [(3, .ref r_9), (0, .ref q0), (1, .int p0), (2, .int p1)]) hx hb dX8_told_35 rfl hl (by decide) rfl (fun ls hl => ?_)
    refine lv_aload_n hx hb dX8_told_36 rfl (lv_at hl 0 rfl) ?_
    refine lv_aload_n hx hb dX8_told_37 rfl (lv_at hl 1 rfl) ?_
    refine yget (ci := 8) (k := 0) (v := .ref (S.2.2.1 q0 0)) (C := RX8) (T := TX8) (N := 6) C0 hK hP hm_q0 hk_q0 (by decide) rfl inlX8 (by decide) mW16 (fun _ h9 => h9) rfl dX8_told_38 ?_
    obtain ⟨hmy_10, hky_10⟩ := ySh.f8_0 hSh _ hm_q0 hk_q0
    refine lv_iload_n hx hb dX8_told_41 rfl (lv_at hl 2 rfl) ?_
    refine yVwv (As := [.ref (S.2.2.1 q0 0), .int p0]) (rest := []) C0 (g_X5_read l G S d_6 r_9 (S.2.2.1 q0 0) p0 hSh hPod_6 hmr_9 hkr_9 hmy_10 hky_10) ok_X5_read (mW574 : Cond.methodLink RX8 218 yX5_read ∈ wsT) ⟨Nat.le_of_ble_eq_true rfl, Nat.le_of_ble_eq_true rfl⟩ hP hD hS hA hK hN hmr_9 hkr_9 (by decide) rfl rfl rfl hl.1 rfl (Nat.le_of_ble_eq_true rfl) ⟨Nat.le_of_ble_eq_true rfl, Nat.le_of_ble_eq_true rfl⟩ dX8_told_42 (fun d_12 H locs hr_11 hP hD hS => ?_)
    obtain ⟨hgad_12, hpad_12, hxd_12⟩ := hr_11
    have hgd_12 : yAg S [5, 8, 24] d d_12 := yAg.tr hgd_6 hgad_12 (by first | decide | exact fun _ h => h)
    have hPod_12 : yPo S d_12 := hpad_12 hPod_6
    refine lv_iload_n hx hb dX8_told_45 rfl (lv_at hl 3 rfl) ?_
    rcases xtab p1 7 (by decide) with hsw_13 | ⟨k_14, hk_14, hsw_13⟩
    · refine lv_tableOut (tgt := 159) hx hb dX8_told_46 (by omega) (by decide) ?_
      refine lv_aload_n hx hb dX8_told_159 rfl (lv_at hl 1 rfl) ?_
      refine yget (ci := 8) (k := 0) (v := .ref (S.2.2.1 q0 0)) (C := RX8) (T := TX8) (N := 6) C0 hK hP hm_q0 hk_q0 (by decide) rfl inlX8 (by decide) mW16 (fun _ h9 => h9) rfl dX8_told_160 ?_
      refine lv_iload_n hx hb dX8_told_163 rfl (lv_at hl 2 rfl) ?_
      refine yVrr (As := [.int p0]) (rest := []) C0 (g_X0_portAt l G S d_12 (S.2.2.1 q0 0) p0 hSh hmy_10 hky_10) ok_X0_portAt (mW337 : Cond.methodLink RX8 114 yX0_portAt ∈ wsT) ⟨Nat.le_of_ble_eq_true rfl, Nat.le_of_ble_eq_true rfl⟩ hP hD hK hN hmy_10 hky_10 (by decide) rfl rfl rfl hl.1 rfl (Nat.le_of_ble_eq_true rfl) ⟨Nat.le_of_ble_eq_true rfl, Nat.le_of_ble_eq_true rfl⟩ dX8_told_164 (fun r_15 hr_15 => ?_)
      obtain ⟨hmr_15, hkr_15, her_15⟩ := hr_15
      refine yget (ci := 4) (k := 3) (v := .int (d_12.1 r_15 3)) (C := RX4) (T := TX4) (N := 11) C0 hK hP hmr_15 hkr_15 (by decide) rfl inlX4 (by decide) mW569 (fun _ h9 => h9) rfl dX8_told_167 ?_
      refine lv_topi (fun z_16 ez_16 => ?_)
      exact W.iret (v := z_16) hx hb hr (fun t ht hW => ⟨⟨z_16, d_12, rfl, ⟨hgd_12, (fun _ => hPod_12), ((congrFun (hgad_12 q0 (by rw [hk_q0]; decide)).1 4).trans (hxd_6.2))⟩, by rw [ht]; exact hP, hD⟩, hS.F ht⟩) hS.2.2 dX8_told_170
    · obtain rfl | rfl | rfl | rfl | rfl | rfl | rfl : k_14 = 0 ∨ k_14 = 1 ∨ k_14 = 2 ∨ k_14 = 3 ∨ k_14 = 4 ∨ k_14 = 5 ∨ k_14 = 6 := by omega
      · subst hsw_13
        refine lv_tableIn (tgt := 88) (off := 42) hx hb dX8_told_46 (by decide +kernel) (by decide +kernel) (by decide +kernel) (by decide) ?_
        refine lv_aload_n hx hb dX8_told_88 rfl (lv_at hl 0 rfl) ?_
        refine yget (ci := 5) (k := 0) (v := .int (d_12.1 r_9 0)) (C := RX5) (T := TX5) (N := 7) C0 hK hP hmr_9 hkr_9 (by decide) rfl inlX5 (by decide) mW564 (fun _ h9 => h9) rfl dX8_told_89 ?_
        refine lv_topi (fun z_17 ez_17 => ?_)
        exact W.iret (v := z_17) hx hb hr (fun t ht hW => ⟨⟨z_17, d_12, rfl, ⟨hgd_12, (fun _ => hPod_12), ((congrFun (hgad_12 q0 (by rw [hk_q0]; decide)).1 4).trans (hxd_6.2))⟩, by rw [ht]; exact hP, hD⟩, hS.F ht⟩) hS.2.2 dX8_told_92
      · subst hsw_13
        refine lv_tableIn (tgt := 93) (off := 47) hx hb dX8_told_46 (by decide +kernel) (by decide +kernel) (by decide +kernel) (by decide) ?_
        refine lv_aload_n hx hb dX8_told_93 rfl (lv_at hl 0 rfl) ?_
        refine yget (ci := 5) (k := 1) (v := .int (d_12.1 r_9 1)) (C := RX5) (T := TX5) (N := 7) C0 hK hP hmr_9 hkr_9 (by decide) rfl inlX5 (by decide) mW565 (fun _ h9 => h9) rfl dX8_told_94 ?_
        refine lv_topi (fun z_18 ez_18 => ?_)
        exact W.iret (v := z_18) hx hb hr (fun t ht hW => ⟨⟨z_18, d_12, rfl, ⟨hgd_12, (fun _ => hPod_12), ((congrFun (hgad_12 q0 (by rw [hk_q0]; decide)).1 4).trans (hxd_6.2))⟩, by rw [ht]; exact hP, hD⟩, hS.F ht⟩) hS.2.2 dX8_told_97
      · subst hsw_13
        refine lv_tableIn (tgt := 98) (off := 52) hx hb dX8_told_46 (by decide +kernel) (by decide +kernel) (by decide +kernel) (by decide) ?_
        refine lv_aload_n hx hb dX8_told_98 rfl (lv_at hl 0 rfl) ?_
        refine yget (ci := 5) (k := 5) (v := .int (d_12.1 r_9 5)) (C := RX5) (T := TX5) (N := 7) C0 hK hP hmr_9 hkr_9 (by decide) rfl inlX5 (by decide) mW566 (fun _ h9 => h9) rfl dX8_told_99 ?_
        refine lv_topi (fun z_19 ez_19 => ?_)
        have hzz_19 : z_19 = 0 ∨ z_19 = 1 := by rw [ez_19]; exact yPo.b hPod_12 hmr_9 hkr_9 rfl
        refine lv_if_eq (tgt := 112) hx hb dX8_told_102 (by decide) (fun c_20 => ?_) (fun c_20 => ?_)
        · refine lv_iconst (v := (-1)) hx hb dX8_told_112 (by decide) ?_
          exact W.iret (v := (-1)) hx hb hr (fun t ht hW => ⟨⟨(-1), d_12, rfl, ⟨hgd_12, (fun _ => hPod_12), ((congrFun (hgad_12 q0 (by rw [hk_q0]; decide)).1 4).trans (hxd_6.2))⟩, by rw [ht]; exact hP, hD⟩, hS.F ht⟩) hS.2.2 dX8_told_113
        · refine lv_aload_n hx hb dX8_told_105 rfl (lv_at hl 0 rfl) ?_
          refine yget (ci := 5) (k := 3) (v := .int (d_12.1 r_9 3)) (C := RX5) (T := TX5) (N := 7) C0 hK hP hmr_9 hkr_9 (by decide) rfl inlX5 (by decide) mW567 (fun _ h9 => h9) rfl dX8_told_106 ?_
          refine lv_topi (fun z_21 ez_21 => ?_)
          refine lv_goto (tgt := 113) hx hb dX8_told_109 (by decide) ?_
          exact W.iret (v := z_21) hx hb hr (fun t ht hW => ⟨⟨z_21, d_12, rfl, ⟨hgd_12, (fun _ => hPod_12), ((congrFun (hgad_12 q0 (by rw [hk_q0]; decide)).1 4).trans (hxd_6.2))⟩, by rw [ht]; exact hP, hD⟩, hS.F ht⟩) hS.2.2 dX8_told_113
      · subst hsw_13
        refine lv_tableIn (tgt := 114) (off := 68) hx hb dX8_told_46 (by decide +kernel) (by decide +kernel) (by decide +kernel) (by decide) ?_
        refine lv_aload_n hx hb dX8_told_114 rfl (lv_at hl 0 rfl) ?_
        refine yget (ci := 5) (k := 4) (v := .long (d_12.2.1 r_9 4)) (C := RX5) (T := TX5) (N := 7) C0 hK hP hmr_9 hkr_9 (by decide) rfl inlX5 (by decide) mW568 (fun _ h9 => h9) rfl dX8_told_115 ?_
        refine lv_topl (fun z_22 ez_22 => ?_)
        refine lv_l2i hx hb dX8_told_118 rfl ?_
        refine lv_topi (fun z_23 ez_23 => ?_)
        exact W.iret (v := z_23) hx hb hr (fun t ht hW => ⟨⟨z_23, d_12, rfl, ⟨hgd_12, (fun _ => hPod_12), ((congrFun (hgad_12 q0 (by rw [hk_q0]; decide)).1 4).trans (hxd_6.2))⟩, by rw [ht]; exact hP, hD⟩, hS.F ht⟩) hS.2.2 dX8_told_119
      · subst hsw_13
        refine lv_tableIn (tgt := 120) (off := 74) hx hb dX8_told_46 (by decide +kernel) (by decide +kernel) (by decide +kernel) (by decide) ?_
        refine lv_aload_n hx hb dX8_told_120 rfl (lv_at hl 1 rfl) ?_
        refine yget (ci := 8) (k := 0) (v := .ref (S.2.2.1 q0 0)) (C := RX8) (T := TX8) (N := 6) C0 hK hP hm_q0 hk_q0 (by decide) rfl inlX8 (by decide) mW16 (fun _ h9 => h9) rfl dX8_told_121 ?_
        refine lv_iload_n hx hb dX8_told_124 rfl (lv_at hl 2 rfl) ?_
        refine yVrr (As := [.int p0]) (rest := []) C0 (g_X0_portAt l G S d_12 (S.2.2.1 q0 0) p0 hSh hmy_10 hky_10) ok_X0_portAt (mW337 : Cond.methodLink RX8 114 yX0_portAt ∈ wsT) ⟨Nat.le_of_ble_eq_true rfl, Nat.le_of_ble_eq_true rfl⟩ hP hD hK hN hmy_10 hky_10 (by decide) rfl rfl rfl hl.1 rfl (Nat.le_of_ble_eq_true rfl) ⟨Nat.le_of_ble_eq_true rfl, Nat.le_of_ble_eq_true rfl⟩ dX8_told_125 (fun r_24 hr_24 => ?_)
        obtain ⟨hmr_24, hkr_24, her_24⟩ := hr_24
        refine yget (ci := 4) (k := 2) (v := .int (d_12.1 r_24 2)) (C := RX4) (T := TX4) (N := 11) C0 hK hP hmr_24 hkr_24 (by decide) rfl inlX4 (by decide) mW378 (fun _ h9 => h9) rfl dX8_told_128 ?_
        refine lv_topi (fun z_25 ez_25 => ?_)
        exact W.iret (v := z_25) hx hb hr (fun t ht hW => ⟨⟨z_25, d_12, rfl, ⟨hgd_12, (fun _ => hPod_12), ((congrFun (hgad_12 q0 (by rw [hk_q0]; decide)).1 4).trans (hxd_6.2))⟩, by rw [ht]; exact hP, hD⟩, hS.F ht⟩) hS.2.2 dX8_told_131
      · subst hsw_13
        refine lv_tableIn (tgt := 132) (off := 86) hx hb dX8_told_46 (by decide +kernel) (by decide +kernel) (by decide +kernel) (by decide) ?_
        refine lv_aload_n hx hb dX8_told_132 rfl (lv_at hl 1 rfl) ?_
        refine yget (ci := 8) (k := 0) (v := .ref (S.2.2.1 q0 0)) (C := RX8) (T := TX8) (N := 6) C0 hK hP hm_q0 hk_q0 (by decide) rfl inlX8 (by decide) mW16 (fun _ h9 => h9) rfl dX8_told_133 ?_
        refine yget (ci := 0) (k := 1) (v := .ref (S.2.2.1 (S.2.2.1 q0 0) 1)) (C := RX0) (T := TX0) (N := 6) C0 hK hP hmy_10 hky_10 (by decide) rfl inlX0 (by decide) mW316 (fun _ h9 => h9) rfl dX8_told_136 ?_
        obtain ⟨hmy_26, hky_26⟩ := ySh.f0_1 hSh _ hmy_10 hky_10
        refine lv_iload_n hx hb dX8_told_139 rfl (lv_at hl 2 rfl) ?_
        refine lv_iconst (v := 0) hx hb dX8_told_140 (by decide) ?_
        refine lv_ldc (v := 129600) hx hb hown (htl (.constant RX8 240 (129600)) mW209) dX8_told_141 ?_
        refine yVri (As := [.int p0, .int 0, .int 129600]) (rest := []) C0 (g_X2_manyIn l G S d_12 (S.2.2.1 (S.2.2.1 q0 0) 1) p0 0 129600 hSh hmy_26 hky_26) ok_X2_manyIn (mW474 : Cond.methodLink RX8 241 yX2_manyIn ∈ wsT) ⟨Nat.le_of_ble_eq_true rfl, Nat.le_of_ble_eq_true rfl⟩ hP hD hK hN hmy_26 hky_26 (by decide) rfl rfl rfl hl.1 rfl (Nat.le_of_ble_eq_true rfl) ⟨Nat.le_of_ble_eq_true rfl, Nat.le_of_ble_eq_true rfl⟩ dX8_told_143 (fun r_27 hr_27 => ?_)
        exact W.iret (v := r_27) hx hb hr (fun t ht hW => ⟨⟨r_27, d_12, rfl, ⟨hgd_12, (fun _ => hPod_12), ((congrFun (hgad_12 q0 (by rw [hk_q0]; decide)).1 4).trans (hxd_6.2))⟩, by rw [ht]; exact hP, hD⟩, hS.F ht⟩) hS.2.2 dX8_told_146
      · subst hsw_13
        refine lv_tableIn (tgt := 147) (off := 101) hx hb dX8_told_46 (by decide +kernel) (by decide +kernel) (by decide +kernel) (by decide) ?_
        refine lv_aload_n hx hb dX8_told_147 rfl (lv_at hl 1 rfl) ?_
        refine yget (ci := 8) (k := 0) (v := .ref (S.2.2.1 q0 0)) (C := RX8) (T := TX8) (N := 6) C0 hK hP hm_q0 hk_q0 (by decide) rfl inlX8 (by decide) mW16 (fun _ h9 => h9) rfl dX8_told_148 ?_
        refine lv_iload_n hx hb dX8_told_151 rfl (lv_at hl 2 rfl) ?_
        refine yVrr (As := [.int p0]) (rest := []) C0 (g_X0_portAt l G S d_12 (S.2.2.1 q0 0) p0 hSh hmy_10 hky_10) ok_X0_portAt (mW337 : Cond.methodLink RX8 114 yX0_portAt ∈ wsT) ⟨Nat.le_of_ble_eq_true rfl, Nat.le_of_ble_eq_true rfl⟩ hP hD hK hN hmy_10 hky_10 (by decide) rfl rfl rfl hl.1 rfl (Nat.le_of_ble_eq_true rfl) ⟨Nat.le_of_ble_eq_true rfl, Nat.le_of_ble_eq_true rfl⟩ dX8_told_152 (fun r_28 hr_28 => ?_)
        obtain ⟨hmr_28, hkr_28, her_28⟩ := hr_28
        refine yVri (As := []) (rest := []) C0 (g_X4_unknownMinutes l G S d_12 r_28 hSh hmr_28 hkr_28) ok_X4_unknownMinutes (mW619 : Cond.methodLink RX8 244 yX4_unknownMinutes ∈ wsT) ⟨Nat.le_of_ble_eq_true rfl, Nat.le_of_ble_eq_true rfl⟩ hP hD hK hN hmr_28 hkr_28 (by decide) rfl rfl rfl hl.1 rfl (Nat.le_of_ble_eq_true rfl) ⟨Nat.le_of_ble_eq_true rfl, Nat.le_of_ble_eq_true rfl⟩ dX8_told_155 (fun r_29 hr_29 => ?_)
        exact W.iret (v := r_29) hx hb hr (fun t ht hW => ⟨⟨r_29, d_12, rfl, ⟨hgd_12, (fun _ => hPod_12), ((congrFun (hgad_12 q0 (by rw [hk_q0]; decide)).1 4).trans (hxd_6.2))⟩, by rw [ht]; exact hP, hD⟩, hS.F ht⟩) hS.2.2 dX8_told_158
  · refine lv_iconst (v := (-1)) hx hb dX8_told_25 (by decide) ?_
    exact W.iret (v := (-1)) hx hb hr (fun t ht hW => ⟨⟨(-1), d_6, rfl, ⟨hgd_6, (fun _ => hPod_6), (hxd_6.2)⟩, by rw [ht]; exact hP, hD⟩, hS.F ht⟩) hS.2.2 dX8_told_26
theorem dX8_state_0 : decode cX8_state 0 = .ok (.aload_n 0, 1) := by decide +kernel
theorem dX8_state_1 : decode cX8_state 1 = .ok (.iload_n 1, 1) := by decide +kernel
theorem dX8_state_2 : decode cX8_state 2 = .ok (.iload_n 2, 1) := by decide +kernel
theorem dX8_state_3 : decode cX8_state 3 = .ok (.invokevirtual 130, 3) := by decide +kernel
theorem dX8_state_6 : decode cX8_state 6 = .ok (.istore_n 3, 1) := by decide +kernel
theorem dX8_state_7 : decode cX8_state 7 = .ok (.iload_n 3, 1) := by decide +kernel
theorem dX8_state_8 : decode cX8_state 8 = .ok (.ifCond .ne 20, 3) := by decide +kernel
theorem dX8_state_11 : decode cX8_state 11 = .ok (.aload_n 0, 1) := by decide +kernel
theorem dX8_state_12 : decode cX8_state 12 = .ok (.getfield 12, 3) := by decide +kernel
theorem dX8_state_15 : decode cX8_state 15 = .ok (.iload_n 1, 1) := by decide +kernel
theorem dX8_state_16 : decode cX8_state 16 = .ok (.invokevirtual 114, 3) := by decide +kernel
theorem dX8_state_19 : decode cX8_state 19 = .ok (.iload_n 2, 1) := by decide +kernel
theorem dX8_state_20 : decode cX8_state 20 = .ok (.invokevirtual 133, 3) := by decide +kernel
theorem dX8_state_23 : decode cX8_state 23 = .ok (.ifCond .ne 5, 3) := by decide +kernel
theorem dX8_state_26 : decode cX8_state 26 = .ok (.iconst 2, 1) := by decide +kernel
theorem dX8_state_27 : decode cX8_state 27 = .ok (.istore_n 3, 1) := by decide +kernel
theorem dX8_state_28 : decode cX8_state 28 = .ok (.aload_n 0, 1) := by decide +kernel
theorem dX8_state_29 : decode cX8_state 29 = .ok (.iload_n 3, 1) := by decide +kernel
theorem dX8_state_30 : decode cX8_state 30 = .ok (.invokevirtual 42, 3) := by decide +kernel
theorem dX8_state_33 : decode cX8_state 33 = .ok (.ifCond .eq 5, 3) := by decide +kernel
theorem dX8_state_36 : decode cX8_state 36 = .ok (.iconst (-1), 1) := by decide +kernel
theorem dX8_state_37 : decode cX8_state 37 = .ok (.ireturn, 1) := by decide +kernel
theorem dX8_state_38 : decode cX8_state 38 = .ok (.aload_n 0, 1) := by decide +kernel
theorem dX8_state_39 : decode cX8_state 39 = .ok (.getfield 12, 3) := by decide +kernel
theorem dX8_state_42 : decode cX8_state 42 = .ok (.getfield 136, 3) := by decide +kernel
theorem dX8_state_45 : decode cX8_state 45 = .ok (.iload_n 1, 1) := by decide +kernel
theorem dX8_state_46 : decode cX8_state 46 = .ok (.iload_n 2, 1) := by decide +kernel
theorem dX8_state_47 : decode cX8_state 47 = .ok (.invokevirtual 255, 3) := by decide +kernel
theorem dX8_state_50 : decode cX8_state 50 = .ok (.ireturn, 1) := by decide +kernel
set_option maxHeartbeats 4000000 in
set_option maxRecDepth 100000 in
theorem g_X8_state (l : Launch) (G : xG) (S : yS) (d : yD) (q0 : Nat) (p0 : Int32) (p1 : Int32) (hSh : ySh S) (hPo : yPo S d) (hm_q0 : q0 ∈ S.1) (hk_q0 : S.2.1 q0 = 8) : xWi l G yX8_state cX8_state 4 (some .int) 3 73 0 0 [.ref q0, .int p0, .int p1] (yW G S d) (fun r (u : yD) => yAg S [8, 24] d u ∧ (yPo S d → yPo S u) ∧ (u.1 q0 4 = d.1 q0 4)) (fun u => yW G S u) := by
  intro sz
  refine xstart (by decide) (Nat.le_of_ble_eq_true rfl) (fun p e s m args below meth c ls C0 hr hlocks hin hsz hP hK hD hN hl => ?_)
  obtain ⟨hx, hb, hml, hown, htl⟩ := id C0
  subst hsz
  have hD := hD.self (sz := s.heap.size)
  generalize hAe : va_A (yW G S d) s.heap.size = A at hD ⊢
  have hA : ∀ q : Nat, s.heap.size ≤ q → A q := fun q h => by rw [← hAe]; exact Or.inr h
  have hS : va_S A s.heap s.heap [] := va_S.rf
  have hg0 : yAg S [8, 24] d d := yAg.rf
  have hl : lv_has ls 4 [(0, .ref q0), (1, .int p0), (2, .int p1)] := hl
  refine lv_aload_n hx hb dX8_state_0 rfl (lv_at hl 0 rfl) ?_
  refine lv_iload_n hx hb dX8_state_1 rfl (lv_at hl 1 rfl) ?_
  refine lv_iload_n hx hb dX8_state_2 rfl (lv_at hl 2 rfl) ?_
  refine yVri (As := [.int p0, .int p1]) (rest := []) C0 (g_X8_minuteReason l G S d q0 p0 p1 hSh hm_q0 hk_q0) ok_X8_minuteReason (mW400 : Cond.methodLink RX8 130 yX8_minuteReason ∈ wsT) ⟨Nat.le_of_ble_eq_true rfl, Nat.le_of_ble_eq_true rfl⟩ hP hD hK hN hm_q0 hk_q0 (by decide) rfl rfl rfl hl.1 rfl (Nat.le_of_ble_eq_true rfl) ⟨Nat.le_of_ble_eq_true rfl, Nat.le_of_ble_eq_true rfl⟩ dX8_state_3 (fun r_1 hr_1 => ?_)
  refine lv_istore_n (lv' := [(3, .int r_1), (0, .ref q0), (1, .int p0), (2, .int p1)]) hx hb dX8_state_6 rfl hl (by decide) rfl (fun ls hl => ?_)
  refine lv_iload_n hx hb dX8_state_7 rfl (lv_at hl 0 rfl) ?_
  refine yjoinR (σ := Int32) 28 (fun x ls st => st = [] ∧ lv_has ls 4 [(0, .ref q0), (1, .int p0), (2, .int p1), (3, .int x)]) (fun x ls st hI => ?_) (fun J28_2 => ?_)
  · obtain ⟨v_2, rfl⟩ : ∃ z, z = x := ⟨_, rfl⟩
    obtain ⟨rfl, hl⟩ := hI
    have hl : lv_has ls 4 [(0, .ref q0), (1, .int p0), (2, .int p1), (3, .int v_2)] := hl
    refine lv_aload_n hx hb dX8_state_28 rfl (lv_at hl 0 rfl) ?_
    refine lv_iload_n hx hb dX8_state_29 rfl (lv_at hl 3 rfl) ?_
    refine yVwi (As := [.int v_2]) (rest := []) C0 (g_X8_refused l G S d q0 v_2 hSh hPo hm_q0 hk_q0) ok_X8_refused (mW160 : Cond.methodLink RX8 42 yX8_refused ∈ wsT) ⟨Nat.le_of_ble_eq_true rfl, Nat.le_of_ble_eq_true rfl⟩ hP hD hS hA hK hN hm_q0 hk_q0 (by decide) rfl rfl rfl hl.1 rfl (Nat.le_of_ble_eq_true rfl) ⟨Nat.le_of_ble_eq_true rfl, Nat.le_of_ble_eq_true rfl⟩ dX8_state_30 (fun r_3 d_4 H locs hr_3 hP hD hS => ?_)
    obtain ⟨hgad_4, hpad_4, hxd_4⟩ := hr_3
    have hgd_4 : yAg S [8, 24] d d_4 := yAg.tr hg0 hgad_4 (by first | decide | exact fun _ h => h)
    have hPod_4 : yPo S d_4 := hpad_4 hPo
    refine lv_if_eq (tgt := 38) hx hb dX8_state_33 (by decide) (fun c_5 => ?_) (fun c_5 => ?_)
    · refine lv_aload_n hx hb dX8_state_38 rfl (lv_at hl 0 rfl) ?_
      refine yget (ci := 8) (k := 0) (v := .ref (S.2.2.1 q0 0)) (C := RX8) (T := TX8) (N := 6) C0 hK hP hm_q0 hk_q0 (by decide) rfl inlX8 (by decide) mW16 (fun _ h9 => h9) rfl dX8_state_39 ?_
      obtain ⟨hmy_6, hky_6⟩ := ySh.f8_0 hSh _ hm_q0 hk_q0
      refine yget (ci := 0) (k := 1) (v := .ref (S.2.2.1 (S.2.2.1 q0 0) 1)) (C := RX0) (T := TX0) (N := 6) C0 hK hP hmy_6 hky_6 (by decide) rfl inlX0 (by decide) mW316 (fun _ h9 => h9) rfl dX8_state_42 ?_
      obtain ⟨hmy_7, hky_7⟩ := ySh.f0_1 hSh _ hmy_6 hky_6
      refine lv_iload_n hx hb dX8_state_45 rfl (lv_at hl 1 rfl) ?_
      refine lv_iload_n hx hb dX8_state_46 rfl (lv_at hl 2 rfl) ?_
      refine yVri (As := [.int p0, .int p1]) (rest := []) C0 (g_X2_stateAt l G S d_4 (S.2.2.1 (S.2.2.1 q0 0) 1) p0 p1 hSh hmy_7 hky_7) ok_X2_stateAt (mW680 : Cond.methodLink RX8 255 yX2_stateAt ∈ wsT) ⟨Nat.le_of_ble_eq_true rfl, Nat.le_of_ble_eq_true rfl⟩ hP hD hK hN hmy_7 hky_7 (by decide) rfl rfl rfl hl.1 rfl (Nat.le_of_ble_eq_true rfl) ⟨Nat.le_of_ble_eq_true rfl, Nat.le_of_ble_eq_true rfl⟩ dX8_state_47 (fun r_8 hr_8 => ?_)
      exact W.iret (v := r_8) hx hb hr (fun t ht hW => ⟨⟨r_8, d_4, rfl, ⟨hgd_4, (fun _ => hPod_4), (hxd_4.2)⟩, by rw [ht]; exact hP, hD⟩, hS.F ht⟩) hS.2.2 dX8_state_50
    · refine lv_iconst (v := (-1)) hx hb dX8_state_36 (by decide) ?_
      exact W.iret (v := (-1)) hx hb hr (fun t ht hW => ⟨⟨(-1), d_4, rfl, ⟨hgd_4, (fun _ => hPod_4), (hxd_4.2)⟩, by rw [ht]; exact hP, hD⟩, hS.F ht⟩) hS.2.2 dX8_state_37
  refine lv_if_ne (tgt := 28) hx hb dX8_state_8 (by decide) (fun c_9 => ?_) (fun c_9 => ?_)
  · exact J28_2 r_1 ls _ ⟨rfl, lv_sub hl [1, 2, 3, 0] rfl⟩
  · refine lv_aload_n hx hb dX8_state_11 rfl (lv_at hl 1 rfl) ?_
    refine yget (ci := 8) (k := 0) (v := .ref (S.2.2.1 q0 0)) (C := RX8) (T := TX8) (N := 6) C0 hK hP hm_q0 hk_q0 (by decide) rfl inlX8 (by decide) mW16 (fun _ h9 => h9) rfl dX8_state_12 ?_
    obtain ⟨hmy_10, hky_10⟩ := ySh.f8_0 hSh _ hm_q0 hk_q0
    refine lv_iload_n hx hb dX8_state_15 rfl (lv_at hl 2 rfl) ?_
    refine yVrr (As := [.int p0]) (rest := []) C0 (g_X0_portAt l G S d (S.2.2.1 q0 0) p0 hSh hmy_10 hky_10) ok_X0_portAt (mW337 : Cond.methodLink RX8 114 yX0_portAt ∈ wsT) ⟨Nat.le_of_ble_eq_true rfl, Nat.le_of_ble_eq_true rfl⟩ hP hD hK hN hmy_10 hky_10 (by decide) rfl rfl rfl hl.1 rfl (Nat.le_of_ble_eq_true rfl) ⟨Nat.le_of_ble_eq_true rfl, Nat.le_of_ble_eq_true rfl⟩ dX8_state_16 (fun r_11 hr_11 => ?_)
    obtain ⟨hmr_11, hkr_11, her_11⟩ := hr_11
    refine lv_iload_n hx hb dX8_state_19 rfl (lv_at hl 3 rfl) ?_
    refine yVri (As := [.int p1]) (rest := []) C0 (g_X4_knows l G S d r_11 p1 hSh hmr_11 hkr_11) ok_X4_knows (mW409 : Cond.methodLink RX8 133 yX4_knows ∈ wsT) ⟨Nat.le_of_ble_eq_true rfl, Nat.le_of_ble_eq_true rfl⟩ hP hD hK hN hmr_11 hkr_11 (by decide) rfl rfl rfl hl.1 rfl (Nat.le_of_ble_eq_true rfl) ⟨Nat.le_of_ble_eq_true rfl, Nat.le_of_ble_eq_true rfl⟩ dX8_state_20 (fun r_12 hr_12 => ?_)
    refine lv_if_ne (tgt := 28) hx hb dX8_state_23 (by decide) (fun c_13 => ?_) (fun c_13 => ?_)
    · exact J28_2 r_1 ls _ ⟨rfl, lv_sub hl [1, 2, 3, 0] rfl⟩
    · refine lv_iconst (v := 2) hx hb dX8_state_26 (by decide) ?_
      refine lv_istore_n (lv' := [(3, .int 2), (0, .ref q0), (1, .int p0), (2, .int p1)]) hx hb dX8_state_27 rfl hl (by decide) rfl (fun ls hl => ?_)
      exact J28_2 2 ls _ ⟨rfl, lv_sub hl [1, 2, 3, 0] rfl⟩
theorem dX8_minute_0 : decode cX8_minute 0 = .ok (.aload_n 0, 1) := by decide +kernel
theorem dX8_minute_1 : decode cX8_minute 1 = .ok (.aload_n 0, 1) := by decide +kernel
theorem dX8_minute_2 : decode cX8_minute 2 = .ok (.iload_n 1, 1) := by decide +kernel
theorem dX8_minute_3 : decode cX8_minute 3 = .ok (.iload_n 2, 1) := by decide +kernel
theorem dX8_minute_4 : decode cX8_minute 4 = .ok (.invokevirtual 130, 3) := by decide +kernel
theorem dX8_minute_7 : decode cX8_minute 7 = .ok (.invokevirtual 42, 3) := by decide +kernel
theorem dX8_minute_10 : decode cX8_minute 10 = .ok (.ifCond .eq 5, 3) := by decide +kernel
theorem dX8_minute_13 : decode cX8_minute 13 = .ok (.iconst (-1), 1) := by decide +kernel
theorem dX8_minute_14 : decode cX8_minute 14 = .ok (.ireturn, 1) := by decide +kernel
theorem dX8_minute_15 : decode cX8_minute 15 = .ok (.aload_n 0, 1) := by decide +kernel
theorem dX8_minute_16 : decode cX8_minute 16 = .ok (.getfield 24, 3) := by decide +kernel
theorem dX8_minute_19 : decode cX8_minute 19 = .ok (.aload_n 0, 1) := by decide +kernel
theorem dX8_minute_20 : decode cX8_minute 20 = .ok (.getfield 12, 3) := by decide +kernel
theorem dX8_minute_23 : decode cX8_minute 23 = .ok (.iload_n 1, 1) := by decide +kernel
theorem dX8_minute_24 : decode cX8_minute 24 = .ok (.invokevirtual 258, 3) := by decide +kernel
theorem dX8_minute_27 : decode cX8_minute 27 = .ok (.iload_n 3, 1) := by decide +kernel
theorem dX8_minute_28 : decode cX8_minute 28 = .ok (.invokevirtual 261, 3) := by decide +kernel
theorem dX8_minute_31 : decode cX8_minute 31 = .ok (.aload_n 0, 1) := by decide +kernel
theorem dX8_minute_32 : decode cX8_minute 32 = .ok (.getfield 24, 3) := by decide +kernel
theorem dX8_minute_35 : decode cX8_minute 35 = .ok (.iload_n 1, 1) := by decide +kernel
theorem dX8_minute_36 : decode cX8_minute 36 = .ok (.iload_n 2, 1) := by decide +kernel
theorem dX8_minute_37 : decode cX8_minute 37 = .ok (.iload_n 2, 1) := by decide +kernel
theorem dX8_minute_38 : decode cX8_minute 38 = .ok (.iconst 1, 1) := by decide +kernel
theorem dX8_minute_39 : decode cX8_minute 39 = .ok (.iadd, 1) := by decide +kernel
theorem dX8_minute_40 : decode cX8_minute 40 = .ok (.invokevirtual 264, 3) := by decide +kernel
theorem dX8_minute_43 : decode cX8_minute 43 = .ok (.astore 4, 2) := by decide +kernel
theorem dX8_minute_45 : decode cX8_minute 45 = .ok (.aload 4, 2) := by decide +kernel
theorem dX8_minute_47 : decode cX8_minute 47 = .ok (.invokevirtual 268, 3) := by decide +kernel
theorem dX8_minute_50 : decode cX8_minute 50 = .ok (.ifCond .ne 5, 3) := by decide +kernel
theorem dX8_minute_53 : decode cX8_minute 53 = .ok (.iconst (-1), 1) := by decide +kernel
theorem dX8_minute_54 : decode cX8_minute 54 = .ok (.ireturn, 1) := by decide +kernel
theorem dX8_minute_55 : decode cX8_minute 55 = .ok (.aload 4, 2) := by decide +kernel
theorem dX8_minute_57 : decode cX8_minute 57 = .ok (.getfield 274, 3) := by decide +kernel
theorem dX8_minute_60 : decode cX8_minute 60 = .ok (.bipush (-3), 2) := by decide +kernel
theorem dX8_minute_62 : decode cX8_minute 62 = .ok (.if_icmp .ne 7, 3) := by decide +kernel
theorem dX8_minute_65 : decode cX8_minute 65 = .ok (.iconst 3, 1) := by decide +kernel
theorem dX8_minute_66 : decode cX8_minute 66 = .ok (.goto 8, 3) := by decide +kernel
theorem dX8_minute_69 : decode cX8_minute 69 = .ok (.aload 4, 2) := by decide +kernel
theorem dX8_minute_71 : decode cX8_minute 71 = .ok (.getfield 277, 3) := by decide +kernel
theorem dX8_minute_74 : decode cX8_minute 74 = .ok (.ireturn, 1) := by decide +kernel
set_option maxHeartbeats 4000000 in
set_option maxRecDepth 100000 in
theorem g_X8_minute (l : Launch) (G : xG) (S : yS) (d : yD) (q0 : Nat) (p0 : Int32) (p1 : Int32) (p2 : Int32) (hSh : ySh S) (hPo : yPo S d) (hm_q0 : q0 ∈ S.1) (hk_q0 : S.2.1 q0 = 8) (hz_p2 : p2 = 0 ∨ p2 = 1) : xWi l G yX8_minute cX8_minute 5 (some .int) 7 173 0 0 [.ref q0, .int p0, .int p1, .int p2] (yW G S d) (fun r (u : yD) => yAg S [3, 5, 7, 8, 22, 23, 24] d u ∧ (yPo S d → yPo S u) ∧ (u.1 q0 4 = d.1 q0 4)) (fun u => yW G S u) := by
  intro sz
  refine xstart (by decide) (Nat.le_of_ble_eq_true rfl) (fun p e s m args below meth c ls C0 hr hlocks hin hsz hP hK hD hN hl => ?_)
  obtain ⟨hx, hb, hml, hown, htl⟩ := id C0
  subst hsz
  have hD := hD.self (sz := s.heap.size)
  generalize hAe : va_A (yW G S d) s.heap.size = A at hD ⊢
  have hA : ∀ q : Nat, s.heap.size ≤ q → A q := fun q h => by rw [← hAe]; exact Or.inr h
  have hS : va_S A s.heap s.heap [] := va_S.rf
  have hg0 : yAg S [3, 5, 7, 8, 22, 23, 24] d d := yAg.rf
  have hl : lv_has ls 5 [(0, .ref q0), (1, .int p0), (2, .int p1), (3, .int p2)] := hl
  refine lv_aload_n hx hb dX8_minute_0 rfl (lv_at hl 0 rfl) ?_
  refine lv_aload_n hx hb dX8_minute_1 rfl (lv_at hl 0 rfl) ?_
  refine lv_iload_n hx hb dX8_minute_2 rfl (lv_at hl 1 rfl) ?_
  refine lv_iload_n hx hb dX8_minute_3 rfl (lv_at hl 2 rfl) ?_
  refine yVri (As := [.int p0, .int p1]) (rest := [.ref q0]) C0 (g_X8_minuteReason l G S d q0 p0 p1 hSh hm_q0 hk_q0) ok_X8_minuteReason (mW400 : Cond.methodLink RX8 130 yX8_minuteReason ∈ wsT) ⟨Nat.le_of_ble_eq_true rfl, Nat.le_of_ble_eq_true rfl⟩ hP hD hK hN hm_q0 hk_q0 (by decide) rfl rfl rfl hl.1 rfl (Nat.le_of_ble_eq_true rfl) ⟨Nat.le_of_ble_eq_true rfl, Nat.le_of_ble_eq_true rfl⟩ dX8_minute_4 (fun r_1 hr_1 => ?_)
  refine yVwi (As := [.int r_1]) (rest := []) C0 (g_X8_refused l G S d q0 r_1 hSh hPo hm_q0 hk_q0) ok_X8_refused (mW160 : Cond.methodLink RX8 42 yX8_refused ∈ wsT) ⟨Nat.le_of_ble_eq_true rfl, Nat.le_of_ble_eq_true rfl⟩ hP hD hS hA hK hN hm_q0 hk_q0 (by decide) rfl rfl rfl hl.1 rfl (Nat.le_of_ble_eq_true rfl) ⟨Nat.le_of_ble_eq_true rfl, Nat.le_of_ble_eq_true rfl⟩ dX8_minute_7 (fun r_2 d_3 H locs hr_2 hP hD hS => ?_)
  obtain ⟨hgad_3, hpad_3, hxd_3⟩ := hr_2
  have hgd_3 : yAg S [3, 5, 7, 8, 22, 23, 24] d d_3 := yAg.tr hg0 hgad_3 (by first | decide | exact fun _ h => h)
  have hPod_3 : yPo S d_3 := hpad_3 hPo
  refine lv_if_eq (tgt := 15) hx hb dX8_minute_10 (by decide) (fun c_4 => ?_) (fun c_4 => ?_)
  · refine lv_aload_n hx hb dX8_minute_15 rfl (lv_at hl 0 rfl) ?_
    refine yget (ci := 8) (k := 2) (v := .ref (S.2.2.1 q0 2)) (C := RX8) (T := TX8) (N := 6) C0 hK hP hm_q0 hk_q0 (by decide) rfl inlX8 (by decide) mW21 (fun _ h9 => h9) rfl dX8_minute_16 ?_
    obtain ⟨hmy_5, hky_5⟩ := ySh.f8_2 hSh _ hm_q0 hk_q0
    refine lv_aload_n hx hb dX8_minute_19 rfl (lv_at hl 0 rfl) ?_
    refine yget (ci := 8) (k := 0) (v := .ref (S.2.2.1 q0 0)) (C := RX8) (T := TX8) (N := 6) C0 hK hP hm_q0 hk_q0 (by decide) rfl inlX8 (by decide) mW16 (fun _ h9 => h9) rfl dX8_minute_20 ?_
    obtain ⟨hmy_6, hky_6⟩ := ySh.f8_0 hSh _ hm_q0 hk_q0
    refine lv_iload_n hx hb dX8_minute_23 rfl (lv_at hl 1 rfl) ?_
    refine yVri (As := [.int p0]) (rest := [.ref (S.2.2.1 q0 2)]) C0 (g_X0_groupOf l G S d_3 (S.2.2.1 q0 0) p0 hSh hmy_6 hky_6) ok_X0_groupOf (mW694 : Cond.methodLink RX8 258 yX0_groupOf ∈ wsT) ⟨Nat.le_of_ble_eq_true rfl, Nat.le_of_ble_eq_true rfl⟩ hP hD hK hN hmy_6 hky_6 (by decide) rfl rfl rfl hl.1 rfl (Nat.le_of_ble_eq_true rfl) ⟨Nat.le_of_ble_eq_true rfl, Nat.le_of_ble_eq_true rfl⟩ dX8_minute_24 (fun r_7 hr_7 => ?_)
    refine lv_iload_n hx hb dX8_minute_27 rfl (lv_at hl 3 rfl) ?_
    refine yVwv (As := [.int r_7, .int p2]) (rest := []) C0 (g_X3_read l G S d_3 (S.2.2.1 q0 2) r_7 p2 hSh hPod_3 hmy_5 hky_5 hz_p2) ok_X3_read (mW699 : Cond.methodLink RX8 261 yX3_read ∈ wsT) ⟨Nat.le_of_ble_eq_true rfl, Nat.le_of_ble_eq_true rfl⟩ hP hD hS hA hK hN hmy_5 hky_5 (by decide) rfl rfl rfl hl.1 rfl (Nat.le_of_ble_eq_true rfl) ⟨Nat.le_of_ble_eq_true rfl, Nat.le_of_ble_eq_true rfl⟩ dX8_minute_28 (fun d_9 H locs hr_8 hP hD hS => ?_)
    obtain ⟨hgad_9, hpad_9, hxd_9⟩ := hr_8
    have hgd_9 : yAg S [3, 5, 7, 8, 22, 23, 24] d d_9 := yAg.tr hgd_3 hgad_9 (by first | decide | exact fun _ h => h)
    have hPod_9 : yPo S d_9 := hpad_9 hPod_3
    refine lv_aload_n hx hb dX8_minute_31 rfl (lv_at hl 0 rfl) ?_
    refine yget (ci := 8) (k := 2) (v := .ref (S.2.2.1 q0 2)) (C := RX8) (T := TX8) (N := 6) C0 hK hP hm_q0 hk_q0 (by decide) rfl inlX8 (by decide) mW21 (fun _ h9 => h9) rfl dX8_minute_32 ?_
    refine lv_iload_n hx hb dX8_minute_35 rfl (lv_at hl 1 rfl) ?_
    refine lv_iload_n hx hb dX8_minute_36 rfl (lv_at hl 2 rfl) ?_
    refine lv_iload_n hx hb dX8_minute_37 rfl (lv_at hl 2 rfl) ?_
    refine lv_iconst (v := 1) hx hb dX8_minute_38 (by decide) ?_
    refine lv_iadd hx hb dX8_minute_39 ?_
    refine lv_topi (fun z_10 ez_10 => ?_)
    refine yVwr (As := [.int p0, .int p1, .int z_10]) (rest := []) C0 (g_X3_walkIn l G S d_9 (S.2.2.1 q0 2) p0 p1 z_10 hSh hPod_9 hmy_5 hky_5) ok_X3_walkIn (mW842 : Cond.methodLink RX8 264 yX3_walkIn ∈ wsT) ⟨Nat.le_of_ble_eq_true rfl, Nat.le_of_ble_eq_true rfl⟩ hP hD hS hA hK hN hmy_5 hky_5 (by decide) rfl rfl rfl hl.1 rfl (Nat.le_of_ble_eq_true rfl) ⟨Nat.le_of_ble_eq_true rfl, Nat.le_of_ble_eq_true rfl⟩ dX8_minute_40 (fun r_11 d_12 H locs hr_11 hP hD hS => ?_)
    obtain ⟨hgad_12, hpad_12, hxd_12⟩ := hr_11
    have hgd_12 : yAg S [3, 5, 7, 8, 22, 23, 24] d d_12 := yAg.tr hgd_9 hgad_12 (by first | decide | exact fun _ h => h)
    have hPod_12 : yPo S d_12 := hpad_12 hPod_9
    obtain ⟨hmr_11, hkr_11⟩ := hxd_12
    refine lv_astore (lv' := [(4, .ref r_11), (0, .ref q0), (1, .int p0), (2, .int p1), (3, .int p2)]) hx hb dX8_minute_43 hl (by decide) rfl (fun ls hl => ?_)
    refine lv_aload hx hb dX8_minute_45 (lv_at hl 0 rfl) ?_
    refine yVwi (As := []) (rest := []) C0 (g_X7_step l G S d_12 r_11 hSh hPod_12 hmr_11 hkr_11) ok_X7_step (mW851 : Cond.methodLink RX8 268 yX7_step ∈ wsT) ⟨Nat.le_of_ble_eq_true rfl, Nat.le_of_ble_eq_true rfl⟩ hP hD hS hA hK hN hmr_11 hkr_11 (by decide) rfl rfl rfl hl.1 rfl (Nat.le_of_ble_eq_true rfl) ⟨Nat.le_of_ble_eq_true rfl, Nat.le_of_ble_eq_true rfl⟩ dX8_minute_47 (fun r_13 d_14 H locs hr_13 hP hD hS => ?_)
    obtain ⟨hgad_14, hpad_14, hxd_14⟩ := hr_13
    have hgd_14 : yAg S [3, 5, 7, 8, 22, 23, 24] d d_14 := yAg.tr hgd_12 hgad_14 (by first | decide | exact fun _ h => h)
    have hPod_14 : yPo S d_14 := hpad_14 hPod_12
    refine lv_if_ne (tgt := 55) hx hb dX8_minute_50 (by decide) (fun c_15 => ?_) (fun c_15 => ?_)
    · refine lv_aload hx hb dX8_minute_55 (lv_at hl 0 rfl) ?_
      refine yget (ci := 7) (k := 17) (v := .int (d_14.1 r_11 17)) (C := RX7) (T := TX7) (N := 18) C0 hK hP hmr_11 hkr_11 (by decide) rfl inlX7 (by decide) mW692 (fun _ h9 => h9) rfl dX8_minute_57 ?_
      refine lv_topi (fun z_16 ez_16 => ?_)
      refine lv_bipush (v := (-3)) hx hb dX8_minute_60 (by decide) ?_
      refine lv_icmp_ne (tgt := 69) hx hb dX8_minute_62 (by decide) (fun c_17 => ?_) (fun c_17 => ?_)
      · refine lv_aload hx hb dX8_minute_69 (lv_at hl 0 rfl) ?_
        refine yget (ci := 7) (k := 16) (v := .int (d_14.1 r_11 16)) (C := RX7) (T := TX7) (N := 18) C0 hK hP hmr_11 hkr_11 (by decide) rfl inlX7 (by decide) mW693 (fun _ h9 => h9) rfl dX8_minute_71 ?_
        refine lv_topi (fun z_18 ez_18 => ?_)
        exact W.iret (v := z_18) hx hb hr (fun t ht hW => ⟨⟨z_18, d_14, rfl, ⟨hgd_14, (fun _ => hPod_14), ((congrFun (hgad_14 q0 (by rw [hk_q0]; decide)).1 4).trans ((congrFun (hgad_12 q0 (by rw [hk_q0]; decide)).1 4).trans ((congrFun (hgad_9 q0 (by rw [hk_q0]; decide)).1 4).trans (hxd_3.2))))⟩, by rw [ht]; exact hP, hD⟩, hS.F ht⟩) hS.2.2 dX8_minute_74
      · refine lv_iconst (v := 3) hx hb dX8_minute_65 (by decide) ?_
        refine lv_goto (tgt := 74) hx hb dX8_minute_66 (by decide) ?_
        exact W.iret (v := 3) hx hb hr (fun t ht hW => ⟨⟨3, d_14, rfl, ⟨hgd_14, (fun _ => hPod_14), ((congrFun (hgad_14 q0 (by rw [hk_q0]; decide)).1 4).trans ((congrFun (hgad_12 q0 (by rw [hk_q0]; decide)).1 4).trans ((congrFun (hgad_9 q0 (by rw [hk_q0]; decide)).1 4).trans (hxd_3.2))))⟩, by rw [ht]; exact hP, hD⟩, hS.F ht⟩) hS.2.2 dX8_minute_74
    · refine lv_iconst (v := (-1)) hx hb dX8_minute_53 (by decide) ?_
      exact W.iret (v := (-1)) hx hb hr (fun t ht hW => ⟨⟨(-1), d_14, rfl, ⟨hgd_14, (fun _ => hPod_14), ((congrFun (hgad_14 q0 (by rw [hk_q0]; decide)).1 4).trans ((congrFun (hgad_12 q0 (by rw [hk_q0]; decide)).1 4).trans ((congrFun (hgad_9 q0 (by rw [hk_q0]; decide)).1 4).trans (hxd_3.2))))⟩, by rw [ht]; exact hP, hD⟩, hS.F ht⟩) hS.2.2 dX8_minute_54
  · refine lv_iconst (v := (-1)) hx hb dX8_minute_13 (by decide) ?_
    exact W.iret (v := (-1)) hx hb hr (fun t ht hW => ⟨⟨(-1), d_3, rfl, ⟨hgd_3, (fun _ => hPod_3), (hxd_3.2)⟩, by rw [ht]; exact hP, hD⟩, hS.F ht⟩) hS.2.2 dX8_minute_14
theorem dX8_why_0 : decode cX8_why 0 = .ok (.aload_n 0, 1) := by decide +kernel
theorem dX8_why_1 : decode cX8_why 1 = .ok (.aload_n 0, 1) := by decide +kernel
theorem dX8_why_2 : decode cX8_why 2 = .ok (.iload_n 1, 1) := by decide +kernel
theorem dX8_why_3 : decode cX8_why 3 = .ok (.iload_n 2, 1) := by decide +kernel
theorem dX8_why_4 : decode cX8_why 4 = .ok (.invokevirtual 130, 3) := by decide +kernel
theorem dX8_why_7 : decode cX8_why 7 = .ok (.invokevirtual 42, 3) := by decide +kernel
theorem dX8_why_10 : decode cX8_why 10 = .ok (.ifCond .eq 5, 3) := by decide +kernel
theorem dX8_why_13 : decode cX8_why 13 = .ok (.iconst (-1), 1) := by decide +kernel
theorem dX8_why_14 : decode cX8_why 14 = .ok (.ireturn, 1) := by decide +kernel
theorem dX8_why_15 : decode cX8_why 15 = .ok (.aload_n 0, 1) := by decide +kernel
theorem dX8_why_16 : decode cX8_why 16 = .ok (.getfield 24, 3) := by decide +kernel
theorem dX8_why_19 : decode cX8_why 19 = .ok (.aload_n 0, 1) := by decide +kernel
theorem dX8_why_20 : decode cX8_why 20 = .ok (.getfield 12, 3) := by decide +kernel
theorem dX8_why_23 : decode cX8_why 23 = .ok (.iload_n 1, 1) := by decide +kernel
theorem dX8_why_24 : decode cX8_why 24 = .ok (.invokevirtual 258, 3) := by decide +kernel
theorem dX8_why_27 : decode cX8_why 27 = .ok (.iload_n 3, 1) := by decide +kernel
theorem dX8_why_28 : decode cX8_why 28 = .ok (.invokevirtual 261, 3) := by decide +kernel
theorem dX8_why_31 : decode cX8_why 31 = .ok (.aload_n 0, 1) := by decide +kernel
theorem dX8_why_32 : decode cX8_why 32 = .ok (.getfield 24, 3) := by decide +kernel
theorem dX8_why_35 : decode cX8_why 35 = .ok (.iload_n 1, 1) := by decide +kernel
theorem dX8_why_36 : decode cX8_why 36 = .ok (.iload_n 2, 1) := by decide +kernel
theorem dX8_why_37 : decode cX8_why 37 = .ok (.iload_n 2, 1) := by decide +kernel
theorem dX8_why_38 : decode cX8_why 38 = .ok (.iconst 1, 1) := by decide +kernel
theorem dX8_why_39 : decode cX8_why 39 = .ok (.iadd, 1) := by decide +kernel
theorem dX8_why_40 : decode cX8_why 40 = .ok (.invokevirtual 264, 3) := by decide +kernel
theorem dX8_why_43 : decode cX8_why 43 = .ok (.astore 4, 2) := by decide +kernel
theorem dX8_why_45 : decode cX8_why 45 = .ok (.aload 4, 2) := by decide +kernel
theorem dX8_why_47 : decode cX8_why 47 = .ok (.invokevirtual 268, 3) := by decide +kernel
theorem dX8_why_50 : decode cX8_why 50 = .ok (.ifCond .eq 11, 3) := by decide +kernel
theorem dX8_why_53 : decode cX8_why 53 = .ok (.aload 4, 2) := by decide +kernel
theorem dX8_why_55 : decode cX8_why 55 = .ok (.getfield 274, 3) := by decide +kernel
theorem dX8_why_58 : decode cX8_why 58 = .ok (.goto 4, 3) := by decide +kernel
theorem dX8_why_61 : decode cX8_why 61 = .ok (.iconst (-1), 1) := by decide +kernel
theorem dX8_why_62 : decode cX8_why 62 = .ok (.ireturn, 1) := by decide +kernel
set_option maxHeartbeats 4000000 in
set_option maxRecDepth 100000 in
theorem g_X8_why (l : Launch) (G : xG) (S : yS) (d : yD) (q0 : Nat) (p0 : Int32) (p1 : Int32) (p2 : Int32) (hSh : ySh S) (hPo : yPo S d) (hm_q0 : q0 ∈ S.1) (hk_q0 : S.2.1 q0 = 8) (hz_p2 : p2 = 0 ∨ p2 = 1) : xWi l G yX8_why cX8_why 5 (some .int) 7 173 0 0 [.ref q0, .int p0, .int p1, .int p2] (yW G S d) (fun r (u : yD) => yAg S [3, 5, 7, 8, 22, 23, 24] d u ∧ (yPo S d → yPo S u) ∧ (u.1 q0 4 = d.1 q0 4)) (fun u => yW G S u) := by
  intro sz
  refine xstart (by decide) (Nat.le_of_ble_eq_true rfl) (fun p e s m args below meth c ls C0 hr hlocks hin hsz hP hK hD hN hl => ?_)
  obtain ⟨hx, hb, hml, hown, htl⟩ := id C0
  subst hsz
  have hD := hD.self (sz := s.heap.size)
  generalize hAe : va_A (yW G S d) s.heap.size = A at hD ⊢
  have hA : ∀ q : Nat, s.heap.size ≤ q → A q := fun q h => by rw [← hAe]; exact Or.inr h
  have hS : va_S A s.heap s.heap [] := va_S.rf
  have hg0 : yAg S [3, 5, 7, 8, 22, 23, 24] d d := yAg.rf
  have hl : lv_has ls 5 [(0, .ref q0), (1, .int p0), (2, .int p1), (3, .int p2)] := hl
  refine lv_aload_n hx hb dX8_why_0 rfl (lv_at hl 0 rfl) ?_
  refine lv_aload_n hx hb dX8_why_1 rfl (lv_at hl 0 rfl) ?_
  refine lv_iload_n hx hb dX8_why_2 rfl (lv_at hl 1 rfl) ?_
  refine lv_iload_n hx hb dX8_why_3 rfl (lv_at hl 2 rfl) ?_
  refine yVri (As := [.int p0, .int p1]) (rest := [.ref q0]) C0 (g_X8_minuteReason l G S d q0 p0 p1 hSh hm_q0 hk_q0) ok_X8_minuteReason (mW400 : Cond.methodLink RX8 130 yX8_minuteReason ∈ wsT) ⟨Nat.le_of_ble_eq_true rfl, Nat.le_of_ble_eq_true rfl⟩ hP hD hK hN hm_q0 hk_q0 (by decide) rfl rfl rfl hl.1 rfl (Nat.le_of_ble_eq_true rfl) ⟨Nat.le_of_ble_eq_true rfl, Nat.le_of_ble_eq_true rfl⟩ dX8_why_4 (fun r_1 hr_1 => ?_)
  refine yVwi (As := [.int r_1]) (rest := []) C0 (g_X8_refused l G S d q0 r_1 hSh hPo hm_q0 hk_q0) ok_X8_refused (mW160 : Cond.methodLink RX8 42 yX8_refused ∈ wsT) ⟨Nat.le_of_ble_eq_true rfl, Nat.le_of_ble_eq_true rfl⟩ hP hD hS hA hK hN hm_q0 hk_q0 (by decide) rfl rfl rfl hl.1 rfl (Nat.le_of_ble_eq_true rfl) ⟨Nat.le_of_ble_eq_true rfl, Nat.le_of_ble_eq_true rfl⟩ dX8_why_7 (fun r_2 d_3 H locs hr_2 hP hD hS => ?_)
  obtain ⟨hgad_3, hpad_3, hxd_3⟩ := hr_2
  have hgd_3 : yAg S [3, 5, 7, 8, 22, 23, 24] d d_3 := yAg.tr hg0 hgad_3 (by first | decide | exact fun _ h => h)
  have hPod_3 : yPo S d_3 := hpad_3 hPo
  refine lv_if_eq (tgt := 15) hx hb dX8_why_10 (by decide) (fun c_4 => ?_) (fun c_4 => ?_)
  · refine lv_aload_n hx hb dX8_why_15 rfl (lv_at hl 0 rfl) ?_
    refine yget (ci := 8) (k := 2) (v := .ref (S.2.2.1 q0 2)) (C := RX8) (T := TX8) (N := 6) C0 hK hP hm_q0 hk_q0 (by decide) rfl inlX8 (by decide) mW21 (fun _ h9 => h9) rfl dX8_why_16 ?_
    obtain ⟨hmy_5, hky_5⟩ := ySh.f8_2 hSh _ hm_q0 hk_q0
    refine lv_aload_n hx hb dX8_why_19 rfl (lv_at hl 0 rfl) ?_
    refine yget (ci := 8) (k := 0) (v := .ref (S.2.2.1 q0 0)) (C := RX8) (T := TX8) (N := 6) C0 hK hP hm_q0 hk_q0 (by decide) rfl inlX8 (by decide) mW16 (fun _ h9 => h9) rfl dX8_why_20 ?_
    obtain ⟨hmy_6, hky_6⟩ := ySh.f8_0 hSh _ hm_q0 hk_q0
    refine lv_iload_n hx hb dX8_why_23 rfl (lv_at hl 1 rfl) ?_
    refine yVri (As := [.int p0]) (rest := [.ref (S.2.2.1 q0 2)]) C0 (g_X0_groupOf l G S d_3 (S.2.2.1 q0 0) p0 hSh hmy_6 hky_6) ok_X0_groupOf (mW694 : Cond.methodLink RX8 258 yX0_groupOf ∈ wsT) ⟨Nat.le_of_ble_eq_true rfl, Nat.le_of_ble_eq_true rfl⟩ hP hD hK hN hmy_6 hky_6 (by decide) rfl rfl rfl hl.1 rfl (Nat.le_of_ble_eq_true rfl) ⟨Nat.le_of_ble_eq_true rfl, Nat.le_of_ble_eq_true rfl⟩ dX8_why_24 (fun r_7 hr_7 => ?_)
    refine lv_iload_n hx hb dX8_why_27 rfl (lv_at hl 3 rfl) ?_
    refine yVwv (As := [.int r_7, .int p2]) (rest := []) C0 (g_X3_read l G S d_3 (S.2.2.1 q0 2) r_7 p2 hSh hPod_3 hmy_5 hky_5 hz_p2) ok_X3_read (mW699 : Cond.methodLink RX8 261 yX3_read ∈ wsT) ⟨Nat.le_of_ble_eq_true rfl, Nat.le_of_ble_eq_true rfl⟩ hP hD hS hA hK hN hmy_5 hky_5 (by decide) rfl rfl rfl hl.1 rfl (Nat.le_of_ble_eq_true rfl) ⟨Nat.le_of_ble_eq_true rfl, Nat.le_of_ble_eq_true rfl⟩ dX8_why_28 (fun d_9 H locs hr_8 hP hD hS => ?_)
    obtain ⟨hgad_9, hpad_9, hxd_9⟩ := hr_8
    have hgd_9 : yAg S [3, 5, 7, 8, 22, 23, 24] d d_9 := yAg.tr hgd_3 hgad_9 (by first | decide | exact fun _ h => h)
    have hPod_9 : yPo S d_9 := hpad_9 hPod_3
    refine lv_aload_n hx hb dX8_why_31 rfl (lv_at hl 0 rfl) ?_
    refine yget (ci := 8) (k := 2) (v := .ref (S.2.2.1 q0 2)) (C := RX8) (T := TX8) (N := 6) C0 hK hP hm_q0 hk_q0 (by decide) rfl inlX8 (by decide) mW21 (fun _ h9 => h9) rfl dX8_why_32 ?_
    refine lv_iload_n hx hb dX8_why_35 rfl (lv_at hl 1 rfl) ?_
    refine lv_iload_n hx hb dX8_why_36 rfl (lv_at hl 2 rfl) ?_
    refine lv_iload_n hx hb dX8_why_37 rfl (lv_at hl 2 rfl) ?_
    refine lv_iconst (v := 1) hx hb dX8_why_38 (by decide) ?_
    refine lv_iadd hx hb dX8_why_39 ?_
    refine lv_topi (fun z_10 ez_10 => ?_)
    refine yVwr (As := [.int p0, .int p1, .int z_10]) (rest := []) C0 (g_X3_walkIn l G S d_9 (S.2.2.1 q0 2) p0 p1 z_10 hSh hPod_9 hmy_5 hky_5) ok_X3_walkIn (mW842 : Cond.methodLink RX8 264 yX3_walkIn ∈ wsT) ⟨Nat.le_of_ble_eq_true rfl, Nat.le_of_ble_eq_true rfl⟩ hP hD hS hA hK hN hmy_5 hky_5 (by decide) rfl rfl rfl hl.1 rfl (Nat.le_of_ble_eq_true rfl) ⟨Nat.le_of_ble_eq_true rfl, Nat.le_of_ble_eq_true rfl⟩ dX8_why_40 (fun r_11 d_12 H locs hr_11 hP hD hS => ?_)
    obtain ⟨hgad_12, hpad_12, hxd_12⟩ := hr_11
    have hgd_12 : yAg S [3, 5, 7, 8, 22, 23, 24] d d_12 := yAg.tr hgd_9 hgad_12 (by first | decide | exact fun _ h => h)
    have hPod_12 : yPo S d_12 := hpad_12 hPod_9
    obtain ⟨hmr_11, hkr_11⟩ := hxd_12
    refine lv_astore (lv' := [(4, .ref r_11), (0, .ref q0), (1, .int p0), (2, .int p1), (3, .int p2)]) hx hb dX8_why_43 hl (by decide) rfl (fun ls hl => ?_)
    refine lv_aload hx hb dX8_why_45 (lv_at hl 0 rfl) ?_
    refine yVwi (As := []) (rest := []) C0 (g_X7_step l G S d_12 r_11 hSh hPod_12 hmr_11 hkr_11) ok_X7_step (mW851 : Cond.methodLink RX8 268 yX7_step ∈ wsT) ⟨Nat.le_of_ble_eq_true rfl, Nat.le_of_ble_eq_true rfl⟩ hP hD hS hA hK hN hmr_11 hkr_11 (by decide) rfl rfl rfl hl.1 rfl (Nat.le_of_ble_eq_true rfl) ⟨Nat.le_of_ble_eq_true rfl, Nat.le_of_ble_eq_true rfl⟩ dX8_why_47 (fun r_13 d_14 H locs hr_13 hP hD hS => ?_)
    obtain ⟨hgad_14, hpad_14, hxd_14⟩ := hr_13
    have hgd_14 : yAg S [3, 5, 7, 8, 22, 23, 24] d d_14 := yAg.tr hgd_12 hgad_14 (by first | decide | exact fun _ h => h)
    have hPod_14 : yPo S d_14 := hpad_14 hPod_12
    refine lv_if_eq (tgt := 61) hx hb dX8_why_50 (by decide) (fun c_15 => ?_) (fun c_15 => ?_)
    · refine lv_iconst (v := (-1)) hx hb dX8_why_61 (by decide) ?_
      exact W.iret (v := (-1)) hx hb hr (fun t ht hW => ⟨⟨(-1), d_14, rfl, ⟨hgd_14, (fun _ => hPod_14), ((congrFun (hgad_14 q0 (by rw [hk_q0]; decide)).1 4).trans ((congrFun (hgad_12 q0 (by rw [hk_q0]; decide)).1 4).trans ((congrFun (hgad_9 q0 (by rw [hk_q0]; decide)).1 4).trans (hxd_3.2))))⟩, by rw [ht]; exact hP, hD⟩, hS.F ht⟩) hS.2.2 dX8_why_62
    · refine lv_aload hx hb dX8_why_53 (lv_at hl 0 rfl) ?_
      refine yget (ci := 7) (k := 17) (v := .int (d_14.1 r_11 17)) (C := RX7) (T := TX7) (N := 18) C0 hK hP hmr_11 hkr_11 (by decide) rfl inlX7 (by decide) mW692 (fun _ h9 => h9) rfl dX8_why_55 ?_
      refine lv_topi (fun z_16 ez_16 => ?_)
      refine lv_goto (tgt := 62) hx hb dX8_why_58 (by decide) ?_
      exact W.iret (v := z_16) hx hb hr (fun t ht hW => ⟨⟨z_16, d_14, rfl, ⟨hgd_14, (fun _ => hPod_14), ((congrFun (hgad_14 q0 (by rw [hk_q0]; decide)).1 4).trans ((congrFun (hgad_12 q0 (by rw [hk_q0]; decide)).1 4).trans ((congrFun (hgad_9 q0 (by rw [hk_q0]; decide)).1 4).trans (hxd_3.2))))⟩, by rw [ht]; exact hP, hD⟩, hS.F ht⟩) hS.2.2 dX8_why_62
  · refine lv_iconst (v := (-1)) hx hb dX8_why_13 (by decide) ?_
    exact W.iret (v := (-1)) hx hb hr (fun t ht hW => ⟨⟨(-1), d_3, rfl, ⟨hgd_3, (fun _ => hPod_3), (hxd_3.2)⟩, by rw [ht]; exact hP, hD⟩, hS.F ht⟩) hS.2.2 dX8_why_14
theorem dX8_counts_0 : decode cX8_counts 0 = .ok (.aload_n 0, 1) := by decide +kernel
theorem dX8_counts_1 : decode cX8_counts 1 = .ok (.aload_n 0, 1) := by decide +kernel
theorem dX8_counts_2 : decode cX8_counts 2 = .ok (.iload_n 1, 1) := by decide +kernel
theorem dX8_counts_3 : decode cX8_counts 3 = .ok (.invokevirtual 124, 3) := by decide +kernel
theorem dX8_counts_6 : decode cX8_counts 6 = .ok (.iload_n 2, 1) := by decide +kernel
theorem dX8_counts_7 : decode cX8_counts 7 = .ok (.ifCond .lt 11, 3) := by decide +kernel
theorem dX8_counts_10 : decode cX8_counts 10 = .ok (.iload_n 3, 1) := by decide +kernel
theorem dX8_counts_11 : decode cX8_counts 11 = .ok (.ifCond .lt 7, 3) := by decide +kernel
theorem dX8_counts_14 : decode cX8_counts 14 = .ok (.iconst 1, 1) := by decide +kernel
theorem dX8_counts_15 : decode cX8_counts 15 = .ok (.goto 4, 3) := by decide +kernel
theorem dX8_counts_18 : decode cX8_counts 18 = .ok (.iconst 0, 1) := by decide +kernel
theorem dX8_counts_19 : decode cX8_counts 19 = .ok (.invokestatic 54, 3) := by decide +kernel
theorem dX8_counts_22 : decode cX8_counts 22 = .ok (.invokestatic 58, 3) := by decide +kernel
theorem dX8_counts_25 : decode cX8_counts 25 = .ok (.invokevirtual 42, 3) := by decide +kernel
theorem dX8_counts_28 : decode cX8_counts 28 = .ok (.ifCond .eq 5, 3) := by decide +kernel
theorem dX8_counts_31 : decode cX8_counts 31 = .ok (.iconst (-1), 1) := by decide +kernel
theorem dX8_counts_32 : decode cX8_counts 32 = .ok (.ireturn, 1) := by decide +kernel
theorem dX8_counts_33 : decode cX8_counts 33 = .ok (.aload_n 0, 1) := by decide +kernel
theorem dX8_counts_34 : decode cX8_counts 34 = .ok (.getfield 24, 3) := by decide +kernel
theorem dX8_counts_37 : decode cX8_counts 37 = .ok (.aload_n 0, 1) := by decide +kernel
theorem dX8_counts_38 : decode cX8_counts 38 = .ok (.getfield 12, 3) := by decide +kernel
theorem dX8_counts_41 : decode cX8_counts 41 = .ok (.iload_n 1, 1) := by decide +kernel
theorem dX8_counts_42 : decode cX8_counts 42 = .ok (.invokevirtual 258, 3) := by decide +kernel
theorem dX8_counts_45 : decode cX8_counts 45 = .ok (.iload 4, 2) := by decide +kernel
theorem dX8_counts_47 : decode cX8_counts 47 = .ok (.invokevirtual 261, 3) := by decide +kernel
theorem dX8_counts_50 : decode cX8_counts 50 = .ok (.aload_n 0, 1) := by decide +kernel
theorem dX8_counts_51 : decode cX8_counts 51 = .ok (.getfield 24, 3) := by decide +kernel
theorem dX8_counts_54 : decode cX8_counts 54 = .ok (.iload_n 1, 1) := by decide +kernel
theorem dX8_counts_55 : decode cX8_counts 55 = .ok (.iload_n 2, 1) := by decide +kernel
theorem dX8_counts_56 : decode cX8_counts 56 = .ok (.iload_n 3, 1) := by decide +kernel
theorem dX8_counts_57 : decode cX8_counts 57 = .ok (.invokevirtual 280, 3) := by decide +kernel
theorem dX8_counts_60 : decode cX8_counts 60 = .ok (.ireturn, 1) := by decide +kernel
set_option maxHeartbeats 4000000 in
set_option maxRecDepth 100000 in
theorem g_X8_counts (l : Launch) (G : xG) (S : yS) (d : yD) (q0 : Nat) (p0 : Int32) (p1 : Int32) (p2 : Int32) (p3 : Int32) (hSh : ySh S) (hPo : yPo S d) (hm_q0 : q0 ∈ S.1) (hk_q0 : S.2.1 q0 = 8) (hz_p3 : p3 = 0 ∨ p3 = 1) : xWi l G yX8_counts cX8_counts 5 (some .int) 7 173 0 0 [.ref q0, .int p0, .int p1, .int p2, .int p3] (yW G S d) (fun r (u : yD) => yAg S [3, 5, 7, 8, 22, 23, 24] d u ∧ (yPo S d → yPo S u) ∧ (u.1 q0 4 = d.1 q0 4)) (fun u => yW G S u) := by
  intro sz
  refine xstart (by decide) (Nat.le_of_ble_eq_true rfl) (fun p e s m args below meth c ls C0 hr hlocks hin hsz hP hK hD hN hl => ?_)
  obtain ⟨hx, hb, hml, hown, htl⟩ := id C0
  subst hsz
  have hD := hD.self (sz := s.heap.size)
  generalize hAe : va_A (yW G S d) s.heap.size = A at hD ⊢
  have hA : ∀ q : Nat, s.heap.size ≤ q → A q := fun q h => by rw [← hAe]; exact Or.inr h
  have hS : va_S A s.heap s.heap [] := va_S.rf
  have hg0 : yAg S [3, 5, 7, 8, 22, 23, 24] d d := yAg.rf
  have hl : lv_has ls 5 [(0, .ref q0), (1, .int p0), (2, .int p1), (3, .int p2), (4, .int p3)] := hl
  refine lv_aload_n hx hb dX8_counts_0 rfl (lv_at hl 0 rfl) ?_
  refine lv_aload_n hx hb dX8_counts_1 rfl (lv_at hl 0 rfl) ?_
  refine lv_iload_n hx hb dX8_counts_2 rfl (lv_at hl 1 rfl) ?_
  refine yVri (As := [.int p0]) (rest := [.ref q0]) C0 (g_X8_portReason l G S d q0 p0 hSh hm_q0 hk_q0) ok_X8_portReason (mW374 : Cond.methodLink RX8 124 yX8_portReason ∈ wsT) ⟨Nat.le_of_ble_eq_true rfl, Nat.le_of_ble_eq_true rfl⟩ hP hD hK hN hm_q0 hk_q0 (by decide) rfl rfl rfl hl.1 rfl (Nat.le_of_ble_eq_true rfl) ⟨Nat.le_of_ble_eq_true rfl, Nat.le_of_ble_eq_true rfl⟩ dX8_counts_3 (fun r_1 hr_1 => ?_)
  refine lv_iload_n hx hb dX8_counts_6 rfl (lv_at hl 2 rfl) ?_
  refine yjoinR (σ := Int32) 19 (fun x ls st => st = [.int x, .int r_1, .ref q0] ∧ lv_has ls 5 [(0, .ref q0), (1, .int p0), (2, .int p1), (3, .int p2), (4, .int p3)] ∧ (x = 0 ∨ x = 1)) (fun x ls st hI => ?_) (fun J19_2 => ?_)
  · obtain ⟨v_2, rfl⟩ : ∃ z, z = x := ⟨_, rfl⟩
    obtain ⟨rfl, hl, hzv_2⟩ := hI
    have hl : lv_has ls 5 [(0, .ref q0), (1, .int p0), (2, .int p1), (3, .int p2), (4, .int p3)] := hl
    refine ySri (As := [.int v_2]) (rest := [.int r_1, .ref q0]) C0 (g_X8_number l G S d v_2 ) ok_X8_number (mW196 : Cond.methodLink RX8 54 yX8_number ∈ wsT) ⟨Nat.le_of_ble_eq_true rfl, Nat.le_of_ble_eq_true rfl⟩ hP hD hK hN rfl hl.1 rfl (Nat.le_of_ble_eq_true rfl) ⟨Nat.le_of_ble_eq_true rfl, Nat.le_of_ble_eq_true rfl⟩ dX8_counts_19 (fun r_3 hr_3 => ?_)
    refine ySri (As := [.int r_1, .int r_3]) (rest := [.ref q0]) C0 (g_X8_least l G S d r_1 r_3 ) ok_X8_least (mW199 : Cond.methodLink RX8 58 yX8_least ∈ wsT) ⟨Nat.le_of_ble_eq_true rfl, Nat.le_of_ble_eq_true rfl⟩ hP hD hK hN rfl hl.1 rfl (Nat.le_of_ble_eq_true rfl) ⟨Nat.le_of_ble_eq_true rfl, Nat.le_of_ble_eq_true rfl⟩ dX8_counts_22 (fun r_4 hr_4 => ?_)
    refine yVwi (As := [.int r_4]) (rest := []) C0 (g_X8_refused l G S d q0 r_4 hSh hPo hm_q0 hk_q0) ok_X8_refused (mW160 : Cond.methodLink RX8 42 yX8_refused ∈ wsT) ⟨Nat.le_of_ble_eq_true rfl, Nat.le_of_ble_eq_true rfl⟩ hP hD hS hA hK hN hm_q0 hk_q0 (by decide) rfl rfl rfl hl.1 rfl (Nat.le_of_ble_eq_true rfl) ⟨Nat.le_of_ble_eq_true rfl, Nat.le_of_ble_eq_true rfl⟩ dX8_counts_25 (fun r_5 d_6 H locs hr_5 hP hD hS => ?_)
    obtain ⟨hgad_6, hpad_6, hxd_6⟩ := hr_5
    have hgd_6 : yAg S [3, 5, 7, 8, 22, 23, 24] d d_6 := yAg.tr hg0 hgad_6 (by first | decide | exact fun _ h => h)
    have hPod_6 : yPo S d_6 := hpad_6 hPo
    refine lv_if_eq (tgt := 33) hx hb dX8_counts_28 (by decide) (fun c_7 => ?_) (fun c_7 => ?_)
    · refine lv_aload_n hx hb dX8_counts_33 rfl (lv_at hl 0 rfl) ?_
      refine yget (ci := 8) (k := 2) (v := .ref (S.2.2.1 q0 2)) (C := RX8) (T := TX8) (N := 6) C0 hK hP hm_q0 hk_q0 (by decide) rfl inlX8 (by decide) mW21 (fun _ h9 => h9) rfl dX8_counts_34 ?_
      obtain ⟨hmy_8, hky_8⟩ := ySh.f8_2 hSh _ hm_q0 hk_q0
      refine lv_aload_n hx hb dX8_counts_37 rfl (lv_at hl 0 rfl) ?_
      refine yget (ci := 8) (k := 0) (v := .ref (S.2.2.1 q0 0)) (C := RX8) (T := TX8) (N := 6) C0 hK hP hm_q0 hk_q0 (by decide) rfl inlX8 (by decide) mW16 (fun _ h9 => h9) rfl dX8_counts_38 ?_
      obtain ⟨hmy_9, hky_9⟩ := ySh.f8_0 hSh _ hm_q0 hk_q0
      refine lv_iload_n hx hb dX8_counts_41 rfl (lv_at hl 1 rfl) ?_
      refine yVri (As := [.int p0]) (rest := [.ref (S.2.2.1 q0 2)]) C0 (g_X0_groupOf l G S d_6 (S.2.2.1 q0 0) p0 hSh hmy_9 hky_9) ok_X0_groupOf (mW694 : Cond.methodLink RX8 258 yX0_groupOf ∈ wsT) ⟨Nat.le_of_ble_eq_true rfl, Nat.le_of_ble_eq_true rfl⟩ hP hD hK hN hmy_9 hky_9 (by decide) rfl rfl rfl hl.1 rfl (Nat.le_of_ble_eq_true rfl) ⟨Nat.le_of_ble_eq_true rfl, Nat.le_of_ble_eq_true rfl⟩ dX8_counts_42 (fun r_10 hr_10 => ?_)
      refine lv_iload hx hb dX8_counts_45 (lv_at hl 4 rfl) ?_
      refine yVwv (As := [.int r_10, .int p3]) (rest := []) C0 (g_X3_read l G S d_6 (S.2.2.1 q0 2) r_10 p3 hSh hPod_6 hmy_8 hky_8 hz_p3) ok_X3_read (mW699 : Cond.methodLink RX8 261 yX3_read ∈ wsT) ⟨Nat.le_of_ble_eq_true rfl, Nat.le_of_ble_eq_true rfl⟩ hP hD hS hA hK hN hmy_8 hky_8 (by decide) rfl rfl rfl hl.1 rfl (Nat.le_of_ble_eq_true rfl) ⟨Nat.le_of_ble_eq_true rfl, Nat.le_of_ble_eq_true rfl⟩ dX8_counts_47 (fun d_12 H locs hr_11 hP hD hS => ?_)
      obtain ⟨hgad_12, hpad_12, hxd_12⟩ := hr_11
      have hgd_12 : yAg S [3, 5, 7, 8, 22, 23, 24] d d_12 := yAg.tr hgd_6 hgad_12 (by first | decide | exact fun _ h => h)
      have hPod_12 : yPo S d_12 := hpad_12 hPod_6
      refine lv_aload_n hx hb dX8_counts_50 rfl (lv_at hl 0 rfl) ?_
      refine yget (ci := 8) (k := 2) (v := .ref (S.2.2.1 q0 2)) (C := RX8) (T := TX8) (N := 6) C0 hK hP hm_q0 hk_q0 (by decide) rfl inlX8 (by decide) mW21 (fun _ h9 => h9) rfl dX8_counts_51 ?_
      refine lv_iload_n hx hb dX8_counts_54 rfl (lv_at hl 1 rfl) ?_
      refine lv_iload_n hx hb dX8_counts_55 rfl (lv_at hl 2 rfl) ?_
      refine lv_iload_n hx hb dX8_counts_56 rfl (lv_at hl 3 rfl) ?_
      refine yVwi (As := [.int p0, .int p1, .int p2]) (rest := []) C0 (g_X3_halvesOf l G S d_12 (S.2.2.1 q0 2) p0 p1 p2 hSh hPod_12 hmy_8 hky_8) ok_X3_halvesOf (mW917 : Cond.methodLink RX8 280 yX3_halvesOf ∈ wsT) ⟨Nat.le_of_ble_eq_true rfl, Nat.le_of_ble_eq_true rfl⟩ hP hD hS hA hK hN hmy_8 hky_8 (by decide) rfl rfl rfl hl.1 rfl (Nat.le_of_ble_eq_true rfl) ⟨Nat.le_of_ble_eq_true rfl, Nat.le_of_ble_eq_true rfl⟩ dX8_counts_57 (fun r_13 d_14 H locs hr_13 hP hD hS => ?_)
      obtain ⟨hgad_14, hpad_14, hxd_14⟩ := hr_13
      have hgd_14 : yAg S [3, 5, 7, 8, 22, 23, 24] d d_14 := yAg.tr hgd_12 hgad_14 (by first | decide | exact fun _ h => h)
      have hPod_14 : yPo S d_14 := hpad_14 hPod_12
      exact W.iret (v := r_13) hx hb hr (fun t ht hW => ⟨⟨r_13, d_14, rfl, ⟨hgd_14, (fun _ => hPod_14), ((congrFun (hgad_14 q0 (by rw [hk_q0]; decide)).1 4).trans ((congrFun (hgad_12 q0 (by rw [hk_q0]; decide)).1 4).trans (hxd_6.2)))⟩, by rw [ht]; exact hP, hD⟩, hS.F ht⟩) hS.2.2 dX8_counts_60
    · refine lv_iconst (v := (-1)) hx hb dX8_counts_31 (by decide) ?_
      exact W.iret (v := (-1)) hx hb hr (fun t ht hW => ⟨⟨(-1), d_6, rfl, ⟨hgd_6, (fun _ => hPod_6), (hxd_6.2)⟩, by rw [ht]; exact hP, hD⟩, hS.F ht⟩) hS.2.2 dX8_counts_32
  refine lv_if_lt (tgt := 18) hx hb dX8_counts_7 (by decide) (fun c_15 => ?_) (fun c_15 => ?_)
  · refine lv_iconst (v := 0) hx hb dX8_counts_18 (by decide) ?_
    exact J19_2 0 ls _ ⟨rfl, lv_sub hl [0, 1, 2, 3, 4] rfl, Or.inl rfl⟩
  · refine lv_iload_n hx hb dX8_counts_10 rfl (lv_at hl 3 rfl) ?_
    refine lv_if_lt (tgt := 18) hx hb dX8_counts_11 (by decide) (fun c_16 => ?_) (fun c_16 => ?_)
    · refine lv_iconst (v := 0) hx hb dX8_counts_18 (by decide) ?_
      exact J19_2 0 ls _ ⟨rfl, lv_sub hl [0, 1, 2, 3, 4] rfl, Or.inl rfl⟩
    · refine lv_iconst (v := 1) hx hb dX8_counts_14 (by decide) ?_
      refine lv_goto (tgt := 19) hx hb dX8_counts_15 (by decide) ?_
      exact J19_2 1 ls _ ⟨rfl, lv_sub hl [0, 1, 2, 3, 4] rfl, Or.inr rfl⟩
theorem dX8_by_0 : decode cX8_by 0 = .ok (.aload_n 0, 1) := by decide +kernel
theorem dX8_by_1 : decode cX8_by 1 = .ok (.aload_n 0, 1) := by decide +kernel
theorem dX8_by_2 : decode cX8_by 2 = .ok (.iload_n 1, 1) := by decide +kernel
theorem dX8_by_3 : decode cX8_by 3 = .ok (.invokevirtual 124, 3) := by decide +kernel
theorem dX8_by_6 : decode cX8_by 6 = .ok (.iload_n 2, 1) := by decide +kernel
theorem dX8_by_7 : decode cX8_by 7 = .ok (.invokestatic 283, 3) := by decide +kernel
theorem dX8_by_10 : decode cX8_by 10 = .ok (.invokestatic 54, 3) := by decide +kernel
theorem dX8_by_13 : decode cX8_by 13 = .ok (.invokestatic 58, 3) := by decide +kernel
theorem dX8_by_16 : decode cX8_by 16 = .ok (.invokevirtual 42, 3) := by decide +kernel
theorem dX8_by_19 : decode cX8_by 19 = .ok (.ifCond .eq 5, 3) := by decide +kernel
theorem dX8_by_22 : decode cX8_by 22 = .ok (.iconst (-1), 1) := by decide +kernel
theorem dX8_by_23 : decode cX8_by 23 = .ok (.ireturn, 1) := by decide +kernel
theorem dX8_by_24 : decode cX8_by 24 = .ok (.aload_n 0, 1) := by decide +kernel
theorem dX8_by_25 : decode cX8_by 25 = .ok (.getfield 24, 3) := by decide +kernel
theorem dX8_by_28 : decode cX8_by 28 = .ok (.aload_n 0, 1) := by decide +kernel
theorem dX8_by_29 : decode cX8_by 29 = .ok (.getfield 12, 3) := by decide +kernel
theorem dX8_by_32 : decode cX8_by 32 = .ok (.iload_n 1, 1) := by decide +kernel
theorem dX8_by_33 : decode cX8_by 33 = .ok (.invokevirtual 258, 3) := by decide +kernel
theorem dX8_by_36 : decode cX8_by 36 = .ok (.iload_n 3, 1) := by decide +kernel
theorem dX8_by_37 : decode cX8_by 37 = .ok (.invokevirtual 261, 3) := by decide +kernel
theorem dX8_by_40 : decode cX8_by 40 = .ok (.aload_n 0, 1) := by decide +kernel
theorem dX8_by_41 : decode cX8_by 41 = .ok (.getfield 24, 3) := by decide +kernel
theorem dX8_by_44 : decode cX8_by 44 = .ok (.iload_n 1, 1) := by decide +kernel
theorem dX8_by_45 : decode cX8_by 45 = .ok (.iload_n 2, 1) := by decide +kernel
theorem dX8_by_46 : decode cX8_by 46 = .ok (.invokevirtual 286, 3) := by decide +kernel
theorem dX8_by_49 : decode cX8_by 49 = .ok (.ireturn, 1) := by decide +kernel
set_option maxHeartbeats 4000000 in
set_option maxRecDepth 100000 in
theorem g_X8_by (l : Launch) (G : xG) (S : yS) (d : yD) (q0 : Nat) (p0 : Int32) (p1 : Int32) (p2 : Int32) (hSh : ySh S) (hPo : yPo S d) (hm_q0 : q0 ∈ S.1) (hk_q0 : S.2.1 q0 = 8) (hz_p2 : p2 = 0 ∨ p2 = 1) : xWi l G yX8_by cX8_by 4 (some .int) 7 173 0 0 [.ref q0, .int p0, .int p1, .int p2] (yW G S d) (fun r (u : yD) => yAg S [3, 5, 7, 8, 22, 23, 24] d u ∧ (yPo S d → yPo S u) ∧ (u.1 q0 4 = d.1 q0 4)) (fun u => yW G S u) := by
  intro sz
  refine xstart (by decide) (Nat.le_of_ble_eq_true rfl) (fun p e s m args below meth c ls C0 hr hlocks hin hsz hP hK hD hN hl => ?_)
  obtain ⟨hx, hb, hml, hown, htl⟩ := id C0
  subst hsz
  have hD := hD.self (sz := s.heap.size)
  generalize hAe : va_A (yW G S d) s.heap.size = A at hD ⊢
  have hA : ∀ q : Nat, s.heap.size ≤ q → A q := fun q h => by rw [← hAe]; exact Or.inr h
  have hS : va_S A s.heap s.heap [] := va_S.rf
  have hg0 : yAg S [3, 5, 7, 8, 22, 23, 24] d d := yAg.rf
  have hl : lv_has ls 4 [(0, .ref q0), (1, .int p0), (2, .int p1), (3, .int p2)] := hl
  refine lv_aload_n hx hb dX8_by_0 rfl (lv_at hl 0 rfl) ?_
  refine lv_aload_n hx hb dX8_by_1 rfl (lv_at hl 0 rfl) ?_
  refine lv_iload_n hx hb dX8_by_2 rfl (lv_at hl 1 rfl) ?_
  refine yVri (As := [.int p0]) (rest := [.ref q0]) C0 (g_X8_portReason l G S d q0 p0 hSh hm_q0 hk_q0) ok_X8_portReason (mW374 : Cond.methodLink RX8 124 yX8_portReason ∈ wsT) ⟨Nat.le_of_ble_eq_true rfl, Nat.le_of_ble_eq_true rfl⟩ hP hD hK hN hm_q0 hk_q0 (by decide) rfl rfl rfl hl.1 rfl (Nat.le_of_ble_eq_true rfl) ⟨Nat.le_of_ble_eq_true rfl, Nat.le_of_ble_eq_true rfl⟩ dX8_by_3 (fun r_1 hr_1 => ?_)
  refine lv_iload_n hx hb dX8_by_6 rfl (lv_at hl 2 rfl) ?_
  refine ySri (As := [.int p1]) (rest := [.int r_1, .ref q0]) C0 (g_X8_isWhy l G S d p1 ) ok_X8_isWhy (mW930 : Cond.methodLink RX8 283 yX8_isWhy ∈ wsT) ⟨Nat.le_of_ble_eq_true rfl, Nat.le_of_ble_eq_true rfl⟩ hP hD hK hN rfl hl.1 rfl (Nat.le_of_ble_eq_true rfl) ⟨Nat.le_of_ble_eq_true rfl, Nat.le_of_ble_eq_true rfl⟩ dX8_by_7 (fun r_2 hr_2 => ?_)
  refine ySri (As := [.int r_2]) (rest := [.int r_1, .ref q0]) C0 (g_X8_number l G S d r_2 ) ok_X8_number (mW196 : Cond.methodLink RX8 54 yX8_number ∈ wsT) ⟨Nat.le_of_ble_eq_true rfl, Nat.le_of_ble_eq_true rfl⟩ hP hD hK hN rfl hl.1 rfl (Nat.le_of_ble_eq_true rfl) ⟨Nat.le_of_ble_eq_true rfl, Nat.le_of_ble_eq_true rfl⟩ dX8_by_10 (fun r_3 hr_3 => ?_)
  refine ySri (As := [.int r_1, .int r_3]) (rest := [.ref q0]) C0 (g_X8_least l G S d r_1 r_3 ) ok_X8_least (mW199 : Cond.methodLink RX8 58 yX8_least ∈ wsT) ⟨Nat.le_of_ble_eq_true rfl, Nat.le_of_ble_eq_true rfl⟩ hP hD hK hN rfl hl.1 rfl (Nat.le_of_ble_eq_true rfl) ⟨Nat.le_of_ble_eq_true rfl, Nat.le_of_ble_eq_true rfl⟩ dX8_by_13 (fun r_4 hr_4 => ?_)
  refine yVwi (As := [.int r_4]) (rest := []) C0 (g_X8_refused l G S d q0 r_4 hSh hPo hm_q0 hk_q0) ok_X8_refused (mW160 : Cond.methodLink RX8 42 yX8_refused ∈ wsT) ⟨Nat.le_of_ble_eq_true rfl, Nat.le_of_ble_eq_true rfl⟩ hP hD hS hA hK hN hm_q0 hk_q0 (by decide) rfl rfl rfl hl.1 rfl (Nat.le_of_ble_eq_true rfl) ⟨Nat.le_of_ble_eq_true rfl, Nat.le_of_ble_eq_true rfl⟩ dX8_by_16 (fun r_5 d_6 H locs hr_5 hP hD hS => ?_)
  obtain ⟨hgad_6, hpad_6, hxd_6⟩ := hr_5
  have hgd_6 : yAg S [3, 5, 7, 8, 22, 23, 24] d d_6 := yAg.tr hg0 hgad_6 (by first | decide | exact fun _ h => h)
  have hPod_6 : yPo S d_6 := hpad_6 hPo
  refine lv_if_eq (tgt := 24) hx hb dX8_by_19 (by decide) (fun c_7 => ?_) (fun c_7 => ?_)
  · refine lv_aload_n hx hb dX8_by_24 rfl (lv_at hl 0 rfl) ?_
    refine yget (ci := 8) (k := 2) (v := .ref (S.2.2.1 q0 2)) (C := RX8) (T := TX8) (N := 6) C0 hK hP hm_q0 hk_q0 (by decide) rfl inlX8 (by decide) mW21 (fun _ h9 => h9) rfl dX8_by_25 ?_
    obtain ⟨hmy_8, hky_8⟩ := ySh.f8_2 hSh _ hm_q0 hk_q0
    refine lv_aload_n hx hb dX8_by_28 rfl (lv_at hl 0 rfl) ?_
    refine yget (ci := 8) (k := 0) (v := .ref (S.2.2.1 q0 0)) (C := RX8) (T := TX8) (N := 6) C0 hK hP hm_q0 hk_q0 (by decide) rfl inlX8 (by decide) mW16 (fun _ h9 => h9) rfl dX8_by_29 ?_
    obtain ⟨hmy_9, hky_9⟩ := ySh.f8_0 hSh _ hm_q0 hk_q0
    refine lv_iload_n hx hb dX8_by_32 rfl (lv_at hl 1 rfl) ?_
    refine yVri (As := [.int p0]) (rest := [.ref (S.2.2.1 q0 2)]) C0 (g_X0_groupOf l G S d_6 (S.2.2.1 q0 0) p0 hSh hmy_9 hky_9) ok_X0_groupOf (mW694 : Cond.methodLink RX8 258 yX0_groupOf ∈ wsT) ⟨Nat.le_of_ble_eq_true rfl, Nat.le_of_ble_eq_true rfl⟩ hP hD hK hN hmy_9 hky_9 (by decide) rfl rfl rfl hl.1 rfl (Nat.le_of_ble_eq_true rfl) ⟨Nat.le_of_ble_eq_true rfl, Nat.le_of_ble_eq_true rfl⟩ dX8_by_33 (fun r_10 hr_10 => ?_)
    refine lv_iload_n hx hb dX8_by_36 rfl (lv_at hl 3 rfl) ?_
    refine yVwv (As := [.int r_10, .int p2]) (rest := []) C0 (g_X3_read l G S d_6 (S.2.2.1 q0 2) r_10 p2 hSh hPod_6 hmy_8 hky_8 hz_p2) ok_X3_read (mW699 : Cond.methodLink RX8 261 yX3_read ∈ wsT) ⟨Nat.le_of_ble_eq_true rfl, Nat.le_of_ble_eq_true rfl⟩ hP hD hS hA hK hN hmy_8 hky_8 (by decide) rfl rfl rfl hl.1 rfl (Nat.le_of_ble_eq_true rfl) ⟨Nat.le_of_ble_eq_true rfl, Nat.le_of_ble_eq_true rfl⟩ dX8_by_37 (fun d_12 H locs hr_11 hP hD hS => ?_)
    obtain ⟨hgad_12, hpad_12, hxd_12⟩ := hr_11
    have hgd_12 : yAg S [3, 5, 7, 8, 22, 23, 24] d d_12 := yAg.tr hgd_6 hgad_12 (by first | decide | exact fun _ h => h)
    have hPod_12 : yPo S d_12 := hpad_12 hPod_6
    refine lv_aload_n hx hb dX8_by_40 rfl (lv_at hl 0 rfl) ?_
    refine yget (ci := 8) (k := 2) (v := .ref (S.2.2.1 q0 2)) (C := RX8) (T := TX8) (N := 6) C0 hK hP hm_q0 hk_q0 (by decide) rfl inlX8 (by decide) mW21 (fun _ h9 => h9) rfl dX8_by_41 ?_
    refine lv_iload_n hx hb dX8_by_44 rfl (lv_at hl 1 rfl) ?_
    refine lv_iload_n hx hb dX8_by_45 rfl (lv_at hl 2 rfl) ?_
    refine yVwi (As := [.int p0, .int p1]) (rest := []) C0 (g_X3_minutesBy l G S d_12 (S.2.2.1 q0 2) p0 p1 hSh hPod_12 hmy_8 hky_8) ok_X3_minutesBy (mW933 : Cond.methodLink RX8 286 yX3_minutesBy ∈ wsT) ⟨Nat.le_of_ble_eq_true rfl, Nat.le_of_ble_eq_true rfl⟩ hP hD hS hA hK hN hmy_8 hky_8 (by decide) rfl rfl rfl hl.1 rfl (Nat.le_of_ble_eq_true rfl) ⟨Nat.le_of_ble_eq_true rfl, Nat.le_of_ble_eq_true rfl⟩ dX8_by_46 (fun r_13 d_14 H locs hr_13 hP hD hS => ?_)
    obtain ⟨hgad_14, hpad_14, hxd_14⟩ := hr_13
    have hgd_14 : yAg S [3, 5, 7, 8, 22, 23, 24] d d_14 := yAg.tr hgd_12 hgad_14 (by first | decide | exact fun _ h => h)
    have hPod_14 : yPo S d_14 := hpad_14 hPod_12
    exact W.iret (v := r_13) hx hb hr (fun t ht hW => ⟨⟨r_13, d_14, rfl, ⟨hgd_14, (fun _ => hPod_14), ((congrFun (hgad_14 q0 (by rw [hk_q0]; decide)).1 4).trans ((congrFun (hgad_12 q0 (by rw [hk_q0]; decide)).1 4).trans (hxd_6.2)))⟩, by rw [ht]; exact hP, hD⟩, hS.F ht⟩) hS.2.2 dX8_by_49
  · refine lv_iconst (v := (-1)) hx hb dX8_by_22 (by decide) ?_
    exact W.iret (v := (-1)) hx hb hr (fun t ht hW => ⟨⟨(-1), d_6, rfl, ⟨hgd_6, (fun _ => hPod_6), (hxd_6.2)⟩, by rw [ht]; exact hP, hD⟩, hS.F ht⟩) hS.2.2 dX8_by_23
theorem dX8_sum_0 : decode cX8_sum 0 = .ok (.aload_n 0, 1) := by decide +kernel
theorem dX8_sum_1 : decode cX8_sum 1 = .ok (.aload_n 0, 1) := by decide +kernel
theorem dX8_sum_2 : decode cX8_sum 2 = .ok (.iload_n 1, 1) := by decide +kernel
theorem dX8_sum_3 : decode cX8_sum 3 = .ok (.invokevirtual 124, 3) := by decide +kernel
theorem dX8_sum_6 : decode cX8_sum 6 = .ok (.iload_n 2, 1) := by decide +kernel
theorem dX8_sum_7 : decode cX8_sum 7 = .ok (.iconst 0, 1) := by decide +kernel
theorem dX8_sum_8 : decode cX8_sum 8 = .ok (.bipush 8, 2) := by decide +kernel
theorem dX8_sum_10 : decode cX8_sum 10 = .ok (.invokestatic 71, 3) := by decide +kernel
theorem dX8_sum_13 : decode cX8_sum 13 = .ok (.invokestatic 54, 3) := by decide +kernel
theorem dX8_sum_16 : decode cX8_sum 16 = .ok (.invokestatic 58, 3) := by decide +kernel
theorem dX8_sum_19 : decode cX8_sum 19 = .ok (.invokevirtual 42, 3) := by decide +kernel
theorem dX8_sum_22 : decode cX8_sum 22 = .ok (.ifCond .eq 7, 3) := by decide +kernel
theorem dX8_sum_25 : decode cX8_sum 25 = .ok (.ldc2_w 251, 3) := by decide +kernel
theorem dX8_sum_28 : decode cX8_sum 28 = .ok (.lreturn, 1) := by decide +kernel
theorem dX8_sum_29 : decode cX8_sum 29 = .ok (.aload_n 0, 1) := by decide +kernel
theorem dX8_sum_30 : decode cX8_sum 30 = .ok (.getfield 24, 3) := by decide +kernel
theorem dX8_sum_33 : decode cX8_sum 33 = .ok (.aload_n 0, 1) := by decide +kernel
theorem dX8_sum_34 : decode cX8_sum 34 = .ok (.getfield 12, 3) := by decide +kernel
theorem dX8_sum_37 : decode cX8_sum 37 = .ok (.iload_n 1, 1) := by decide +kernel
theorem dX8_sum_38 : decode cX8_sum 38 = .ok (.invokevirtual 258, 3) := by decide +kernel
theorem dX8_sum_41 : decode cX8_sum 41 = .ok (.iload_n 3, 1) := by decide +kernel
theorem dX8_sum_42 : decode cX8_sum 42 = .ok (.invokevirtual 261, 3) := by decide +kernel
theorem dX8_sum_45 : decode cX8_sum 45 = .ok (.aload_n 0, 1) := by decide +kernel
theorem dX8_sum_46 : decode cX8_sum 46 = .ok (.getfield 24, 3) := by decide +kernel
theorem dX8_sum_49 : decode cX8_sum 49 = .ok (.invokevirtual 289, 3) := by decide +kernel
theorem dX8_sum_52 : decode cX8_sum 52 = .ok (.iload_n 2, 1) := by decide +kernel
theorem dX8_sum_53 : decode cX8_sum 53 = .ok (.tableswitch 130 0 7 #[47, 55, 63, 88, 96, 104, 112, 121], 47) := by decide +kernel
theorem dX8_sum_100 : decode cX8_sum 100 = .ok (.aload_n 0, 1) := by decide +kernel
theorem dX8_sum_101 : decode cX8_sum 101 = .ok (.getfield 24, 3) := by decide +kernel
theorem dX8_sum_104 : decode cX8_sum 104 = .ok (.getfield 292, 3) := by decide +kernel
theorem dX8_sum_107 : decode cX8_sum 107 = .ok (.lreturn, 1) := by decide +kernel
theorem dX8_sum_108 : decode cX8_sum 108 = .ok (.aload_n 0, 1) := by decide +kernel
theorem dX8_sum_109 : decode cX8_sum 109 = .ok (.getfield 24, 3) := by decide +kernel
theorem dX8_sum_112 : decode cX8_sum 112 = .ok (.getfield 294, 3) := by decide +kernel
theorem dX8_sum_115 : decode cX8_sum 115 = .ok (.lreturn, 1) := by decide +kernel
theorem dX8_sum_116 : decode cX8_sum 116 = .ok (.aload_n 0, 1) := by decide +kernel
theorem dX8_sum_117 : decode cX8_sum 117 = .ok (.getfield 24, 3) := by decide +kernel
theorem dX8_sum_120 : decode cX8_sum 120 = .ok (.getfield 297, 3) := by decide +kernel
theorem dX8_sum_123 : decode cX8_sum 123 = .ok (.ifCond .eq 14, 3) := by decide +kernel
theorem dX8_sum_126 : decode cX8_sum 126 = .ok (.aload_n 0, 1) := by decide +kernel
theorem dX8_sum_127 : decode cX8_sum 127 = .ok (.getfield 24, 3) := by decide +kernel
theorem dX8_sum_130 : decode cX8_sum 130 = .ok (.getfield 300, 3) := by decide +kernel
theorem dX8_sum_133 : decode cX8_sum 133 = .ok (.i2l, 1) := by decide +kernel
theorem dX8_sum_134 : decode cX8_sum 134 = .ok (.goto 6, 3) := by decide +kernel
theorem dX8_sum_137 : decode cX8_sum 137 = .ok (.ldc2_w 251, 3) := by decide +kernel
theorem dX8_sum_140 : decode cX8_sum 140 = .ok (.lreturn, 1) := by decide +kernel
theorem dX8_sum_141 : decode cX8_sum 141 = .ok (.aload_n 0, 1) := by decide +kernel
theorem dX8_sum_142 : decode cX8_sum 142 = .ok (.getfield 24, 3) := by decide +kernel
theorem dX8_sum_145 : decode cX8_sum 145 = .ok (.invokevirtual 303, 3) := by decide +kernel
theorem dX8_sum_148 : decode cX8_sum 148 = .ok (.lreturn, 1) := by decide +kernel
theorem dX8_sum_149 : decode cX8_sum 149 = .ok (.aload_n 0, 1) := by decide +kernel
theorem dX8_sum_150 : decode cX8_sum 150 = .ok (.getfield 24, 3) := by decide +kernel
theorem dX8_sum_153 : decode cX8_sum 153 = .ok (.invokevirtual 307, 3) := by decide +kernel
theorem dX8_sum_156 : decode cX8_sum 156 = .ok (.lreturn, 1) := by decide +kernel
theorem dX8_sum_157 : decode cX8_sum 157 = .ok (.aload_n 0, 1) := by decide +kernel
theorem dX8_sum_158 : decode cX8_sum 158 = .ok (.getfield 24, 3) := by decide +kernel
theorem dX8_sum_161 : decode cX8_sum 161 = .ok (.invokevirtual 310, 3) := by decide +kernel
theorem dX8_sum_164 : decode cX8_sum 164 = .ok (.lreturn, 1) := by decide +kernel
theorem dX8_sum_165 : decode cX8_sum 165 = .ok (.aload_n 0, 1) := by decide +kernel
theorem dX8_sum_166 : decode cX8_sum 166 = .ok (.getfield 24, 3) := by decide +kernel
theorem dX8_sum_169 : decode cX8_sum 169 = .ok (.invokevirtual 313, 3) := by decide +kernel
theorem dX8_sum_172 : decode cX8_sum 172 = .ok (.i2l, 1) := by decide +kernel
theorem dX8_sum_173 : decode cX8_sum 173 = .ok (.lreturn, 1) := by decide +kernel
theorem dX8_sum_174 : decode cX8_sum 174 = .ok (.aload_n 0, 1) := by decide +kernel
theorem dX8_sum_175 : decode cX8_sum 175 = .ok (.getfield 24, 3) := by decide +kernel
theorem dX8_sum_178 : decode cX8_sum 178 = .ok (.invokevirtual 316, 3) := by decide +kernel
theorem dX8_sum_181 : decode cX8_sum 181 = .ok (.i2l, 1) := by decide +kernel
theorem dX8_sum_182 : decode cX8_sum 182 = .ok (.lreturn, 1) := by decide +kernel
theorem dX8_sum_183 : decode cX8_sum 183 = .ok (.aload_n 0, 1) := by decide +kernel
theorem dX8_sum_184 : decode cX8_sum 184 = .ok (.getfield 24, 3) := by decide +kernel
theorem dX8_sum_187 : decode cX8_sum 187 = .ok (.getfield 319, 3) := by decide +kernel
theorem dX8_sum_190 : decode cX8_sum 190 = .ok (.i2l, 1) := by decide +kernel
theorem dX8_sum_191 : decode cX8_sum 191 = .ok (.lreturn, 1) := by decide +kernel
set_option maxHeartbeats 4000000 in
set_option maxRecDepth 100000 in
theorem g_X8_sum (l : Launch) (G : xG) (S : yS) (d : yD) (q0 : Nat) (p0 : Int32) (p1 : Int32) (p2 : Int32) (hSh : ySh S) (hPo : yPo S d) (hm_q0 : q0 ∈ S.1) (hk_q0 : S.2.1 q0 = 8) (hz_p2 : p2 = 0 ∨ p2 = 1) : xWl l G yX8_sum cX8_sum 4 (some .long) 7 173 0 0 [.ref q0, .int p0, .int p1, .int p2] (yW G S d) (fun r (u : yD) => yAg S [3, 5, 7, 8, 22, 23, 24] d u ∧ (yPo S d → yPo S u) ∧ (u.1 q0 4 = d.1 q0 4)) (fun u => yW G S u) := by
  intro sz
  refine xstart (by decide) (Nat.le_of_ble_eq_true rfl) (fun p e s m args below meth c ls C0 hr hlocks hin hsz hP hK hD hN hl => ?_)
  obtain ⟨hx, hb, hml, hown, htl⟩ := id C0
  subst hsz
  have hD := hD.self (sz := s.heap.size)
  generalize hAe : va_A (yW G S d) s.heap.size = A at hD ⊢
  have hA : ∀ q : Nat, s.heap.size ≤ q → A q := fun q h => by rw [← hAe]; exact Or.inr h
  have hS : va_S A s.heap s.heap [] := va_S.rf
  have hg0 : yAg S [3, 5, 7, 8, 22, 23, 24] d d := yAg.rf
  have hl : lv_has ls 4 [(0, .ref q0), (1, .int p0), (2, .int p1), (3, .int p2)] := hl
  refine lv_aload_n hx hb dX8_sum_0 rfl (lv_at hl 0 rfl) ?_
  refine lv_aload_n hx hb dX8_sum_1 rfl (lv_at hl 0 rfl) ?_
  refine lv_iload_n hx hb dX8_sum_2 rfl (lv_at hl 1 rfl) ?_
  refine yVri (As := [.int p0]) (rest := [.ref q0]) C0 (g_X8_portReason l G S d q0 p0 hSh hm_q0 hk_q0) ok_X8_portReason (mW374 : Cond.methodLink RX8 124 yX8_portReason ∈ wsT) ⟨Nat.le_of_ble_eq_true rfl, Nat.le_of_ble_eq_true rfl⟩ hP hD hK hN hm_q0 hk_q0 (by decide) rfl rfl rfl hl.1 rfl (Nat.le_of_ble_eq_true rfl) ⟨Nat.le_of_ble_eq_true rfl, Nat.le_of_ble_eq_true rfl⟩ dX8_sum_3 (fun r_1 hr_1 => ?_)
  refine lv_iload_n hx hb dX8_sum_6 rfl (lv_at hl 2 rfl) ?_
  refine lv_iconst (v := 0) hx hb dX8_sum_7 (by decide) ?_
  refine lv_bipush (v := 8) hx hb dX8_sum_8 (by decide) ?_
  refine ySri (As := [.int p1, .int 0, .int 8]) (rest := [.int r_1, .ref q0]) C0 (g_X8_within l G S d p1 0 8 ) ok_X8_within (mW193 : Cond.methodLink RX8 71 yX8_within ∈ wsT) ⟨Nat.le_of_ble_eq_true rfl, Nat.le_of_ble_eq_true rfl⟩ hP hD hK hN rfl hl.1 rfl (Nat.le_of_ble_eq_true rfl) ⟨Nat.le_of_ble_eq_true rfl, Nat.le_of_ble_eq_true rfl⟩ dX8_sum_10 (fun r_2 hr_2 => ?_)
  refine ySri (As := [.int r_2]) (rest := [.int r_1, .ref q0]) C0 (g_X8_number l G S d r_2 ) ok_X8_number (mW196 : Cond.methodLink RX8 54 yX8_number ∈ wsT) ⟨Nat.le_of_ble_eq_true rfl, Nat.le_of_ble_eq_true rfl⟩ hP hD hK hN rfl hl.1 rfl (Nat.le_of_ble_eq_true rfl) ⟨Nat.le_of_ble_eq_true rfl, Nat.le_of_ble_eq_true rfl⟩ dX8_sum_13 (fun r_3 hr_3 => ?_)
  refine ySri (As := [.int r_1, .int r_3]) (rest := [.ref q0]) C0 (g_X8_least l G S d r_1 r_3 ) ok_X8_least (mW199 : Cond.methodLink RX8 58 yX8_least ∈ wsT) ⟨Nat.le_of_ble_eq_true rfl, Nat.le_of_ble_eq_true rfl⟩ hP hD hK hN rfl hl.1 rfl (Nat.le_of_ble_eq_true rfl) ⟨Nat.le_of_ble_eq_true rfl, Nat.le_of_ble_eq_true rfl⟩ dX8_sum_16 (fun r_4 hr_4 => ?_)
  refine yVwi (As := [.int r_4]) (rest := []) C0 (g_X8_refused l G S d q0 r_4 hSh hPo hm_q0 hk_q0) ok_X8_refused (mW160 : Cond.methodLink RX8 42 yX8_refused ∈ wsT) ⟨Nat.le_of_ble_eq_true rfl, Nat.le_of_ble_eq_true rfl⟩ hP hD hS hA hK hN hm_q0 hk_q0 (by decide) rfl rfl rfl hl.1 rfl (Nat.le_of_ble_eq_true rfl) ⟨Nat.le_of_ble_eq_true rfl, Nat.le_of_ble_eq_true rfl⟩ dX8_sum_19 (fun r_5 d_6 H locs hr_5 hP hD hS => ?_)
  obtain ⟨hgad_6, hpad_6, hxd_6⟩ := hr_5
  have hgd_6 : yAg S [3, 5, 7, 8, 22, 23, 24] d d_6 := yAg.tr hg0 hgad_6 (by first | decide | exact fun _ h => h)
  have hPod_6 : yPo S d_6 := hpad_6 hPo
  refine lv_if_eq (tgt := 29) hx hb dX8_sum_22 (by decide) (fun c_7 => ?_) (fun c_7 => ?_)
  · refine lv_aload_n hx hb dX8_sum_29 rfl (lv_at hl 0 rfl) ?_
    refine yget (ci := 8) (k := 2) (v := .ref (S.2.2.1 q0 2)) (C := RX8) (T := TX8) (N := 6) C0 hK hP hm_q0 hk_q0 (by decide) rfl inlX8 (by decide) mW21 (fun _ h9 => h9) rfl dX8_sum_30 ?_
    obtain ⟨hmy_8, hky_8⟩ := ySh.f8_2 hSh _ hm_q0 hk_q0
    refine lv_aload_n hx hb dX8_sum_33 rfl (lv_at hl 0 rfl) ?_
    refine yget (ci := 8) (k := 0) (v := .ref (S.2.2.1 q0 0)) (C := RX8) (T := TX8) (N := 6) C0 hK hP hm_q0 hk_q0 (by decide) rfl inlX8 (by decide) mW16 (fun _ h9 => h9) rfl dX8_sum_34 ?_
    obtain ⟨hmy_9, hky_9⟩ := ySh.f8_0 hSh _ hm_q0 hk_q0
    refine lv_iload_n hx hb dX8_sum_37 rfl (lv_at hl 1 rfl) ?_
    refine yVri (As := [.int p0]) (rest := [.ref (S.2.2.1 q0 2)]) C0 (g_X0_groupOf l G S d_6 (S.2.2.1 q0 0) p0 hSh hmy_9 hky_9) ok_X0_groupOf (mW694 : Cond.methodLink RX8 258 yX0_groupOf ∈ wsT) ⟨Nat.le_of_ble_eq_true rfl, Nat.le_of_ble_eq_true rfl⟩ hP hD hK hN hmy_9 hky_9 (by decide) rfl rfl rfl hl.1 rfl (Nat.le_of_ble_eq_true rfl) ⟨Nat.le_of_ble_eq_true rfl, Nat.le_of_ble_eq_true rfl⟩ dX8_sum_38 (fun r_10 hr_10 => ?_)
    refine lv_iload_n hx hb dX8_sum_41 rfl (lv_at hl 3 rfl) ?_
    refine yVwv (As := [.int r_10, .int p2]) (rest := []) C0 (g_X3_read l G S d_6 (S.2.2.1 q0 2) r_10 p2 hSh hPod_6 hmy_8 hky_8 hz_p2) ok_X3_read (mW699 : Cond.methodLink RX8 261 yX3_read ∈ wsT) ⟨Nat.le_of_ble_eq_true rfl, Nat.le_of_ble_eq_true rfl⟩ hP hD hS hA hK hN hmy_8 hky_8 (by decide) rfl rfl rfl hl.1 rfl (Nat.le_of_ble_eq_true rfl) ⟨Nat.le_of_ble_eq_true rfl, Nat.le_of_ble_eq_true rfl⟩ dX8_sum_42 (fun d_12 H locs hr_11 hP hD hS => ?_)
    obtain ⟨hgad_12, hpad_12, hxd_12⟩ := hr_11
    have hgd_12 : yAg S [3, 5, 7, 8, 22, 23, 24] d d_12 := yAg.tr hgd_6 hgad_12 (by first | decide | exact fun _ h => h)
    have hPod_12 : yPo S d_12 := hpad_12 hPod_6
    refine lv_aload_n hx hb dX8_sum_45 rfl (lv_at hl 0 rfl) ?_
    refine yget (ci := 8) (k := 2) (v := .ref (S.2.2.1 q0 2)) (C := RX8) (T := TX8) (N := 6) C0 hK hP hm_q0 hk_q0 (by decide) rfl inlX8 (by decide) mW21 (fun _ h9 => h9) rfl dX8_sum_46 ?_
    refine yVwv (As := []) (rest := []) C0 (g_X3_settle l G S d_12 (S.2.2.1 q0 2) hSh hPod_12 hmy_8 hky_8) ok_X3_settle (mW952 : Cond.methodLink RX8 289 yX3_settle ∈ wsT) ⟨Nat.le_of_ble_eq_true rfl, Nat.le_of_ble_eq_true rfl⟩ hP hD hS hA hK hN hmy_8 hky_8 (by decide) rfl rfl rfl hl.1 rfl (Nat.le_of_ble_eq_true rfl) ⟨Nat.le_of_ble_eq_true rfl, Nat.le_of_ble_eq_true rfl⟩ dX8_sum_49 (fun d_14 H locs hr_13 hP hD hS => ?_)
    obtain ⟨hgad_14, hpad_14, hxd_14⟩ := hr_13
    have hgd_14 : yAg S [3, 5, 7, 8, 22, 23, 24] d d_14 := yAg.tr hgd_12 hgad_14 (by first | decide | exact fun _ h => h)
    have hPod_14 : yPo S d_14 := hpad_14 hPod_12
    refine lv_iload_n hx hb dX8_sum_52 rfl (lv_at hl 2 rfl) ?_
    rcases xtab p1 8 (by decide) with hsw_15 | ⟨k_16, hk_16, hsw_15⟩
    · refine lv_tableOut (tgt := 183) hx hb dX8_sum_53 (by omega) (by decide) ?_
      refine lv_aload_n hx hb dX8_sum_183 rfl (lv_at hl 0 rfl) ?_
      refine yget (ci := 8) (k := 2) (v := .ref (S.2.2.1 q0 2)) (C := RX8) (T := TX8) (N := 6) C0 hK hP hm_q0 hk_q0 (by decide) rfl inlX8 (by decide) mW21 (fun _ h9 => h9) rfl dX8_sum_184 ?_
      refine yget (ci := 3) (k := 7) (v := .int (d_14.1 (S.2.2.1 q0 2) 7)) (C := RX3) (T := TX3) (N := 16) C0 hK hP hmy_8 hky_8 (by decide) rfl inlX3 (by decide) mW951 (fun _ h9 => h9) rfl dX8_sum_187 ?_
      refine lv_topi (fun z_17 ez_17 => ?_)
      refine lv_i2l hx hb dX8_sum_190 rfl ?_
      refine lv_topl (fun z_18 ez_18 => ?_)
      exact W.lret (v := z_18) hx hb hr (fun t ht hW => ⟨⟨z_18, d_14, rfl, ⟨hgd_14, (fun _ => hPod_14), ((congrFun (hgad_14 q0 (by rw [hk_q0]; decide)).1 4).trans ((congrFun (hgad_12 q0 (by rw [hk_q0]; decide)).1 4).trans (hxd_6.2)))⟩, by rw [ht]; exact hP, hD⟩, hS.F ht⟩) hS.2.2 dX8_sum_191
    · obtain rfl | rfl | rfl | rfl | rfl | rfl | rfl | rfl : k_16 = 0 ∨ k_16 = 1 ∨ k_16 = 2 ∨ k_16 = 3 ∨ k_16 = 4 ∨ k_16 = 5 ∨ k_16 = 6 ∨ k_16 = 7 := by omega
      · subst hsw_15
        refine lv_tableIn (tgt := 100) (off := 47) hx hb dX8_sum_53 (by decide +kernel) (by decide +kernel) (by decide +kernel) (by decide) ?_
        refine lv_aload_n hx hb dX8_sum_100 rfl (lv_at hl 0 rfl) ?_
        refine yget (ci := 8) (k := 2) (v := .ref (S.2.2.1 q0 2)) (C := RX8) (T := TX8) (N := 6) C0 hK hP hm_q0 hk_q0 (by decide) rfl inlX8 (by decide) mW21 (fun _ h9 => h9) rfl dX8_sum_101 ?_
        refine yget (ci := 3) (k := 11) (v := .long (d_14.2.1 (S.2.2.1 q0 2) 11)) (C := RX3) (T := TX3) (N := 16) C0 hK hP hmy_8 hky_8 (by decide) rfl inlX3 (by decide) mW947 (fun _ h9 => h9) rfl dX8_sum_104 ?_
        refine lv_topl (fun z_19 ez_19 => ?_)
        exact W.lret (v := z_19) hx hb hr (fun t ht hW => ⟨⟨z_19, d_14, rfl, ⟨hgd_14, (fun _ => hPod_14), ((congrFun (hgad_14 q0 (by rw [hk_q0]; decide)).1 4).trans ((congrFun (hgad_12 q0 (by rw [hk_q0]; decide)).1 4).trans (hxd_6.2)))⟩, by rw [ht]; exact hP, hD⟩, hS.F ht⟩) hS.2.2 dX8_sum_107
      · subst hsw_15
        refine lv_tableIn (tgt := 108) (off := 55) hx hb dX8_sum_53 (by decide +kernel) (by decide +kernel) (by decide +kernel) (by decide) ?_
        refine lv_aload_n hx hb dX8_sum_108 rfl (lv_at hl 0 rfl) ?_
        refine yget (ci := 8) (k := 2) (v := .ref (S.2.2.1 q0 2)) (C := RX8) (T := TX8) (N := 6) C0 hK hP hm_q0 hk_q0 (by decide) rfl inlX8 (by decide) mW21 (fun _ h9 => h9) rfl dX8_sum_109 ?_
        refine yget (ci := 3) (k := 9) (v := .long (d_14.2.1 (S.2.2.1 q0 2) 9)) (C := RX3) (T := TX3) (N := 16) C0 hK hP hmy_8 hky_8 (by decide) rfl inlX3 (by decide) mW948 (fun _ h9 => h9) rfl dX8_sum_112 ?_
        refine lv_topl (fun z_20 ez_20 => ?_)
        exact W.lret (v := z_20) hx hb hr (fun t ht hW => ⟨⟨z_20, d_14, rfl, ⟨hgd_14, (fun _ => hPod_14), ((congrFun (hgad_14 q0 (by rw [hk_q0]; decide)).1 4).trans ((congrFun (hgad_12 q0 (by rw [hk_q0]; decide)).1 4).trans (hxd_6.2)))⟩, by rw [ht]; exact hP, hD⟩, hS.F ht⟩) hS.2.2 dX8_sum_115
      · subst hsw_15
        refine lv_tableIn (tgt := 116) (off := 63) hx hb dX8_sum_53 (by decide +kernel) (by decide +kernel) (by decide +kernel) (by decide) ?_
        refine lv_aload_n hx hb dX8_sum_116 rfl (lv_at hl 0 rfl) ?_
        refine yget (ci := 8) (k := 2) (v := .ref (S.2.2.1 q0 2)) (C := RX8) (T := TX8) (N := 6) C0 hK hP hm_q0 hk_q0 (by decide) rfl inlX8 (by decide) mW21 (fun _ h9 => h9) rfl dX8_sum_117 ?_
        refine yget (ci := 3) (k := 12) (v := .int (d_14.1 (S.2.2.1 q0 2) 12)) (C := RX3) (T := TX3) (N := 16) C0 hK hP hmy_8 hky_8 (by decide) rfl inlX3 (by decide) mW949 (fun _ h9 => h9) rfl dX8_sum_120 ?_
        refine lv_topi (fun z_21 ez_21 => ?_)
        have hzz_21 : z_21 = 0 ∨ z_21 = 1 := by rw [ez_21]; exact yPo.b hPod_14 hmy_8 hky_8 rfl
        refine lv_if_eq (tgt := 137) hx hb dX8_sum_123 (by decide) (fun c_22 => ?_) (fun c_22 => ?_)
        · refine lv_ldc2 (v := (-1)) hx hb hown (htl (.constantLong RX8 251 (-1)) mW669) dX8_sum_137 ?_
          exact W.lret (v := (-1)) hx hb hr (fun t ht hW => ⟨⟨(-1), d_14, rfl, ⟨hgd_14, (fun _ => hPod_14), ((congrFun (hgad_14 q0 (by rw [hk_q0]; decide)).1 4).trans ((congrFun (hgad_12 q0 (by rw [hk_q0]; decide)).1 4).trans (hxd_6.2)))⟩, by rw [ht]; exact hP, hD⟩, hS.F ht⟩) hS.2.2 dX8_sum_140
        · refine lv_aload_n hx hb dX8_sum_126 rfl (lv_at hl 0 rfl) ?_
          refine yget (ci := 8) (k := 2) (v := .ref (S.2.2.1 q0 2)) (C := RX8) (T := TX8) (N := 6) C0 hK hP hm_q0 hk_q0 (by decide) rfl inlX8 (by decide) mW21 (fun _ h9 => h9) rfl dX8_sum_127 ?_
          refine yget (ci := 3) (k := 13) (v := .int (d_14.1 (S.2.2.1 q0 2) 13)) (C := RX3) (T := TX3) (N := 16) C0 hK hP hmy_8 hky_8 (by decide) rfl inlX3 (by decide) mW950 (fun _ h9 => h9) rfl dX8_sum_130 ?_
          refine lv_topi (fun z_23 ez_23 => ?_)
          refine lv_i2l hx hb dX8_sum_133 rfl ?_
          refine lv_topl (fun z_24 ez_24 => ?_)
          refine lv_goto (tgt := 140) hx hb dX8_sum_134 (by decide) ?_
          exact W.lret (v := z_24) hx hb hr (fun t ht hW => ⟨⟨z_24, d_14, rfl, ⟨hgd_14, (fun _ => hPod_14), ((congrFun (hgad_14 q0 (by rw [hk_q0]; decide)).1 4).trans ((congrFun (hgad_12 q0 (by rw [hk_q0]; decide)).1 4).trans (hxd_6.2)))⟩, by rw [ht]; exact hP, hD⟩, hS.F ht⟩) hS.2.2 dX8_sum_140
      · subst hsw_15
        refine lv_tableIn (tgt := 141) (off := 88) hx hb dX8_sum_53 (by decide +kernel) (by decide +kernel) (by decide +kernel) (by decide) ?_
        refine lv_aload_n hx hb dX8_sum_141 rfl (lv_at hl 0 rfl) ?_
        refine yget (ci := 8) (k := 2) (v := .ref (S.2.2.1 q0 2)) (C := RX8) (T := TX8) (N := 6) C0 hK hP hm_q0 hk_q0 (by decide) rfl inlX8 (by decide) mW21 (fun _ h9 => h9) rfl dX8_sum_142 ?_
        refine yVrl (As := []) (rest := []) C0 (g_X3_owed l G S d_14 (S.2.2.1 q0 2) hSh hmy_8 hky_8) ok_X3_owed (mW958 : Cond.methodLink RX8 303 yX3_owed ∈ wsT) ⟨Nat.le_of_ble_eq_true rfl, Nat.le_of_ble_eq_true rfl⟩ hP hD hK hN hmy_8 hky_8 (by decide) rfl rfl rfl hl.1 rfl (Nat.le_of_ble_eq_true rfl) ⟨Nat.le_of_ble_eq_true rfl, Nat.le_of_ble_eq_true rfl⟩ dX8_sum_145 (fun r_25 hr_25 => ?_)
        exact W.lret (v := r_25) hx hb hr (fun t ht hW => ⟨⟨r_25, d_14, rfl, ⟨hgd_14, (fun _ => hPod_14), ((congrFun (hgad_14 q0 (by rw [hk_q0]; decide)).1 4).trans ((congrFun (hgad_12 q0 (by rw [hk_q0]; decide)).1 4).trans (hxd_6.2)))⟩, by rw [ht]; exact hP, hD⟩, hS.F ht⟩) hS.2.2 dX8_sum_148
      · subst hsw_15
        refine lv_tableIn (tgt := 149) (off := 96) hx hb dX8_sum_53 (by decide +kernel) (by decide +kernel) (by decide +kernel) (by decide) ?_
        refine lv_aload_n hx hb dX8_sum_149 rfl (lv_at hl 0 rfl) ?_
        refine yget (ci := 8) (k := 2) (v := .ref (S.2.2.1 q0 2)) (C := RX8) (T := TX8) (N := 6) C0 hK hP hm_q0 hk_q0 (by decide) rfl inlX8 (by decide) mW21 (fun _ h9 => h9) rfl dX8_sum_150 ?_
        refine yVrl (As := []) (rest := []) C0 (g_X3_saved l G S d_14 (S.2.2.1 q0 2) hSh hmy_8 hky_8) ok_X3_saved (mW965 : Cond.methodLink RX8 307 yX3_saved ∈ wsT) ⟨Nat.le_of_ble_eq_true rfl, Nat.le_of_ble_eq_true rfl⟩ hP hD hK hN hmy_8 hky_8 (by decide) rfl rfl rfl hl.1 rfl (Nat.le_of_ble_eq_true rfl) ⟨Nat.le_of_ble_eq_true rfl, Nat.le_of_ble_eq_true rfl⟩ dX8_sum_153 (fun r_26 hr_26 => ?_)
        exact W.lret (v := r_26) hx hb hr (fun t ht hW => ⟨⟨r_26, d_14, rfl, ⟨hgd_14, (fun _ => hPod_14), ((congrFun (hgad_14 q0 (by rw [hk_q0]; decide)).1 4).trans ((congrFun (hgad_12 q0 (by rw [hk_q0]; decide)).1 4).trans (hxd_6.2)))⟩, by rw [ht]; exact hP, hD⟩, hS.F ht⟩) hS.2.2 dX8_sum_156
      · subst hsw_15
        refine lv_tableIn (tgt := 157) (off := 104) hx hb dX8_sum_53 (by decide +kernel) (by decide +kernel) (by decide +kernel) (by decide) ?_
        refine lv_aload_n hx hb dX8_sum_157 rfl (lv_at hl 0 rfl) ?_
        refine yget (ci := 8) (k := 2) (v := .ref (S.2.2.1 q0 2)) (C := RX8) (T := TX8) (N := 6) C0 hK hP hm_q0 hk_q0 (by decide) rfl inlX8 (by decide) mW21 (fun _ h9 => h9) rfl dX8_sum_158 ?_
        refine yVrl (As := []) (rest := []) C0 (g_X3_money l G S d_14 (S.2.2.1 q0 2) hSh hmy_8 hky_8) ok_X3_money (mW969 : Cond.methodLink RX8 310 yX3_money ∈ wsT) ⟨Nat.le_of_ble_eq_true rfl, Nat.le_of_ble_eq_true rfl⟩ hP hD hK hN hmy_8 hky_8 (by decide) rfl rfl rfl hl.1 rfl (Nat.le_of_ble_eq_true rfl) ⟨Nat.le_of_ble_eq_true rfl, Nat.le_of_ble_eq_true rfl⟩ dX8_sum_161 (fun r_27 hr_27 => ?_)
        exact W.lret (v := r_27) hx hb hr (fun t ht hW => ⟨⟨r_27, d_14, rfl, ⟨hgd_14, (fun _ => hPod_14), ((congrFun (hgad_14 q0 (by rw [hk_q0]; decide)).1 4).trans ((congrFun (hgad_12 q0 (by rw [hk_q0]; decide)).1 4).trans (hxd_6.2)))⟩, by rw [ht]; exact hP, hD⟩, hS.F ht⟩) hS.2.2 dX8_sum_164
      · subst hsw_15
        refine lv_tableIn (tgt := 165) (off := 112) hx hb dX8_sum_53 (by decide +kernel) (by decide +kernel) (by decide +kernel) (by decide) ?_
        refine lv_aload_n hx hb dX8_sum_165 rfl (lv_at hl 0 rfl) ?_
        refine yget (ci := 8) (k := 2) (v := .ref (S.2.2.1 q0 2)) (C := RX8) (T := TX8) (N := 6) C0 hK hP hm_q0 hk_q0 (by decide) rfl inlX8 (by decide) mW21 (fun _ h9 => h9) rfl dX8_sum_166 ?_
        refine yVri (As := []) (rest := []) C0 (g_X3_minutes l G S d_14 (S.2.2.1 q0 2) hSh hmy_8 hky_8) ok_X3_minutes (mW982 : Cond.methodLink RX8 313 yX3_minutes ∈ wsT) ⟨Nat.le_of_ble_eq_true rfl, Nat.le_of_ble_eq_true rfl⟩ hP hD hK hN hmy_8 hky_8 (by decide) rfl rfl rfl hl.1 rfl (Nat.le_of_ble_eq_true rfl) ⟨Nat.le_of_ble_eq_true rfl, Nat.le_of_ble_eq_true rfl⟩ dX8_sum_169 (fun r_28 hr_28 => ?_)
        refine lv_i2l hx hb dX8_sum_172 rfl ?_
        refine lv_topl (fun z_29 ez_29 => ?_)
        exact W.lret (v := z_29) hx hb hr (fun t ht hW => ⟨⟨z_29, d_14, rfl, ⟨hgd_14, (fun _ => hPod_14), ((congrFun (hgad_14 q0 (by rw [hk_q0]; decide)).1 4).trans ((congrFun (hgad_12 q0 (by rw [hk_q0]; decide)).1 4).trans (hxd_6.2)))⟩, by rw [ht]; exact hP, hD⟩, hS.F ht⟩) hS.2.2 dX8_sum_173
      · subst hsw_15
        refine lv_tableIn (tgt := 174) (off := 121) hx hb dX8_sum_53 (by decide +kernel) (by decide +kernel) (by decide +kernel) (by decide) ?_
        refine lv_aload_n hx hb dX8_sum_174 rfl (lv_at hl 0 rfl) ?_
        refine yget (ci := 8) (k := 2) (v := .ref (S.2.2.1 q0 2)) (C := RX8) (T := TX8) (N := 6) C0 hK hP hm_q0 hk_q0 (by decide) rfl inlX8 (by decide) mW21 (fun _ h9 => h9) rfl dX8_sum_175 ?_
        refine yVri (As := []) (rest := []) C0 (g_X3_leastPort l G S d_14 (S.2.2.1 q0 2) hSh hmy_8 hky_8) ok_X3_leastPort (mW986 : Cond.methodLink RX8 316 yX3_leastPort ∈ wsT) ⟨Nat.le_of_ble_eq_true rfl, Nat.le_of_ble_eq_true rfl⟩ hP hD hK hN hmy_8 hky_8 (by decide) rfl rfl rfl hl.1 rfl (Nat.le_of_ble_eq_true rfl) ⟨Nat.le_of_ble_eq_true rfl, Nat.le_of_ble_eq_true rfl⟩ dX8_sum_178 (fun r_30 hr_30 => ?_)
        refine lv_i2l hx hb dX8_sum_181 rfl ?_
        refine lv_topl (fun z_31 ez_31 => ?_)
        exact W.lret (v := z_31) hx hb hr (fun t ht hW => ⟨⟨z_31, d_14, rfl, ⟨hgd_14, (fun _ => hPod_14), ((congrFun (hgad_14 q0 (by rw [hk_q0]; decide)).1 4).trans ((congrFun (hgad_12 q0 (by rw [hk_q0]; decide)).1 4).trans (hxd_6.2)))⟩, by rw [ht]; exact hP, hD⟩, hS.F ht⟩) hS.2.2 dX8_sum_182
  · refine lv_ldc2 (v := (-1)) hx hb hown (htl (.constantLong RX8 251 (-1)) mW669) dX8_sum_25 ?_
    exact W.lret (v := (-1)) hx hb hr (fun t ht hW => ⟨⟨(-1), d_6, rfl, ⟨hgd_6, (fun _ => hPod_6), (hxd_6.2)⟩, by rw [ht]; exact hP, hD⟩, hS.F ht⟩) hS.2.2 dX8_sum_28
theorem dX8_check_0 : decode cX8_check 0 = .ok (.aload_n 0, 1) := by decide +kernel
theorem dX8_check_1 : decode cX8_check 1 = .ok (.getfield 12, 3) := by decide +kernel
theorem dX8_check_4 : decode cX8_check 4 = .ok (.getfield 325, 3) := by decide +kernel
theorem dX8_check_7 : decode cX8_check 7 = .ok (.getfield 333, 3) := by decide +kernel
theorem dX8_check_10 : decode cX8_check 10 = .ok (.istore_n 3, 1) := by decide +kernel
theorem dX8_check_11 : decode cX8_check 11 = .ok (.aload_n 0, 1) := by decide +kernel
theorem dX8_check_12 : decode cX8_check 12 = .ok (.iload_n 3, 1) := by decide +kernel
theorem dX8_check_13 : decode cX8_check 13 = .ok (.iconst (-1), 1) := by decide +kernel
theorem dX8_check_14 : decode cX8_check 14 = .ok (.if_icmp .ne 7, 3) := by decide +kernel
theorem dX8_check_17 : decode cX8_check 17 = .ok (.iconst 2, 1) := by decide +kernel
theorem dX8_check_18 : decode cX8_check 18 = .ok (.goto 8, 3) := by decide +kernel
theorem dX8_check_21 : decode cX8_check 21 = .ok (.aload_n 0, 1) := by decide +kernel
theorem dX8_check_22 : decode cX8_check 22 = .ok (.iload_n 3, 1) := by decide +kernel
theorem dX8_check_23 : decode cX8_check 23 = .ok (.invokevirtual 124, 3) := by decide +kernel
theorem dX8_check_26 : decode cX8_check 26 = .ok (.invokevirtual 42, 3) := by decide +kernel
theorem dX8_check_29 : decode cX8_check 29 = .ok (.ifCond .eq 6, 3) := by decide +kernel
theorem dX8_check_32 : decode cX8_check 32 = .ok (.bipush (-4), 2) := by decide +kernel
theorem dX8_check_34 : decode cX8_check 34 = .ok (.ireturn, 1) := by decide +kernel
theorem dX8_check_35 : decode cX8_check 35 = .ok (.aload_n 0, 1) := by decide +kernel
theorem dX8_check_36 : decode cX8_check 36 = .ok (.getfield 24, 3) := by decide +kernel
theorem dX8_check_39 : decode cX8_check 39 = .ok (.aload_n 0, 1) := by decide +kernel
theorem dX8_check_40 : decode cX8_check 40 = .ok (.getfield 12, 3) := by decide +kernel
theorem dX8_check_43 : decode cX8_check 43 = .ok (.iload_n 3, 1) := by decide +kernel
theorem dX8_check_44 : decode cX8_check 44 = .ok (.invokevirtual 258, 3) := by decide +kernel
theorem dX8_check_47 : decode cX8_check 47 = .ok (.iload_n 2, 1) := by decide +kernel
theorem dX8_check_48 : decode cX8_check 48 = .ok (.invokevirtual 261, 3) := by decide +kernel
theorem dX8_check_51 : decode cX8_check 51 = .ok (.aload_n 0, 1) := by decide +kernel
theorem dX8_check_52 : decode cX8_check 52 = .ok (.getfield 24, 3) := by decide +kernel
theorem dX8_check_55 : decode cX8_check 55 = .ok (.aload_n 0, 1) := by decide +kernel
theorem dX8_check_56 : decode cX8_check 56 = .ok (.getfield 12, 3) := by decide +kernel
theorem dX8_check_59 : decode cX8_check 59 = .ok (.getfield 325, 3) := by decide +kernel
theorem dX8_check_62 : decode cX8_check 62 = .ok (.invokevirtual 341, 3) := by decide +kernel
theorem dX8_check_65 : decode cX8_check 65 = .ok (.istore 4, 2) := by decide +kernel
theorem dX8_check_67 : decode cX8_check 67 = .ok (.iload 4, 2) := by decide +kernel
theorem dX8_check_69 : decode cX8_check 69 = .ok (.iconst (-1), 1) := by decide +kernel
theorem dX8_check_70 : decode cX8_check 70 = .ok (.if_icmp .eq 6, 3) := by decide +kernel
theorem dX8_check_73 : decode cX8_check 73 = .ok (.iload 4, 2) := by decide +kernel
theorem dX8_check_75 : decode cX8_check 75 = .ok (.ireturn, 1) := by decide +kernel
theorem dX8_check_76 : decode cX8_check 76 = .ok (.aload_n 0, 1) := by decide +kernel
theorem dX8_check_77 : decode cX8_check 77 = .ok (.getfield 24, 3) := by decide +kernel
theorem dX8_check_80 : decode cX8_check 80 = .ok (.iload_n 3, 1) := by decide +kernel
theorem dX8_check_81 : decode cX8_check 81 = .ok (.iconst 0, 1) := by decide +kernel
theorem dX8_check_82 : decode cX8_check 82 = .ok (.ldc 240, 2) := by decide +kernel
theorem dX8_check_84 : decode cX8_check 84 = .ok (.invokevirtual 280, 3) := by decide +kernel
theorem dX8_check_87 : decode cX8_check 87 = .ok (.iload_n 1, 1) := by decide +kernel
theorem dX8_check_88 : decode cX8_check 88 = .ok (.if_icmp .ne 7, 3) := by decide +kernel
theorem dX8_check_91 : decode cX8_check 91 = .ok (.iconst (-1), 1) := by decide +kernel
theorem dX8_check_92 : decode cX8_check 92 = .ok (.goto 5, 3) := by decide +kernel
theorem dX8_check_95 : decode cX8_check 95 = .ok (.bipush (-2), 2) := by decide +kernel
theorem dX8_check_97 : decode cX8_check 97 = .ok (.ireturn, 1) := by decide +kernel
set_option maxHeartbeats 4000000 in
set_option maxRecDepth 100000 in
theorem g_X8_check (l : Launch) (G : xG) (S : yS) (d : yD) (q0 : Nat) (p0 : Int32) (p1 : Int32) (hSh : ySh S) (hPo : yPo S d) (hm_q0 : q0 ∈ S.1) (hk_q0 : S.2.1 q0 = 8) (hz_p1 : p1 = 0 ∨ p1 = 1) : xWi l G yX8_check cX8_check 5 (some .int) 7 173 0 0 [.ref q0, .int p0, .int p1] (yW G S d) (fun r (u : yD) => yAg S [3, 5, 7, 8, 22, 23, 24] d u ∧ (yPo S d → yPo S u) ∧ (u.1 q0 4 = d.1 q0 4)) (fun u => yW G S u) := by
  intro sz
  refine xstart (by decide) (Nat.le_of_ble_eq_true rfl) (fun p e s m args below meth c ls C0 hr hlocks hin hsz hP hK hD hN hl => ?_)
  obtain ⟨hx, hb, hml, hown, htl⟩ := id C0
  subst hsz
  have hD := hD.self (sz := s.heap.size)
  generalize hAe : va_A (yW G S d) s.heap.size = A at hD ⊢
  have hA : ∀ q : Nat, s.heap.size ≤ q → A q := fun q h => by rw [← hAe]; exact Or.inr h
  have hS : va_S A s.heap s.heap [] := va_S.rf
  have hg0 : yAg S [3, 5, 7, 8, 22, 23, 24] d d := yAg.rf
  have hl : lv_has ls 5 [(0, .ref q0), (1, .int p0), (2, .int p1)] := hl
  refine lv_aload_n hx hb dX8_check_0 rfl (lv_at hl 0 rfl) ?_
  refine yget (ci := 8) (k := 0) (v := .ref (S.2.2.1 q0 0)) (C := RX8) (T := TX8) (N := 6) C0 hK hP hm_q0 hk_q0 (by decide) rfl inlX8 (by decide) mW16 (fun _ h9 => h9) rfl dX8_check_1 ?_
  obtain ⟨hmy_1, hky_1⟩ := ySh.f8_0 hSh _ hm_q0 hk_q0
  refine yget (ci := 0) (k := 2) (v := .ref (S.2.2.1 (S.2.2.1 q0 0) 2)) (C := RX0) (T := TX0) (N := 6) C0 hK hP hmy_1 hky_1 (by decide) rfl inlX0 (by decide) mW1028 (fun _ h9 => h9) rfl dX8_check_4 ?_
  obtain ⟨hmy_2, hky_2⟩ := ySh.f0_2 hSh _ hmy_1 hky_1
  refine yget (ci := 1) (k := 3) (v := .int (d.1 (S.2.2.1 (S.2.2.1 q0 0) 2) 3)) (C := RX1) (T := TX1) (N := 4) C0 hK hP hmy_2 hky_2 (by decide) rfl inlX1 (by decide) mW1042 (fun _ h9 => h9) rfl dX8_check_7 ?_
  refine lv_topi (fun z_3 ez_3 => ?_)
  refine lv_istore_n (lv' := [(3, .int z_3), (0, .ref q0), (1, .int p0), (2, .int p1)]) hx hb dX8_check_10 rfl hl (by decide) rfl (fun ls hl => ?_)
  refine lv_aload_n hx hb dX8_check_11 rfl (lv_at hl 1 rfl) ?_
  refine lv_iload_n hx hb dX8_check_12 rfl (lv_at hl 0 rfl) ?_
  refine lv_iconst (v := (-1)) hx hb dX8_check_13 (by decide) ?_
  refine yjoinR (σ := Int32) 26 (fun x ls st => st = [.int x, .ref q0] ∧ lv_has ls 5 [(3, .int z_3), (0, .ref q0), (1, .int p0), (2, .int p1)]) (fun x ls st hI => ?_) (fun J26_4 => ?_)
  · obtain ⟨v_4, rfl⟩ : ∃ z, z = x := ⟨_, rfl⟩
    obtain ⟨rfl, hl⟩ := hI
    have hl : lv_has ls 5 [(3, .int z_3), (0, .ref q0), (1, .int p0), (2, .int p1)] := hl
    refine yVwi (As := [.int v_4]) (rest := []) C0 (g_X8_refused l G S d q0 v_4 hSh hPo hm_q0 hk_q0) ok_X8_refused (mW160 : Cond.methodLink RX8 42 yX8_refused ∈ wsT) ⟨Nat.le_of_ble_eq_true rfl, Nat.le_of_ble_eq_true rfl⟩ hP hD hS hA hK hN hm_q0 hk_q0 (by decide) rfl rfl rfl hl.1 rfl (Nat.le_of_ble_eq_true rfl) ⟨Nat.le_of_ble_eq_true rfl, Nat.le_of_ble_eq_true rfl⟩ dX8_check_26 (fun r_5 d_6 H locs hr_5 hP hD hS => ?_)
    obtain ⟨hgad_6, hpad_6, hxd_6⟩ := hr_5
    have hgd_6 : yAg S [3, 5, 7, 8, 22, 23, 24] d d_6 := yAg.tr hg0 hgad_6 (by first | decide | exact fun _ h => h)
    have hPod_6 : yPo S d_6 := hpad_6 hPo
    refine lv_if_eq (tgt := 35) hx hb dX8_check_29 (by decide) (fun c_7 => ?_) (fun c_7 => ?_)
    · refine lv_aload_n hx hb dX8_check_35 rfl (lv_at hl 1 rfl) ?_
      refine yget (ci := 8) (k := 2) (v := .ref (S.2.2.1 q0 2)) (C := RX8) (T := TX8) (N := 6) C0 hK hP hm_q0 hk_q0 (by decide) rfl inlX8 (by decide) mW21 (fun _ h9 => h9) rfl dX8_check_36 ?_
      obtain ⟨hmy_8, hky_8⟩ := ySh.f8_2 hSh _ hm_q0 hk_q0
      refine lv_aload_n hx hb dX8_check_39 rfl (lv_at hl 1 rfl) ?_
      refine yget (ci := 8) (k := 0) (v := .ref (S.2.2.1 q0 0)) (C := RX8) (T := TX8) (N := 6) C0 hK hP hm_q0 hk_q0 (by decide) rfl inlX8 (by decide) mW16 (fun _ h9 => h9) rfl dX8_check_40 ?_
      refine lv_iload_n hx hb dX8_check_43 rfl (lv_at hl 0 rfl) ?_
      refine yVri (As := [.int z_3]) (rest := [.ref (S.2.2.1 q0 2)]) C0 (g_X0_groupOf l G S d_6 (S.2.2.1 q0 0) z_3 hSh hmy_1 hky_1) ok_X0_groupOf (mW694 : Cond.methodLink RX8 258 yX0_groupOf ∈ wsT) ⟨Nat.le_of_ble_eq_true rfl, Nat.le_of_ble_eq_true rfl⟩ hP hD hK hN hmy_1 hky_1 (by decide) rfl rfl rfl hl.1 rfl (Nat.le_of_ble_eq_true rfl) ⟨Nat.le_of_ble_eq_true rfl, Nat.le_of_ble_eq_true rfl⟩ dX8_check_44 (fun r_9 hr_9 => ?_)
      refine lv_iload_n hx hb dX8_check_47 rfl (lv_at hl 3 rfl) ?_
      refine yVwv (As := [.int r_9, .int p1]) (rest := []) C0 (g_X3_read l G S d_6 (S.2.2.1 q0 2) r_9 p1 hSh hPod_6 hmy_8 hky_8 hz_p1) ok_X3_read (mW699 : Cond.methodLink RX8 261 yX3_read ∈ wsT) ⟨Nat.le_of_ble_eq_true rfl, Nat.le_of_ble_eq_true rfl⟩ hP hD hS hA hK hN hmy_8 hky_8 (by decide) rfl rfl rfl hl.1 rfl (Nat.le_of_ble_eq_true rfl) ⟨Nat.le_of_ble_eq_true rfl, Nat.le_of_ble_eq_true rfl⟩ dX8_check_48 (fun d_11 H locs hr_10 hP hD hS => ?_)
      obtain ⟨hgad_11, hpad_11, hxd_11⟩ := hr_10
      have hgd_11 : yAg S [3, 5, 7, 8, 22, 23, 24] d d_11 := yAg.tr hgd_6 hgad_11 (by first | decide | exact fun _ h => h)
      have hPod_11 : yPo S d_11 := hpad_11 hPod_6
      refine lv_aload_n hx hb dX8_check_51 rfl (lv_at hl 1 rfl) ?_
      refine yget (ci := 8) (k := 2) (v := .ref (S.2.2.1 q0 2)) (C := RX8) (T := TX8) (N := 6) C0 hK hP hm_q0 hk_q0 (by decide) rfl inlX8 (by decide) mW21 (fun _ h9 => h9) rfl dX8_check_52 ?_
      refine lv_aload_n hx hb dX8_check_55 rfl (lv_at hl 1 rfl) ?_
      refine yget (ci := 8) (k := 0) (v := .ref (S.2.2.1 q0 0)) (C := RX8) (T := TX8) (N := 6) C0 hK hP hm_q0 hk_q0 (by decide) rfl inlX8 (by decide) mW16 (fun _ h9 => h9) rfl dX8_check_56 ?_
      refine yget (ci := 0) (k := 2) (v := .ref (S.2.2.1 (S.2.2.1 q0 0) 2)) (C := RX0) (T := TX0) (N := 6) C0 hK hP hmy_1 hky_1 (by decide) rfl inlX0 (by decide) mW1028 (fun _ h9 => h9) rfl dX8_check_59 ?_
      refine yVwi (As := [.ref (S.2.2.1 (S.2.2.1 q0 0) 2)]) (rest := []) C0 (g_X3_firstWrong l G S d_11 (S.2.2.1 q0 2) (S.2.2.1 (S.2.2.1 q0 0) 2) hSh hPod_11 hmy_8 hky_8 hmy_2 hky_2) ok_X3_firstWrong (mW1056 : Cond.methodLink RX8 341 yX3_firstWrong ∈ wsT) ⟨Nat.le_of_ble_eq_true rfl, Nat.le_of_ble_eq_true rfl⟩ hP hD hS hA hK hN hmy_8 hky_8 (by decide) rfl rfl rfl hl.1 rfl (Nat.le_of_ble_eq_true rfl) ⟨Nat.le_of_ble_eq_true rfl, Nat.le_of_ble_eq_true rfl⟩ dX8_check_62 (fun r_12 d_13 H locs hr_12 hP hD hS => ?_)
      obtain ⟨hgad_13, hpad_13, hxd_13⟩ := hr_12
      have hgd_13 : yAg S [3, 5, 7, 8, 22, 23, 24] d d_13 := yAg.tr hgd_11 hgad_13 (by first | decide | exact fun _ h => h)
      have hPod_13 : yPo S d_13 := hpad_13 hPod_11
      refine lv_istore (lv' := [(4, .int r_12), (3, .int z_3), (0, .ref q0), (1, .int p0), (2, .int p1)]) hx hb dX8_check_65 hl (by decide) rfl (fun ls hl => ?_)
      refine lv_iload hx hb dX8_check_67 (lv_at hl 0 rfl) ?_
      refine lv_iconst (v := (-1)) hx hb dX8_check_69 (by decide) ?_
      refine lv_icmp_eq (tgt := 76) hx hb dX8_check_70 (by decide) (fun c_14 => ?_) (fun c_14 => ?_)
      · refine lv_aload_n hx hb dX8_check_76 rfl (lv_at hl 2 rfl) ?_
        refine yget (ci := 8) (k := 2) (v := .ref (S.2.2.1 q0 2)) (C := RX8) (T := TX8) (N := 6) C0 hK hP hm_q0 hk_q0 (by decide) rfl inlX8 (by decide) mW21 (fun _ h9 => h9) rfl dX8_check_77 ?_
        refine lv_iload_n hx hb dX8_check_80 rfl (lv_at hl 1 rfl) ?_
        refine lv_iconst (v := 0) hx hb dX8_check_81 (by decide) ?_
        refine lv_ldc (v := 129600) hx hb hown (htl (.constant RX8 240 (129600)) mW209) dX8_check_82 ?_
        refine yVwi (As := [.int z_3, .int 0, .int 129600]) (rest := []) C0 (g_X3_halvesOf l G S d_13 (S.2.2.1 q0 2) z_3 0 129600 hSh hPod_13 hmy_8 hky_8) ok_X3_halvesOf (mW917 : Cond.methodLink RX8 280 yX3_halvesOf ∈ wsT) ⟨Nat.le_of_ble_eq_true rfl, Nat.le_of_ble_eq_true rfl⟩ hP hD hS hA hK hN hmy_8 hky_8 (by decide) rfl rfl rfl hl.1 rfl (Nat.le_of_ble_eq_true rfl) ⟨Nat.le_of_ble_eq_true rfl, Nat.le_of_ble_eq_true rfl⟩ dX8_check_84 (fun r_15 d_16 H locs hr_15 hP hD hS => ?_)
        obtain ⟨hgad_16, hpad_16, hxd_16⟩ := hr_15
        have hgd_16 : yAg S [3, 5, 7, 8, 22, 23, 24] d d_16 := yAg.tr hgd_13 hgad_16 (by first | decide | exact fun _ h => h)
        have hPod_16 : yPo S d_16 := hpad_16 hPod_13
        refine lv_iload_n hx hb dX8_check_87 rfl (lv_at hl 3 rfl) ?_
        refine lv_icmp_ne (tgt := 95) hx hb dX8_check_88 (by decide) (fun c_17 => ?_) (fun c_17 => ?_)
        · refine lv_bipush (v := (-2)) hx hb dX8_check_95 (by decide) ?_
          exact W.iret (v := (-2)) hx hb hr (fun t ht hW => ⟨⟨(-2), d_16, rfl, ⟨hgd_16, (fun _ => hPod_16), ((congrFun (hgad_16 q0 (by rw [hk_q0]; decide)).1 4).trans ((congrFun (hgad_13 q0 (by rw [hk_q0]; decide)).1 4).trans ((congrFun (hgad_11 q0 (by rw [hk_q0]; decide)).1 4).trans (hxd_6.2))))⟩, by rw [ht]; exact hP, hD⟩, hS.F ht⟩) hS.2.2 dX8_check_97
        · refine lv_iconst (v := (-1)) hx hb dX8_check_91 (by decide) ?_
          refine lv_goto (tgt := 97) hx hb dX8_check_92 (by decide) ?_
          exact W.iret (v := (-1)) hx hb hr (fun t ht hW => ⟨⟨(-1), d_16, rfl, ⟨hgd_16, (fun _ => hPod_16), ((congrFun (hgad_16 q0 (by rw [hk_q0]; decide)).1 4).trans ((congrFun (hgad_13 q0 (by rw [hk_q0]; decide)).1 4).trans ((congrFun (hgad_11 q0 (by rw [hk_q0]; decide)).1 4).trans (hxd_6.2))))⟩, by rw [ht]; exact hP, hD⟩, hS.F ht⟩) hS.2.2 dX8_check_97
      · refine lv_iload hx hb dX8_check_73 (lv_at hl 0 rfl) ?_
        exact W.iret (v := r_12) hx hb hr (fun t ht hW => ⟨⟨r_12, d_13, rfl, ⟨hgd_13, (fun _ => hPod_13), ((congrFun (hgad_13 q0 (by rw [hk_q0]; decide)).1 4).trans ((congrFun (hgad_11 q0 (by rw [hk_q0]; decide)).1 4).trans (hxd_6.2)))⟩, by rw [ht]; exact hP, hD⟩, hS.F ht⟩) hS.2.2 dX8_check_75
    · refine lv_bipush (v := (-4)) hx hb dX8_check_32 (by decide) ?_
      exact W.iret (v := (-4)) hx hb hr (fun t ht hW => ⟨⟨(-4), d_6, rfl, ⟨hgd_6, (fun _ => hPod_6), (hxd_6.2)⟩, by rw [ht]; exact hP, hD⟩, hS.F ht⟩) hS.2.2 dX8_check_34
  refine lv_icmp_ne (tgt := 21) hx hb dX8_check_14 (by decide) (fun c_18 => ?_) (fun c_18 => ?_)
  · refine lv_aload_n hx hb dX8_check_21 rfl (lv_at hl 1 rfl) ?_
    refine lv_iload_n hx hb dX8_check_22 rfl (lv_at hl 0 rfl) ?_
    refine yVri (As := [.int z_3]) (rest := [.ref q0]) C0 (g_X8_portReason l G S d q0 z_3 hSh hm_q0 hk_q0) ok_X8_portReason (mW374 : Cond.methodLink RX8 124 yX8_portReason ∈ wsT) ⟨Nat.le_of_ble_eq_true rfl, Nat.le_of_ble_eq_true rfl⟩ hP hD hK hN hm_q0 hk_q0 (by decide) rfl rfl rfl hl.1 rfl (Nat.le_of_ble_eq_true rfl) ⟨Nat.le_of_ble_eq_true rfl, Nat.le_of_ble_eq_true rfl⟩ dX8_check_23 (fun r_19 hr_19 => ?_)
    exact J26_4 r_19 ls _ ⟨rfl, lv_sub hl [0, 1, 2, 3] rfl⟩
  · refine lv_iconst (v := 2) hx hb dX8_check_17 (by decide) ?_
    refine lv_goto (tgt := 26) hx hb dX8_check_18 (by decide) ?_
    exact J26_4 2 ls _ ⟨rfl, lv_sub hl [0, 1, 2, 3] rfl⟩
theorem dX8_weight_0 : decode cX8_weight 0 = .ok (.aload_n 0, 1) := by decide +kernel
theorem dX8_weight_1 : decode cX8_weight 1 = .ok (.aload_n 0, 1) := by decide +kernel
theorem dX8_weight_2 : decode cX8_weight 2 = .ok (.iload_n 1, 1) := by decide +kernel
theorem dX8_weight_3 : decode cX8_weight 3 = .ok (.invokevirtual 124, 3) := by decide +kernel
theorem dX8_weight_6 : decode cX8_weight 6 = .ok (.iload_n 2, 1) := by decide +kernel
theorem dX8_weight_7 : decode cX8_weight 7 = .ok (.iconst 0, 1) := by decide +kernel
theorem dX8_weight_8 : decode cX8_weight 8 = .ok (.iconst 1, 1) := by decide +kernel
theorem dX8_weight_9 : decode cX8_weight 9 = .ok (.invokestatic 71, 3) := by decide +kernel
theorem dX8_weight_12 : decode cX8_weight 12 = .ok (.invokestatic 54, 3) := by decide +kernel
theorem dX8_weight_15 : decode cX8_weight 15 = .ok (.invokestatic 58, 3) := by decide +kernel
theorem dX8_weight_18 : decode cX8_weight 18 = .ok (.invokevirtual 42, 3) := by decide +kernel
theorem dX8_weight_21 : decode cX8_weight 21 = .ok (.ifCond .eq 7, 3) := by decide +kernel
theorem dX8_weight_24 : decode cX8_weight 24 = .ok (.ldc2_w 251, 3) := by decide +kernel
theorem dX8_weight_27 : decode cX8_weight 27 = .ok (.lreturn, 1) := by decide +kernel
theorem dX8_weight_28 : decode cX8_weight 28 = .ok (.aload_n 0, 1) := by decide +kernel
theorem dX8_weight_29 : decode cX8_weight 29 = .ok (.getfield 12, 3) := by decide +kernel
theorem dX8_weight_32 : decode cX8_weight 32 = .ok (.iload_n 1, 1) := by decide +kernel
theorem dX8_weight_33 : decode cX8_weight 33 = .ok (.invokevirtual 114, 3) := by decide +kernel
theorem dX8_weight_36 : decode cX8_weight 36 = .ok (.getfield 186, 3) := by decide +kernel
theorem dX8_weight_39 : decode cX8_weight 39 = .ok (.lstore_n 3, 1) := by decide +kernel
theorem dX8_weight_40 : decode cX8_weight 40 = .ok (.iload_n 2, 1) := by decide +kernel
theorem dX8_weight_41 : decode cX8_weight 41 = .ok (.ifCond .ne 11, 3) := by decide +kernel
theorem dX8_weight_44 : decode cX8_weight 44 = .ok (.lload_n 3, 1) := by decide +kernel
theorem dX8_weight_45 : decode cX8_weight 45 = .ok (.ldc2_w 253, 3) := by decide +kernel
theorem dX8_weight_48 : decode cX8_weight 48 = .ok (.ldiv, 1) := by decide +kernel
theorem dX8_weight_49 : decode cX8_weight 49 = .ok (.goto 8, 3) := by decide +kernel
theorem dX8_weight_52 : decode cX8_weight 52 = .ok (.lload_n 3, 1) := by decide +kernel
theorem dX8_weight_53 : decode cX8_weight 53 = .ok (.ldc2_w 253, 3) := by decide +kernel
theorem dX8_weight_56 : decode cX8_weight 56 = .ok (.lrem, 1) := by decide +kernel
theorem dX8_weight_57 : decode cX8_weight 57 = .ok (.lreturn, 1) := by decide +kernel
set_option maxHeartbeats 4000000 in
set_option maxRecDepth 100000 in
theorem g_X8_weight (l : Launch) (G : xG) (S : yS) (d : yD) (q0 : Nat) (p0 : Int32) (p1 : Int32) (hSh : ySh S) (hPo : yPo S d) (hm_q0 : q0 ∈ S.1) (hk_q0 : S.2.1 q0 = 8) : xWl l G yX8_weight cX8_weight 5 (some .long) 2 43 0 0 [.ref q0, .int p0, .int p1] (yW G S d) (fun r (u : yD) => yAg S [8, 24] d u ∧ (yPo S d → yPo S u) ∧ (((r = -1 ∧ ¬ (0 ≤ p0.toInt ∧ p0.toInt ≤ 7 ∧ 0 < (d.1 (yPA S (S.2.2.1 q0 0) p0) 2).toInt ∧ 0 ≤ p1.toInt ∧ p1.toInt ≤ 1)) ∨ ((0 ≤ p0.toInt ∧ p0.toInt ≤ 7 ∧ 0 < (d.1 (yPA S (S.2.2.1 q0 0) p0) 2).toInt ∧ 0 ≤ p1.toInt ∧ p1.toInt ≤ 1) ∧ (p1.toInt = 0 → r = d.2.1 (yPA S (S.2.2.1 q0 0) p0) 8 / 1000) ∧ (p1.toInt = 1 → r = d.2.1 (yPA S (S.2.2.1 q0 0) p0) 8 - d.2.1 (yPA S (S.2.2.1 q0 0) p0) 8 / 1000 * 1000))) ∧ u.1 q0 4 = d.1 q0 4)) (fun u => yW G S u) := by
  intro sz
  refine xstart (by decide) (Nat.le_of_ble_eq_true rfl) (fun p e s m args below meth c ls C0 hr hlocks hin hsz hP hK hD hN hl => ?_)
  obtain ⟨hx, hb, hml, hown, htl⟩ := id C0
  subst hsz
  have hD := hD.self (sz := s.heap.size)
  generalize hAe : va_A (yW G S d) s.heap.size = A at hD ⊢
  have hA : ∀ q : Nat, s.heap.size ≤ q → A q := fun q h => by rw [← hAe]; exact Or.inr h
  have hS : va_S A s.heap s.heap [] := va_S.rf
  have hg0 : yAg S [8, 24] d d := yAg.rf
  have hl : lv_has ls 5 [(0, .ref q0), (1, .int p0), (2, .int p1)] := hl
  refine lv_aload_n hx hb dX8_weight_0 rfl (lv_at hl 0 rfl) ?_
  refine lv_aload_n hx hb dX8_weight_1 rfl (lv_at hl 0 rfl) ?_
  refine lv_iload_n hx hb dX8_weight_2 rfl (lv_at hl 1 rfl) ?_
  refine yVri (As := [.int p0]) (rest := [.ref q0]) C0 (g_X8_portReason l G S d q0 p0 hSh hm_q0 hk_q0) ok_X8_portReason (mW374 : Cond.methodLink RX8 124 yX8_portReason ∈ wsT) ⟨Nat.le_of_ble_eq_true rfl, Nat.le_of_ble_eq_true rfl⟩ hP hD hK hN hm_q0 hk_q0 (by decide) rfl rfl rfl hl.1 rfl (Nat.le_of_ble_eq_true rfl) ⟨Nat.le_of_ble_eq_true rfl, Nat.le_of_ble_eq_true rfl⟩ dX8_weight_3 (fun r_1 hr_1 => ?_)
  have tr_1 := tp_ hr_1
  refine lv_iload_n hx hb dX8_weight_6 rfl (lv_at hl 2 rfl) ?_
  refine lv_iconst (v := 0) hx hb dX8_weight_7 (by decide) ?_
  refine lv_iconst (v := 1) hx hb dX8_weight_8 (by decide) ?_
  refine ySri (As := [.int p1, .int 0, .int 1]) (rest := [.int r_1, .ref q0]) C0 (g_X8_within l G S d p1 0 1 ) ok_X8_within (mW193 : Cond.methodLink RX8 71 yX8_within ∈ wsT) ⟨Nat.le_of_ble_eq_true rfl, Nat.le_of_ble_eq_true rfl⟩ hP hD hK hN rfl hl.1 rfl (Nat.le_of_ble_eq_true rfl) ⟨Nat.le_of_ble_eq_true rfl, Nat.le_of_ble_eq_true rfl⟩ dX8_weight_9 (fun r_2 hr_2 => ?_)
  have hL_3 : (0 : Int32).toInt = 0 := by decide +kernel
  have hL_4 : (1 : Int32).toInt = 1 := by decide +kernel
  have tr_2 := tw_ hr_2
  refine ySri (As := [.int r_2]) (rest := [.int r_1, .ref q0]) C0 (g_X8_number l G S d r_2 ) ok_X8_number (mW196 : Cond.methodLink RX8 54 yX8_number ∈ wsT) ⟨Nat.le_of_ble_eq_true rfl, Nat.le_of_ble_eq_true rfl⟩ hP hD hK hN rfl hl.1 rfl (Nat.le_of_ble_eq_true rfl) ⟨Nat.le_of_ble_eq_true rfl, Nat.le_of_ble_eq_true rfl⟩ dX8_weight_12 (fun r_5 hr_5 => ?_)
  have tr_5 := tn_ hr_5
  refine ySri (As := [.int r_1, .int r_5]) (rest := [.ref q0]) C0 (g_X8_least l G S d r_1 r_5 ) ok_X8_least (mW199 : Cond.methodLink RX8 58 yX8_least ∈ wsT) ⟨Nat.le_of_ble_eq_true rfl, Nat.le_of_ble_eq_true rfl⟩ hP hD hK hN rfl hl.1 rfl (Nat.le_of_ble_eq_true rfl) ⟨Nat.le_of_ble_eq_true rfl, Nat.le_of_ble_eq_true rfl⟩ dX8_weight_15 (fun r_6 hr_6 => ?_)
  have tr_6 := tl_ hr_6
  refine yVwi (As := [.int r_6]) (rest := []) C0 (g_X8_refused l G S d q0 r_6 hSh hPo hm_q0 hk_q0) ok_X8_refused (mW160 : Cond.methodLink RX8 42 yX8_refused ∈ wsT) ⟨Nat.le_of_ble_eq_true rfl, Nat.le_of_ble_eq_true rfl⟩ hP hD hS hA hK hN hm_q0 hk_q0 (by decide) rfl rfl rfl hl.1 rfl (Nat.le_of_ble_eq_true rfl) ⟨Nat.le_of_ble_eq_true rfl, Nat.le_of_ble_eq_true rfl⟩ dX8_weight_18 (fun r_7 d_8 H locs hr_7 hP hD hS => ?_)
  obtain ⟨hgad_8, hpad_8, hxd_8⟩ := hr_7
  have hgd_8 : yAg S [8, 24] d d_8 := yAg.tr hg0 hgad_8 (by first | decide | exact fun _ h => h)
  have hPod_8 : yPo S d_8 := hpad_8 hPo
  have tr_7 := tr_ hxd_8.1
  refine lv_if_eq (tgt := 28) hx hb dX8_weight_21 (by decide) (fun c_9 => ?_) (fun c_9 => ?_)
  · refine lv_aload_n hx hb dX8_weight_28 rfl (lv_at hl 0 rfl) ?_
    refine yget (ci := 8) (k := 0) (v := .ref (S.2.2.1 q0 0)) (C := RX8) (T := TX8) (N := 6) C0 hK hP hm_q0 hk_q0 (by decide) rfl inlX8 (by decide) mW16 (fun _ h9 => h9) rfl dX8_weight_29 ?_
    obtain ⟨hmy_10, hky_10⟩ := ySh.f8_0 hSh _ hm_q0 hk_q0
    refine lv_iload_n hx hb dX8_weight_32 rfl (lv_at hl 1 rfl) ?_
    refine yVrr (As := [.int p0]) (rest := []) C0 (g_X0_portAt l G S d_8 (S.2.2.1 q0 0) p0 hSh hmy_10 hky_10) ok_X0_portAt (mW337 : Cond.methodLink RX8 114 yX0_portAt ∈ wsT) ⟨Nat.le_of_ble_eq_true rfl, Nat.le_of_ble_eq_true rfl⟩ hP hD hK hN hmy_10 hky_10 (by decide) rfl rfl rfl hl.1 rfl (Nat.le_of_ble_eq_true rfl) ⟨Nat.le_of_ble_eq_true rfl, Nat.le_of_ble_eq_true rfl⟩ dX8_weight_33 (fun r_11 hr_11 => ?_)
    obtain ⟨hmr_11, hkr_11, her_11⟩ := hr_11
    refine yget (ci := 4) (k := 8) (v := .long (d_8.2.1 r_11 8)) (C := RX4) (T := TX4) (N := 11) C0 hK hP hmr_11 hkr_11 (by decide) rfl inlX4 (by decide) mW507 (fun _ h9 => h9) rfl dX8_weight_36 ?_
    refine lv_topl (fun z_12 ez_12 => ?_)
    refine lv_lstore_n (lv' := [(3, .long z_12), (0, .ref q0), (1, .int p0), (2, .int p1)]) hx hb dX8_weight_39 rfl hl (by decide) rfl (fun ls hl => ?_)
    refine lv_iload_n hx hb dX8_weight_40 rfl (lv_at hl 3 rfl) ?_
    refine lv_if_ne (tgt := 52) hx hb dX8_weight_41 (by decide) (fun c_13 => ?_) (fun c_13 => ?_)
    · refine lv_lload_n hx hb dX8_weight_52 rfl (lv_at hl 0 rfl) ?_
      refine lv_ldc2 (v := 1000) hx hb hown (htl (.constantLong RX8 253 (1000)) mW670) dX8_weight_53 ?_
      refine lv_lrem hx hb dX8_weight_56 (by decide) ?_
      refine lv_topl (fun z_14 ez_14 => ?_)
      have F_15 := feq (rfl : (r_7 : Int32).toInt = (r_7 : Int32).toInt) (by decide +kernel : (0 : Int32).toInt = 0) c_9
      have F_16 := fne (rfl : (p1 : Int32).toInt = (p1 : Int32).toInt) (by decide +kernel : (0 : Int32).toInt = 0) c_13
      have hzt_ : z_12 = d.2.1 (yPA S (S.2.2.1 q0 0) p0) 8 := by rw [← her_11]; exact ez_12.trans (congrFun (yAg.o hgad_8 (a := r_11) (by rw [hkr_11]; decide)).2 8)
      exact W.lret (v := z_14) hx hb hr (fun t ht hW => ⟨⟨z_14, d_8, rfl, ⟨hgd_8, (fun _ => hPod_8), ⟨Or.inr ⟨by omega, (fun q => by omega), (fun q => by rw [ez_14, hzt_])⟩, (hxd_8.2)⟩⟩, by rw [ht]; exact hP, hD⟩, hS.F ht⟩) hS.2.2 dX8_weight_57
    · refine lv_lload_n hx hb dX8_weight_44 rfl (lv_at hl 0 rfl) ?_
      refine lv_ldc2 (v := 1000) hx hb hown (htl (.constantLong RX8 253 (1000)) mW670) dX8_weight_45 ?_
      refine lv_ldiv hx hb dX8_weight_48 (by decide) ?_
      refine lv_topl (fun z_17 ez_17 => ?_)
      refine lv_goto (tgt := 57) hx hb dX8_weight_49 (by decide) ?_
      have F_18 := feq (rfl : (r_7 : Int32).toInt = (r_7 : Int32).toInt) (by decide +kernel : (0 : Int32).toInt = 0) c_9
      have F_19 := feq (rfl : (p1 : Int32).toInt = (p1 : Int32).toInt) (by decide +kernel : (0 : Int32).toInt = 0) c_13
      have hzt_ : z_12 = d.2.1 (yPA S (S.2.2.1 q0 0) p0) 8 := by rw [← her_11]; exact ez_12.trans (congrFun (yAg.o hgad_8 (a := r_11) (by rw [hkr_11]; decide)).2 8)
      exact W.lret (v := z_17) hx hb hr (fun t ht hW => ⟨⟨z_17, d_8, rfl, ⟨hgd_8, (fun _ => hPod_8), ⟨Or.inr ⟨by omega, (fun q => by rw [ez_17, hzt_]), (fun q => by omega)⟩, (hxd_8.2)⟩⟩, by rw [ht]; exact hP, hD⟩, hS.F ht⟩) hS.2.2 dX8_weight_57
  · refine lv_ldc2 (v := (-1)) hx hb hown (htl (.constantLong RX8 251 (-1)) mW669) dX8_weight_24 ?_
    have F_20 := fne (rfl : (r_7 : Int32).toInt = (r_7 : Int32).toInt) (by decide +kernel : (0 : Int32).toInt = 0) c_9
    exact W.lret (v := (-1)) hx hb hr (fun t ht hW => ⟨⟨(-1), d_8, rfl, ⟨hgd_8, (fun _ => hPod_8), ⟨Or.inl ⟨rfl, by omega⟩, (hxd_8.2)⟩⟩, by rw [ht]; exact hP, hD⟩, hS.F ht⟩) hS.2.2 dX8_weight_27
theorem dX8_claim_0 : decode cX8_claim 0 = .ok (.aload_n 0, 1) := by decide +kernel
theorem dX8_claim_1 : decode cX8_claim 1 = .ok (.aload_n 0, 1) := by decide +kernel
theorem dX8_claim_2 : decode cX8_claim 2 = .ok (.iload_n 1, 1) := by decide +kernel
theorem dX8_claim_3 : decode cX8_claim 3 = .ok (.invokevirtual 124, 3) := by decide +kernel
theorem dX8_claim_6 : decode cX8_claim 6 = .ok (.invokevirtual 42, 3) := by decide +kernel
theorem dX8_claim_9 : decode cX8_claim 9 = .ok (.ifCond .eq 5, 3) := by decide +kernel
theorem dX8_claim_12 : decode cX8_claim 12 = .ok (.iconst 0, 1) := by decide +kernel
theorem dX8_claim_13 : decode cX8_claim 13 = .ok (.ireturn, 1) := by decide +kernel
theorem dX8_claim_14 : decode cX8_claim 14 = .ok (.aload_n 0, 1) := by decide +kernel
theorem dX8_claim_15 : decode cX8_claim 15 = .ok (.getfield 12, 3) := by decide +kernel
theorem dX8_claim_18 : decode cX8_claim 18 = .ok (.getfield 325, 3) := by decide +kernel
theorem dX8_claim_21 : decode cX8_claim 21 = .ok (.iload_n 1, 1) := by decide +kernel
theorem dX8_claim_22 : decode cX8_claim 22 = .ok (.invokevirtual 329, 3) := by decide +kernel
theorem dX8_claim_25 : decode cX8_claim 25 = .ok (.iconst 1, 1) := by decide +kernel
theorem dX8_claim_26 : decode cX8_claim 26 = .ok (.ireturn, 1) := by decide +kernel
set_option maxHeartbeats 4000000 in
set_option maxRecDepth 100000 in
theorem g_X8_claim (l : Launch) (G : xG) (S : yS) (d : yD) (q0 : Nat) (p0 : Int32) (hSh : ySh S) (hPo : yPo S d) (hm_q0 : q0 ∈ S.1) (hk_q0 : S.2.1 q0 = 8) : xWi l G yX8_claim cX8_claim 2 (some .boolean) 2 43 0 0 [.ref q0, .int p0] (yW G S d) (fun r (u : yD) => yAg S [1, 8, 24] d u ∧ (yPo S d → yPo S u) ∧ (((r.toInt = 0 ∧ ¬ (0 ≤ p0.toInt ∧ p0.toInt ≤ 7 ∧ 0 < (d.1 (yPA S (S.2.2.1 q0 0) p0) 2).toInt) ∧ zKp S 1 d u) ∨ (r.toInt = 1 ∧ (0 ≤ p0.toInt ∧ p0.toInt ≤ 7 ∧ 0 < (d.1 (yPA S (S.2.2.1 q0 0) p0) 2).toInt) ∧ u.1 (S.2.2.1 (S.2.2.1 q0 0) 2) 3 = p0 ∧ u.1 (S.2.2.1 (S.2.2.1 q0 0) 2) 2 = 0 ∧ ∀ a, S.2.1 a = 1 → a ≠ (S.2.2.1 (S.2.2.1 q0 0) 2) → u.1 a = d.1 a ∧ u.2.1 a = d.2.1 a)) ∧ u.1 q0 4 = d.1 q0 4)) (fun u => yW G S u) := by
  intro sz
  refine xstart (by decide) (Nat.le_of_ble_eq_true rfl) (fun p e s m args below meth c ls C0 hr hlocks hin hsz hP hK hD hN hl => ?_)
  obtain ⟨hx, hb, hml, hown, htl⟩ := id C0
  subst hsz
  have hD := hD.self (sz := s.heap.size)
  generalize hAe : va_A (yW G S d) s.heap.size = A at hD ⊢
  have hA : ∀ q : Nat, s.heap.size ≤ q → A q := fun q h => by rw [← hAe]; exact Or.inr h
  have hS : va_S A s.heap s.heap [] := va_S.rf
  have hg0 : yAg S [1, 8, 24] d d := yAg.rf
  have hl : lv_has ls 2 [(0, .ref q0), (1, .int p0)] := hl
  refine lv_aload_n hx hb dX8_claim_0 rfl (lv_at hl 0 rfl) ?_
  refine lv_aload_n hx hb dX8_claim_1 rfl (lv_at hl 0 rfl) ?_
  refine lv_iload_n hx hb dX8_claim_2 rfl (lv_at hl 1 rfl) ?_
  refine yVri (As := [.int p0]) (rest := [.ref q0]) C0 (g_X8_portReason l G S d q0 p0 hSh hm_q0 hk_q0) ok_X8_portReason (mW374 : Cond.methodLink RX8 124 yX8_portReason ∈ wsT) ⟨Nat.le_of_ble_eq_true rfl, Nat.le_of_ble_eq_true rfl⟩ hP hD hK hN hm_q0 hk_q0 (by decide) rfl rfl rfl hl.1 rfl (Nat.le_of_ble_eq_true rfl) ⟨Nat.le_of_ble_eq_true rfl, Nat.le_of_ble_eq_true rfl⟩ dX8_claim_3 (fun r_1 hr_1 => ?_)
  have tr_1 := tp_ hr_1
  refine yVwi (As := [.int r_1]) (rest := []) C0 (g_X8_refused l G S d q0 r_1 hSh hPo hm_q0 hk_q0) ok_X8_refused (mW160 : Cond.methodLink RX8 42 yX8_refused ∈ wsT) ⟨Nat.le_of_ble_eq_true rfl, Nat.le_of_ble_eq_true rfl⟩ hP hD hS hA hK hN hm_q0 hk_q0 (by decide) rfl rfl rfl hl.1 rfl (Nat.le_of_ble_eq_true rfl) ⟨Nat.le_of_ble_eq_true rfl, Nat.le_of_ble_eq_true rfl⟩ dX8_claim_6 (fun r_2 d_3 H locs hr_2 hP hD hS => ?_)
  obtain ⟨hgad_3, hpad_3, hxd_3⟩ := hr_2
  have hgd_3 : yAg S [1, 8, 24] d d_3 := yAg.tr hg0 hgad_3 (by first | decide | exact fun _ h => h)
  have hPod_3 : yPo S d_3 := hpad_3 hPo
  have tr_2 := tr_ hxd_3.1
  refine lv_if_eq (tgt := 14) hx hb dX8_claim_9 (by decide) (fun c_4 => ?_) (fun c_4 => ?_)
  · refine lv_aload_n hx hb dX8_claim_14 rfl (lv_at hl 0 rfl) ?_
    refine yget (ci := 8) (k := 0) (v := .ref (S.2.2.1 q0 0)) (C := RX8) (T := TX8) (N := 6) C0 hK hP hm_q0 hk_q0 (by decide) rfl inlX8 (by decide) mW16 (fun _ h9 => h9) rfl dX8_claim_15 ?_
    obtain ⟨hmy_5, hky_5⟩ := ySh.f8_0 hSh _ hm_q0 hk_q0
    refine yget (ci := 0) (k := 2) (v := .ref (S.2.2.1 (S.2.2.1 q0 0) 2)) (C := RX0) (T := TX0) (N := 6) C0 hK hP hmy_5 hky_5 (by decide) rfl inlX0 (by decide) mW1028 (fun _ h9 => h9) rfl dX8_claim_18 ?_
    obtain ⟨hmy_6, hky_6⟩ := ySh.f0_2 hSh _ hmy_5 hky_5
    refine lv_iload_n hx hb dX8_claim_21 rfl (lv_at hl 1 rfl) ?_
    refine yVwv (As := [.int p0]) (rest := []) C0 (g_X1_begin l G S d_3 (S.2.2.1 (S.2.2.1 q0 0) 2) p0 hSh hPod_3 hmy_6 hky_6) ok_X1_begin (mW1029 : Cond.methodLink RX8 329 yX1_begin ∈ wsT) ⟨Nat.le_of_ble_eq_true rfl, Nat.le_of_ble_eq_true rfl⟩ hP hD hS hA hK hN hmy_6 hky_6 (by decide) rfl rfl rfl hl.1 rfl (Nat.le_of_ble_eq_true rfl) ⟨Nat.le_of_ble_eq_true rfl, Nat.le_of_ble_eq_true rfl⟩ dX8_claim_22 (fun d_8 H locs hr_7 hP hD hS => ?_)
    obtain ⟨hgad_8, hpad_8, hxd_8⟩ := hr_7
    have hgd_8 : yAg S [1, 8, 24] d d_8 := yAg.tr hgd_3 hgad_8 (by first | decide | exact fun _ h => h)
    have hPod_8 : yPo S d_8 := hpad_8 hPod_3
    refine lv_iconst (v := 1) hx hb dX8_claim_25 (by decide) ?_
    have F_9 := feq (rfl : (r_2 : Int32).toInt = (r_2 : Int32).toInt) (by decide +kernel : (0 : Int32).toInt = 0) c_4
    exact W.zret (v := 1) (ty := .boolean) hx hb hr rfl (fun t ht hW => ⟨⟨1, d_8, rfl, ⟨hgd_8, (fun _ => hPod_8), ⟨Or.inr ⟨by have h0_ : (1 : Int32).toInt = 1 := (by decide +kernel); omega, by omega, hxd_8.1, hxd_8.2.1, fun a ha hn => (o2 (yAg.o hgad_3 (by rw [ha]; decide)) (hxd_8.2.2 a ha hn))⟩, ((congrFun (hgad_8 q0 (by rw [hk_q0]; decide)).1 4).trans (hxd_3.2))⟩⟩, by rw [ht]; exact hP, hD⟩, hS.F ht⟩) hS.2.2 dX8_claim_26
  · refine lv_iconst (v := 0) hx hb dX8_claim_12 (by decide) ?_
    have F_10 := fne (rfl : (r_2 : Int32).toInt = (r_2 : Int32).toInt) (by decide +kernel : (0 : Int32).toInt = 0) c_4
    exact W.zret (v := 0) (ty := .boolean) hx hb hr rfl (fun t ht hW => ⟨⟨0, d_3, rfl, ⟨hgd_3, (fun _ => hPod_3), ⟨Or.inl ⟨by have h0_ : (0 : Int32).toInt = 0 := (by decide +kernel); omega, by omega, (fun a ha => (yAg.o hgad_3 (by rw [ha]; decide)))⟩, (hxd_3.2)⟩⟩, by rw [ht]; exact hP, hD⟩, hS.F ht⟩) hS.2.2 dX8_claim_13
theorem dX8_tell_0 : decode cX8_tell 0 = .ok (.iload_n 1, 1) := by decide +kernel
theorem dX8_tell_1 : decode cX8_tell 1 = .ok (.iconst 1, 1) := by decide +kernel
theorem dX8_tell_2 : decode cX8_tell 2 = .ok (.ldc 240, 2) := by decide +kernel
theorem dX8_tell_4 : decode cX8_tell 4 = .ok (.invokestatic 71, 3) := by decide +kernel
theorem dX8_tell_7 : decode cX8_tell 7 = .ok (.ifCond .eq 14, 3) := by decide +kernel
theorem dX8_tell_10 : decode cX8_tell 10 = .ok (.iload_n 2, 1) := by decide +kernel
theorem dX8_tell_11 : decode cX8_tell 11 = .ok (.invokestatic 283, 3) := by decide +kernel
theorem dX8_tell_14 : decode cX8_tell 14 = .ok (.ifCond .eq 7, 3) := by decide +kernel
theorem dX8_tell_17 : decode cX8_tell 17 = .ok (.iconst 1, 1) := by decide +kernel
theorem dX8_tell_18 : decode cX8_tell 18 = .ok (.goto 4, 3) := by decide +kernel
theorem dX8_tell_21 : decode cX8_tell 21 = .ok (.iconst 0, 1) := by decide +kernel
theorem dX8_tell_22 : decode cX8_tell 22 = .ok (.invokestatic 54, 3) := by decide +kernel
theorem dX8_tell_25 : decode cX8_tell 25 = .ok (.istore_n 3, 1) := by decide +kernel
theorem dX8_tell_26 : decode cX8_tell 26 = .ok (.iload_n 3, 1) := by decide +kernel
theorem dX8_tell_27 : decode cX8_tell 27 = .ok (.aload_n 0, 1) := by decide +kernel
theorem dX8_tell_28 : decode cX8_tell 28 = .ok (.getfield 12, 3) := by decide +kernel
theorem dX8_tell_31 : decode cX8_tell 31 = .ok (.getfield 325, 3) := by decide +kernel
theorem dX8_tell_34 : decode cX8_tell 34 = .ok (.getfield 333, 3) := by decide +kernel
theorem dX8_tell_37 : decode cX8_tell 37 = .ok (.iconst (-1), 1) := by decide +kernel
theorem dX8_tell_38 : decode cX8_tell 38 = .ok (.if_icmp .ne 7, 3) := by decide +kernel
theorem dX8_tell_41 : decode cX8_tell 41 = .ok (.iconst 2, 1) := by decide +kernel
theorem dX8_tell_42 : decode cX8_tell 42 = .ok (.goto 4, 3) := by decide +kernel
theorem dX8_tell_45 : decode cX8_tell 45 = .ok (.iconst 0, 1) := by decide +kernel
theorem dX8_tell_46 : decode cX8_tell 46 = .ok (.invokestatic 58, 3) := by decide +kernel
theorem dX8_tell_49 : decode cX8_tell 49 = .ok (.istore_n 3, 1) := by decide +kernel
theorem dX8_tell_50 : decode cX8_tell 50 = .ok (.aload_n 0, 1) := by decide +kernel
theorem dX8_tell_51 : decode cX8_tell 51 = .ok (.iload_n 3, 1) := by decide +kernel
theorem dX8_tell_52 : decode cX8_tell 52 = .ok (.aload_n 0, 1) := by decide +kernel
theorem dX8_tell_53 : decode cX8_tell 53 = .ok (.getfield 12, 3) := by decide +kernel
theorem dX8_tell_56 : decode cX8_tell 56 = .ok (.getfield 325, 3) := by decide +kernel
theorem dX8_tell_59 : decode cX8_tell 59 = .ok (.getfield 336, 3) := by decide +kernel
theorem dX8_tell_62 : decode cX8_tell 62 = .ok (.sipush 500, 3) := by decide +kernel
theorem dX8_tell_65 : decode cX8_tell 65 = .ok (.if_icmp .lt 7, 3) := by decide +kernel
theorem dX8_tell_68 : decode cX8_tell 68 = .ok (.iconst 5, 1) := by decide +kernel
theorem dX8_tell_69 : decode cX8_tell 69 = .ok (.goto 4, 3) := by decide +kernel
theorem dX8_tell_72 : decode cX8_tell 72 = .ok (.iconst 0, 1) := by decide +kernel
theorem dX8_tell_73 : decode cX8_tell 73 = .ok (.invokestatic 58, 3) := by decide +kernel
theorem dX8_tell_76 : decode cX8_tell 76 = .ok (.invokevirtual 42, 3) := by decide +kernel
theorem dX8_tell_79 : decode cX8_tell 79 = .ok (.ifCond .eq 5, 3) := by decide +kernel
theorem dX8_tell_82 : decode cX8_tell 82 = .ok (.iconst (-1), 1) := by decide +kernel
theorem dX8_tell_83 : decode cX8_tell 83 = .ok (.ireturn, 1) := by decide +kernel
theorem dX8_tell_84 : decode cX8_tell 84 = .ok (.aload_n 0, 1) := by decide +kernel
theorem dX8_tell_85 : decode cX8_tell 85 = .ok (.getfield 12, 3) := by decide +kernel
theorem dX8_tell_88 : decode cX8_tell 88 = .ok (.getfield 325, 3) := by decide +kernel
theorem dX8_tell_91 : decode cX8_tell 91 = .ok (.iload_n 1, 1) := by decide +kernel
theorem dX8_tell_92 : decode cX8_tell 92 = .ok (.iload_n 2, 1) := by decide +kernel
theorem dX8_tell_93 : decode cX8_tell 93 = .ok (.invokevirtual 339, 3) := by decide +kernel
theorem dX8_tell_96 : decode cX8_tell 96 = .ok (.aload_n 0, 1) := by decide +kernel
theorem dX8_tell_97 : decode cX8_tell 97 = .ok (.getfield 12, 3) := by decide +kernel
theorem dX8_tell_100 : decode cX8_tell 100 = .ok (.getfield 325, 3) := by decide +kernel
theorem dX8_tell_103 : decode cX8_tell 103 = .ok (.getfield 336, 3) := by decide +kernel
theorem dX8_tell_106 : decode cX8_tell 106 = .ok (.ireturn, 1) := by decide +kernel
set_option maxHeartbeats 4000000 in
set_option maxRecDepth 100000 in
theorem g_X8_tell (l : Launch) (G : xG) (S : yS) (d : yD) (q0 : Nat) (p0 : Int32) (p1 : Int32) (hSh : ySh S) (hPo : yPo S d) (hm_q0 : q0 ∈ S.1) (hk_q0 : S.2.1 q0 = 8) : xWi l G yX8_tell cX8_tell 4 (some .int) 2 44 0 0 [.ref q0, .int p0, .int p1] (yW G S d) (fun r (u : yD) => yAg S [1, 8, 18, 19, 24] d u ∧ (yPo S d → yPo S u) ∧ (((r.toInt = -1 ∧ ¬ (1 ≤ p0.toInt ∧ p0.toInt ≤ 129600 ∧ (p1.toInt = -2 ∨ p1.toInt = -3 ∨ (0 ≤ p1.toInt ∧ p1.toInt ≤ 59)) ∧ (d.1 (S.2.2.1 (S.2.2.1 q0 0) 2) 3).toInt ≠ -1 ∧ (d.1 (S.2.2.1 (S.2.2.1 q0 0) 2) 2).toInt < 500) ∧ zKp S 1 d u) ∨ ((1 ≤ p0.toInt ∧ p0.toInt ≤ 129600 ∧ (p1.toInt = -2 ∨ p1.toInt = -3 ∨ (0 ≤ p1.toInt ∧ p1.toInt ≤ 59)) ∧ (d.1 (S.2.2.1 (S.2.2.1 q0 0) 2) 3).toInt ≠ -1 ∧ (d.1 (S.2.2.1 (S.2.2.1 q0 0) 2) 2).toInt < 500) ∧ r = d.1 (S.2.2.1 (S.2.2.1 q0 0) 2) 2 + 1 ∧ u.1 (S.2.2.1 (S.2.2.1 q0 0) 2) 2 = d.1 (S.2.2.1 (S.2.2.1 q0 0) 2) 2 + 1 ∧ u.1 (S.2.2.1 (S.2.2.1 q0 0) 2) 3 = d.1 (S.2.2.1 (S.2.2.1 q0 0) 2) 3 ∧ ∀ a, S.2.1 a = 1 → a ≠ (S.2.2.1 (S.2.2.1 q0 0) 2) → u.1 a = d.1 a ∧ u.2.1 a = d.2.1 a)) ∧ u.1 q0 4 = d.1 q0 4)) (fun u => yW G S u) := by
  intro sz
  refine xstart (by decide) (Nat.le_of_ble_eq_true rfl) (fun p e s m args below meth c ls C0 hr hlocks hin hsz hP hK hD hN hl => ?_)
  obtain ⟨hx, hb, hml, hown, htl⟩ := id C0
  subst hsz
  have hD := hD.self (sz := s.heap.size)
  generalize hAe : va_A (yW G S d) s.heap.size = A at hD ⊢
  have hA : ∀ q : Nat, s.heap.size ≤ q → A q := fun q h => by rw [← hAe]; exact Or.inr h
  have hS : va_S A s.heap s.heap [] := va_S.rf
  have hg0 : yAg S [1, 8, 18, 19, 24] d d := yAg.rf
  have hl : lv_has ls 4 [(0, .ref q0), (1, .int p0), (2, .int p1)] := hl
  refine lv_iload_n hx hb dX8_tell_0 rfl (lv_at hl 1 rfl) ?_
  refine lv_iconst (v := 1) hx hb dX8_tell_1 (by decide) ?_
  refine lv_ldc (v := 129600) hx hb hown (htl (.constant RX8 240 (129600)) mW209) dX8_tell_2 ?_
  refine ySri (As := [.int p0, .int 1, .int 129600]) (rest := []) C0 (g_X8_within l G S d p0 1 129600 ) ok_X8_within (mW193 : Cond.methodLink RX8 71 yX8_within ∈ wsT) ⟨Nat.le_of_ble_eq_true rfl, Nat.le_of_ble_eq_true rfl⟩ hP hD hK hN rfl hl.1 rfl (Nat.le_of_ble_eq_true rfl) ⟨Nat.le_of_ble_eq_true rfl, Nat.le_of_ble_eq_true rfl⟩ dX8_tell_4 (fun r_1 hr_1 => ?_)
  have hL_2 : (1 : Int32).toInt = 1 := by decide +kernel
  have hL_3 : (129600 : Int32).toInt = 129600 := by decide +kernel
  have tr_1 := tw_ hr_1
  refine lv_if_eq (tgt := 21) hx hb dX8_tell_7 (by decide) (fun c_4 => ?_) (fun c_4 => ?_)
  · refine lv_iconst (v := 0) hx hb dX8_tell_21 (by decide) ?_
    refine ySri (As := [.int 0]) (rest := []) C0 (g_X8_number l G S d 0 ) ok_X8_number (mW196 : Cond.methodLink RX8 54 yX8_number ∈ wsT) ⟨Nat.le_of_ble_eq_true rfl, Nat.le_of_ble_eq_true rfl⟩ hP hD hK hN rfl hl.1 rfl (Nat.le_of_ble_eq_true rfl) ⟨Nat.le_of_ble_eq_true rfl, Nat.le_of_ble_eq_true rfl⟩ dX8_tell_22 (fun r_5 hr_5 => ?_)
    have hL_6 : (0 : Int32).toInt = 0 := by decide +kernel
    have tr_5 := tn_ hr_5
    refine lv_istore_n (lv' := [(3, .int r_5), (0, .ref q0), (1, .int p0), (2, .int p1)]) hx hb dX8_tell_25 rfl hl (by decide) rfl (fun ls hl => ?_)
    refine lv_iload_n hx hb dX8_tell_26 rfl (lv_at hl 0 rfl) ?_
    refine lv_aload_n hx hb dX8_tell_27 rfl (lv_at hl 1 rfl) ?_
    refine yget (ci := 8) (k := 0) (v := .ref (S.2.2.1 q0 0)) (C := RX8) (T := TX8) (N := 6) C0 hK hP hm_q0 hk_q0 (by decide) rfl inlX8 (by decide) mW16 (fun _ h9 => h9) rfl dX8_tell_28 ?_
    obtain ⟨hmy_7, hky_7⟩ := ySh.f8_0 hSh _ hm_q0 hk_q0
    refine yget (ci := 0) (k := 2) (v := .ref (S.2.2.1 (S.2.2.1 q0 0) 2)) (C := RX0) (T := TX0) (N := 6) C0 hK hP hmy_7 hky_7 (by decide) rfl inlX0 (by decide) mW1028 (fun _ h9 => h9) rfl dX8_tell_31 ?_
    obtain ⟨hmy_8, hky_8⟩ := ySh.f0_2 hSh _ hmy_7 hky_7
    refine yget (ci := 1) (k := 3) (v := .int (d.1 (S.2.2.1 (S.2.2.1 q0 0) 2) 3)) (C := RX1) (T := TX1) (N := 4) C0 hK hP hmy_8 hky_8 (by decide) rfl inlX1 (by decide) mW1042 (fun _ h9 => h9) rfl dX8_tell_34 ?_
    refine lv_topi (fun z_9 ez_9 => ?_)
    refine lv_iconst (v := (-1)) hx hb dX8_tell_37 (by decide) ?_
    refine lv_icmp_ne (tgt := 45) hx hb dX8_tell_38 (by decide) (fun c_10 => ?_) (fun c_10 => ?_)
    · refine lv_iconst (v := 0) hx hb dX8_tell_45 (by decide) ?_
      refine ySri (As := [.int r_5, .int 0]) (rest := []) C0 (g_X8_least l G S d r_5 0 ) ok_X8_least (mW199 : Cond.methodLink RX8 58 yX8_least ∈ wsT) ⟨Nat.le_of_ble_eq_true rfl, Nat.le_of_ble_eq_true rfl⟩ hP hD hK hN rfl hl.1 rfl (Nat.le_of_ble_eq_true rfl) ⟨Nat.le_of_ble_eq_true rfl, Nat.le_of_ble_eq_true rfl⟩ dX8_tell_46 (fun r_11 hr_11 => ?_)
      have tr_11 := tl_ hr_11
      refine lv_istore_n (lv' := [(3, .int r_11), (0, .ref q0), (1, .int p0), (2, .int p1)]) hx hb dX8_tell_49 rfl hl (by decide) rfl (fun ls hl => ?_)
      refine lv_aload_n hx hb dX8_tell_50 rfl (lv_at hl 1 rfl) ?_
      refine lv_iload_n hx hb dX8_tell_51 rfl (lv_at hl 0 rfl) ?_
      refine lv_aload_n hx hb dX8_tell_52 rfl (lv_at hl 1 rfl) ?_
      refine yget (ci := 8) (k := 0) (v := .ref (S.2.2.1 q0 0)) (C := RX8) (T := TX8) (N := 6) C0 hK hP hm_q0 hk_q0 (by decide) rfl inlX8 (by decide) mW16 (fun _ h9 => h9) rfl dX8_tell_53 ?_
      refine yget (ci := 0) (k := 2) (v := .ref (S.2.2.1 (S.2.2.1 q0 0) 2)) (C := RX0) (T := TX0) (N := 6) C0 hK hP hmy_7 hky_7 (by decide) rfl inlX0 (by decide) mW1028 (fun _ h9 => h9) rfl dX8_tell_56 ?_
      refine yget (ci := 1) (k := 2) (v := .int (d.1 (S.2.2.1 (S.2.2.1 q0 0) 2) 2)) (C := RX1) (T := TX1) (N := 4) C0 hK hP hmy_8 hky_8 (by decide) rfl inlX1 (by decide) mW1043 (fun _ h9 => h9) rfl dX8_tell_59 ?_
      refine lv_topi (fun z_12 ez_12 => ?_)
      refine lv_sipush (v := 500) hx hb dX8_tell_62 (by decide) ?_
      refine lv_icmp_lt (tgt := 72) hx hb dX8_tell_65 (by decide) (fun c_13 => ?_) (fun c_13 => ?_)
      · refine lv_iconst (v := 0) hx hb dX8_tell_72 (by decide) ?_
        refine ySri (As := [.int r_11, .int 0]) (rest := [.ref q0]) C0 (g_X8_least l G S d r_11 0 ) ok_X8_least (mW199 : Cond.methodLink RX8 58 yX8_least ∈ wsT) ⟨Nat.le_of_ble_eq_true rfl, Nat.le_of_ble_eq_true rfl⟩ hP hD hK hN rfl hl.1 rfl (Nat.le_of_ble_eq_true rfl) ⟨Nat.le_of_ble_eq_true rfl, Nat.le_of_ble_eq_true rfl⟩ dX8_tell_73 (fun r_14 hr_14 => ?_)
        have tr_14 := tl_ hr_14
        refine yVwi (As := [.int r_14]) (rest := []) C0 (g_X8_refused l G S d q0 r_14 hSh hPo hm_q0 hk_q0) ok_X8_refused (mW160 : Cond.methodLink RX8 42 yX8_refused ∈ wsT) ⟨Nat.le_of_ble_eq_true rfl, Nat.le_of_ble_eq_true rfl⟩ hP hD hS hA hK hN hm_q0 hk_q0 (by decide) rfl rfl rfl hl.1 rfl (Nat.le_of_ble_eq_true rfl) ⟨Nat.le_of_ble_eq_true rfl, Nat.le_of_ble_eq_true rfl⟩ dX8_tell_76 (fun r_15 d_16 H locs hr_15 hP hD hS => ?_)
        obtain ⟨hgad_16, hpad_16, hxd_16⟩ := hr_15
        have hgd_16 : yAg S [1, 8, 18, 19, 24] d d_16 := yAg.tr hg0 hgad_16 (by first | decide | exact fun _ h => h)
        have hPod_16 : yPo S d_16 := hpad_16 hPo
        have tr_15 := tr_ hxd_16.1
        refine lv_if_eq (tgt := 84) hx hb dX8_tell_79 (by decide) (fun c_17 => ?_) (fun c_17 => ?_)
        · refine lv_aload_n hx hb dX8_tell_84 rfl (lv_at hl 1 rfl) ?_
          refine yget (ci := 8) (k := 0) (v := .ref (S.2.2.1 q0 0)) (C := RX8) (T := TX8) (N := 6) C0 hK hP hm_q0 hk_q0 (by decide) rfl inlX8 (by decide) mW16 (fun _ h9 => h9) rfl dX8_tell_85 ?_
          refine yget (ci := 0) (k := 2) (v := .ref (S.2.2.1 (S.2.2.1 q0 0) 2)) (C := RX0) (T := TX0) (N := 6) C0 hK hP hmy_7 hky_7 (by decide) rfl inlX0 (by decide) mW1028 (fun _ h9 => h9) rfl dX8_tell_88 ?_
          refine lv_iload_n hx hb dX8_tell_91 rfl (lv_at hl 2 rfl) ?_
          refine lv_iload_n hx hb dX8_tell_92 rfl (lv_at hl 3 rfl) ?_
          refine yVwv (As := [.int p0, .int p1]) (rest := []) C0 (g_X1_add l G S d_16 (S.2.2.1 (S.2.2.1 q0 0) 2) p0 p1 hSh hPod_16 hmy_8 hky_8) ok_X1_add (mW1044 : Cond.methodLink RX8 339 yX1_add ∈ wsT) ⟨Nat.le_of_ble_eq_true rfl, Nat.le_of_ble_eq_true rfl⟩ hP hD hS hA hK hN hmy_8 hky_8 (by decide) rfl rfl rfl hl.1 rfl (Nat.le_of_ble_eq_true rfl) ⟨Nat.le_of_ble_eq_true rfl, Nat.le_of_ble_eq_true rfl⟩ dX8_tell_93 (fun d_19 H locs hr_18 hP hD hS => ?_)
          obtain ⟨hgad_19, hpad_19, hxd_19⟩ := hr_18
          have hgd_19 : yAg S [1, 8, 18, 19, 24] d d_19 := yAg.tr hgd_16 hgad_19 (by first | decide | exact fun _ h => h)
          have hPod_19 : yPo S d_19 := hpad_19 hPod_16
          refine lv_aload_n hx hb dX8_tell_96 rfl (lv_at hl 1 rfl) ?_
          refine yget (ci := 8) (k := 0) (v := .ref (S.2.2.1 q0 0)) (C := RX8) (T := TX8) (N := 6) C0 hK hP hm_q0 hk_q0 (by decide) rfl inlX8 (by decide) mW16 (fun _ h9 => h9) rfl dX8_tell_97 ?_
          refine yget (ci := 0) (k := 2) (v := .ref (S.2.2.1 (S.2.2.1 q0 0) 2)) (C := RX0) (T := TX0) (N := 6) C0 hK hP hmy_7 hky_7 (by decide) rfl inlX0 (by decide) mW1028 (fun _ h9 => h9) rfl dX8_tell_100 ?_
          refine yget (ci := 1) (k := 2) (v := .int (d_19.1 (S.2.2.1 (S.2.2.1 q0 0) 2) 2)) (C := RX1) (T := TX1) (N := 4) C0 hK hP hmy_8 hky_8 (by decide) rfl inlX1 (by decide) mW1043 (fun _ h9 => h9) rfl dX8_tell_103 ?_
          refine lv_topi (fun z_20 ez_20 => ?_)
          have hL_21 : ((-1) : Int32).toInt = (-1) := by decide +kernel
          have hL_22 : ((-2) : Int32).toInt = (-2) := by decide +kernel
          have hL_23 : ((-3) : Int32).toInt = (-3) := by decide +kernel
          have hdzz_9 : (z_9 : Int32).toInt = (d.1 (S.2.2.1 (S.2.2.1 q0 0) 2) 3).toInt := congrArg Int32.toInt ez_9
          have hdzz_12 : (z_12 : Int32).toInt = (d.1 (S.2.2.1 (S.2.2.1 q0 0) 2) 2).toInt := congrArg Int32.toInt ez_12
          have F_24 := feq (rfl : (r_1 : Int32).toInt = (r_1 : Int32).toInt) (by decide +kernel : (0 : Int32).toInt = 0) c_4
          have F_26 := fne (rfl : (z_9 : Int32).toInt = (z_9 : Int32).toInt) (by decide +kernel : ((-1) : Int32).toInt = (-1)) c_10
          have F_28 := flt (rfl : (z_12 : Int32).toInt = (z_12 : Int32).toInt) (by decide +kernel : (500 : Int32).toInt = 500) c_13
          have F_29 := feq (rfl : (r_15 : Int32).toInt = (r_15 : Int32).toInt) (by decide +kernel : (0 : Int32).toInt = 0) c_17
          exact W.iret (v := z_20) hx hb hr (fun t ht hW => ⟨⟨z_20, d_19, rfl, ⟨hgd_19, (fun _ => hPod_19), ⟨Or.inr ⟨by omega, ez_20.trans (hxd_19.1.trans (by rw [(congrFun (yAg.o hgad_16 (a := (S.2.2.1 (S.2.2.1 q0 0) 2)) (by rw [hky_8]; decide)).1 2)])), (hxd_19.1.trans (by rw [(congrFun (yAg.o hgad_16 (a := (S.2.2.1 (S.2.2.1 q0 0) 2)) (by rw [hky_8]; decide)).1 2)])), hxd_19.2.1.trans (congrFun (yAg.o hgad_16 (a := (S.2.2.1 (S.2.2.1 q0 0) 2)) (by rw [hky_8]; decide)).1 3), fun a ha hn => (o2 (yAg.o hgad_16 (by rw [ha]; decide)) (hxd_19.2.2 a ha hn))⟩, ((congrFun (hgad_19 q0 (by rw [hk_q0]; decide)).1 4).trans (hxd_16.2))⟩⟩, by rw [ht]; exact hP, hD⟩, hS.F ht⟩) hS.2.2 dX8_tell_106
        · refine lv_iconst (v := (-1)) hx hb dX8_tell_82 (by decide) ?_
          have hL_30 : ((-1) : Int32).toInt = (-1) := by decide +kernel
          have hL_31 : ((-2) : Int32).toInt = (-2) := by decide +kernel
          have hL_32 : ((-3) : Int32).toInt = (-3) := by decide +kernel
          have hdzz_9 : (z_9 : Int32).toInt = (d.1 (S.2.2.1 (S.2.2.1 q0 0) 2) 3).toInt := congrArg Int32.toInt ez_9
          have hdzz_12 : (z_12 : Int32).toInt = (d.1 (S.2.2.1 (S.2.2.1 q0 0) 2) 2).toInt := congrArg Int32.toInt ez_12
          have F_33 := feq (rfl : (r_1 : Int32).toInt = (r_1 : Int32).toInt) (by decide +kernel : (0 : Int32).toInt = 0) c_4
          have F_35 := fne (rfl : (z_9 : Int32).toInt = (z_9 : Int32).toInt) (by decide +kernel : ((-1) : Int32).toInt = (-1)) c_10
          have F_37 := flt (rfl : (z_12 : Int32).toInt = (z_12 : Int32).toInt) (by decide +kernel : (500 : Int32).toInt = 500) c_13
          have F_38 := fne (rfl : (r_15 : Int32).toInt = (r_15 : Int32).toInt) (by decide +kernel : (0 : Int32).toInt = 0) c_17
          exact W.iret (v := (-1)) hx hb hr (fun t ht hW => ⟨⟨(-1), d_16, rfl, ⟨hgd_16, (fun _ => hPod_16), ⟨Or.inl ⟨by omega, by omega, (fun a ha => (yAg.o hgad_16 (by rw [ha]; decide)))⟩, (hxd_16.2)⟩⟩, by rw [ht]; exact hP, hD⟩, hS.F ht⟩) hS.2.2 dX8_tell_83
      · refine lv_iconst (v := 5) hx hb dX8_tell_68 (by decide) ?_
        refine lv_goto (tgt := 73) hx hb dX8_tell_69 (by decide) ?_
        refine ySri (As := [.int r_11, .int 5]) (rest := [.ref q0]) C0 (g_X8_least l G S d r_11 5 ) ok_X8_least (mW199 : Cond.methodLink RX8 58 yX8_least ∈ wsT) ⟨Nat.le_of_ble_eq_true rfl, Nat.le_of_ble_eq_true rfl⟩ hP hD hK hN rfl hl.1 rfl (Nat.le_of_ble_eq_true rfl) ⟨Nat.le_of_ble_eq_true rfl, Nat.le_of_ble_eq_true rfl⟩ dX8_tell_73 (fun r_39 hr_39 => ?_)
        have hL_40 : (5 : Int32).toInt = 5 := by decide +kernel
        have tr_39 := tl_ hr_39
        refine yVwi (As := [.int r_39]) (rest := []) C0 (g_X8_refused l G S d q0 r_39 hSh hPo hm_q0 hk_q0) ok_X8_refused (mW160 : Cond.methodLink RX8 42 yX8_refused ∈ wsT) ⟨Nat.le_of_ble_eq_true rfl, Nat.le_of_ble_eq_true rfl⟩ hP hD hS hA hK hN hm_q0 hk_q0 (by decide) rfl rfl rfl hl.1 rfl (Nat.le_of_ble_eq_true rfl) ⟨Nat.le_of_ble_eq_true rfl, Nat.le_of_ble_eq_true rfl⟩ dX8_tell_76 (fun r_41 d_42 H locs hr_41 hP hD hS => ?_)
        obtain ⟨hgad_42, hpad_42, hxd_42⟩ := hr_41
        have hgd_42 : yAg S [1, 8, 18, 19, 24] d d_42 := yAg.tr hg0 hgad_42 (by first | decide | exact fun _ h => h)
        have hPod_42 : yPo S d_42 := hpad_42 hPo
        have tr_41 := tr_ hxd_42.1
        refine lv_if_eq (tgt := 84) hx hb dX8_tell_79 (by decide) (fun c_43 => ?_) (fun c_43 => ?_)
        · refine lv_aload_n hx hb dX8_tell_84 rfl (lv_at hl 1 rfl) ?_
          refine yget (ci := 8) (k := 0) (v := .ref (S.2.2.1 q0 0)) (C := RX8) (T := TX8) (N := 6) C0 hK hP hm_q0 hk_q0 (by decide) rfl inlX8 (by decide) mW16 (fun _ h9 => h9) rfl dX8_tell_85 ?_
          refine yget (ci := 0) (k := 2) (v := .ref (S.2.2.1 (S.2.2.1 q0 0) 2)) (C := RX0) (T := TX0) (N := 6) C0 hK hP hmy_7 hky_7 (by decide) rfl inlX0 (by decide) mW1028 (fun _ h9 => h9) rfl dX8_tell_88 ?_
          refine lv_iload_n hx hb dX8_tell_91 rfl (lv_at hl 2 rfl) ?_
          refine lv_iload_n hx hb dX8_tell_92 rfl (lv_at hl 3 rfl) ?_
          refine yVwv (As := [.int p0, .int p1]) (rest := []) C0 (g_X1_add l G S d_42 (S.2.2.1 (S.2.2.1 q0 0) 2) p0 p1 hSh hPod_42 hmy_8 hky_8) ok_X1_add (mW1044 : Cond.methodLink RX8 339 yX1_add ∈ wsT) ⟨Nat.le_of_ble_eq_true rfl, Nat.le_of_ble_eq_true rfl⟩ hP hD hS hA hK hN hmy_8 hky_8 (by decide) rfl rfl rfl hl.1 rfl (Nat.le_of_ble_eq_true rfl) ⟨Nat.le_of_ble_eq_true rfl, Nat.le_of_ble_eq_true rfl⟩ dX8_tell_93 (fun d_45 H locs hr_44 hP hD hS => ?_)
          obtain ⟨hgad_45, hpad_45, hxd_45⟩ := hr_44
          have hgd_45 : yAg S [1, 8, 18, 19, 24] d d_45 := yAg.tr hgd_42 hgad_45 (by first | decide | exact fun _ h => h)
          have hPod_45 : yPo S d_45 := hpad_45 hPod_42
          refine lv_aload_n hx hb dX8_tell_96 rfl (lv_at hl 1 rfl) ?_
          refine yget (ci := 8) (k := 0) (v := .ref (S.2.2.1 q0 0)) (C := RX8) (T := TX8) (N := 6) C0 hK hP hm_q0 hk_q0 (by decide) rfl inlX8 (by decide) mW16 (fun _ h9 => h9) rfl dX8_tell_97 ?_
          refine yget (ci := 0) (k := 2) (v := .ref (S.2.2.1 (S.2.2.1 q0 0) 2)) (C := RX0) (T := TX0) (N := 6) C0 hK hP hmy_7 hky_7 (by decide) rfl inlX0 (by decide) mW1028 (fun _ h9 => h9) rfl dX8_tell_100 ?_
          refine yget (ci := 1) (k := 2) (v := .int (d_45.1 (S.2.2.1 (S.2.2.1 q0 0) 2) 2)) (C := RX1) (T := TX1) (N := 4) C0 hK hP hmy_8 hky_8 (by decide) rfl inlX1 (by decide) mW1043 (fun _ h9 => h9) rfl dX8_tell_103 ?_
          refine lv_topi (fun z_46 ez_46 => ?_)
          have hL_47 : ((-1) : Int32).toInt = (-1) := by decide +kernel
          have hL_48 : ((-2) : Int32).toInt = (-2) := by decide +kernel
          have hL_49 : ((-3) : Int32).toInt = (-3) := by decide +kernel
          have hdzz_9 : (z_9 : Int32).toInt = (d.1 (S.2.2.1 (S.2.2.1 q0 0) 2) 3).toInt := congrArg Int32.toInt ez_9
          have hdzz_12 : (z_12 : Int32).toInt = (d.1 (S.2.2.1 (S.2.2.1 q0 0) 2) 2).toInt := congrArg Int32.toInt ez_12
          have F_50 := feq (rfl : (r_1 : Int32).toInt = (r_1 : Int32).toInt) (by decide +kernel : (0 : Int32).toInt = 0) c_4
          have F_52 := fne (rfl : (z_9 : Int32).toInt = (z_9 : Int32).toInt) (by decide +kernel : ((-1) : Int32).toInt = (-1)) c_10
          have F_54 := fnlt (rfl : (z_12 : Int32).toInt = (z_12 : Int32).toInt) (by decide +kernel : (500 : Int32).toInt = 500) c_13
          have F_55 := feq (rfl : (r_41 : Int32).toInt = (r_41 : Int32).toInt) (by decide +kernel : (0 : Int32).toInt = 0) c_43
          exact W.iret (v := z_46) hx hb hr (fun t ht hW => ⟨⟨z_46, d_45, rfl, ⟨hgd_45, (fun _ => hPod_45), ⟨Or.inr ⟨by omega, ez_46.trans (hxd_45.1.trans (by rw [(congrFun (yAg.o hgad_42 (a := (S.2.2.1 (S.2.2.1 q0 0) 2)) (by rw [hky_8]; decide)).1 2)])), (hxd_45.1.trans (by rw [(congrFun (yAg.o hgad_42 (a := (S.2.2.1 (S.2.2.1 q0 0) 2)) (by rw [hky_8]; decide)).1 2)])), hxd_45.2.1.trans (congrFun (yAg.o hgad_42 (a := (S.2.2.1 (S.2.2.1 q0 0) 2)) (by rw [hky_8]; decide)).1 3), fun a ha hn => (o2 (yAg.o hgad_42 (by rw [ha]; decide)) (hxd_45.2.2 a ha hn))⟩, ((congrFun (hgad_45 q0 (by rw [hk_q0]; decide)).1 4).trans (hxd_42.2))⟩⟩, by rw [ht]; exact hP, hD⟩, hS.F ht⟩) hS.2.2 dX8_tell_106
        · refine lv_iconst (v := (-1)) hx hb dX8_tell_82 (by decide) ?_
          have hL_56 : ((-1) : Int32).toInt = (-1) := by decide +kernel
          have hL_57 : ((-2) : Int32).toInt = (-2) := by decide +kernel
          have hL_58 : ((-3) : Int32).toInt = (-3) := by decide +kernel
          have hdzz_9 : (z_9 : Int32).toInt = (d.1 (S.2.2.1 (S.2.2.1 q0 0) 2) 3).toInt := congrArg Int32.toInt ez_9
          have hdzz_12 : (z_12 : Int32).toInt = (d.1 (S.2.2.1 (S.2.2.1 q0 0) 2) 2).toInt := congrArg Int32.toInt ez_12
          have F_59 := feq (rfl : (r_1 : Int32).toInt = (r_1 : Int32).toInt) (by decide +kernel : (0 : Int32).toInt = 0) c_4
          have F_61 := fne (rfl : (z_9 : Int32).toInt = (z_9 : Int32).toInt) (by decide +kernel : ((-1) : Int32).toInt = (-1)) c_10
          have F_63 := fnlt (rfl : (z_12 : Int32).toInt = (z_12 : Int32).toInt) (by decide +kernel : (500 : Int32).toInt = 500) c_13
          have F_64 := fne (rfl : (r_41 : Int32).toInt = (r_41 : Int32).toInt) (by decide +kernel : (0 : Int32).toInt = 0) c_43
          exact W.iret (v := (-1)) hx hb hr (fun t ht hW => ⟨⟨(-1), d_42, rfl, ⟨hgd_42, (fun _ => hPod_42), ⟨Or.inl ⟨by omega, by omega, (fun a ha => (yAg.o hgad_42 (by rw [ha]; decide)))⟩, (hxd_42.2)⟩⟩, by rw [ht]; exact hP, hD⟩, hS.F ht⟩) hS.2.2 dX8_tell_83
    · refine lv_iconst (v := 2) hx hb dX8_tell_41 (by decide) ?_
      refine lv_goto (tgt := 46) hx hb dX8_tell_42 (by decide) ?_
      refine ySri (As := [.int r_5, .int 2]) (rest := []) C0 (g_X8_least l G S d r_5 2 ) ok_X8_least (mW199 : Cond.methodLink RX8 58 yX8_least ∈ wsT) ⟨Nat.le_of_ble_eq_true rfl, Nat.le_of_ble_eq_true rfl⟩ hP hD hK hN rfl hl.1 rfl (Nat.le_of_ble_eq_true rfl) ⟨Nat.le_of_ble_eq_true rfl, Nat.le_of_ble_eq_true rfl⟩ dX8_tell_46 (fun r_65 hr_65 => ?_)
      have hL_66 : (2 : Int32).toInt = 2 := by decide +kernel
      have tr_65 := tl_ hr_65
      refine lv_istore_n (lv' := [(3, .int r_65), (0, .ref q0), (1, .int p0), (2, .int p1)]) hx hb dX8_tell_49 rfl hl (by decide) rfl (fun ls hl => ?_)
      refine lv_aload_n hx hb dX8_tell_50 rfl (lv_at hl 1 rfl) ?_
      refine lv_iload_n hx hb dX8_tell_51 rfl (lv_at hl 0 rfl) ?_
      refine lv_aload_n hx hb dX8_tell_52 rfl (lv_at hl 1 rfl) ?_
      refine yget (ci := 8) (k := 0) (v := .ref (S.2.2.1 q0 0)) (C := RX8) (T := TX8) (N := 6) C0 hK hP hm_q0 hk_q0 (by decide) rfl inlX8 (by decide) mW16 (fun _ h9 => h9) rfl dX8_tell_53 ?_
      refine yget (ci := 0) (k := 2) (v := .ref (S.2.2.1 (S.2.2.1 q0 0) 2)) (C := RX0) (T := TX0) (N := 6) C0 hK hP hmy_7 hky_7 (by decide) rfl inlX0 (by decide) mW1028 (fun _ h9 => h9) rfl dX8_tell_56 ?_
      refine yget (ci := 1) (k := 2) (v := .int (d.1 (S.2.2.1 (S.2.2.1 q0 0) 2) 2)) (C := RX1) (T := TX1) (N := 4) C0 hK hP hmy_8 hky_8 (by decide) rfl inlX1 (by decide) mW1043 (fun _ h9 => h9) rfl dX8_tell_59 ?_
      refine lv_topi (fun z_67 ez_67 => ?_)
      refine lv_sipush (v := 500) hx hb dX8_tell_62 (by decide) ?_
      refine lv_icmp_lt (tgt := 72) hx hb dX8_tell_65 (by decide) (fun c_68 => ?_) (fun c_68 => ?_)
      · refine lv_iconst (v := 0) hx hb dX8_tell_72 (by decide) ?_
        refine ySri (As := [.int r_65, .int 0]) (rest := [.ref q0]) C0 (g_X8_least l G S d r_65 0 ) ok_X8_least (mW199 : Cond.methodLink RX8 58 yX8_least ∈ wsT) ⟨Nat.le_of_ble_eq_true rfl, Nat.le_of_ble_eq_true rfl⟩ hP hD hK hN rfl hl.1 rfl (Nat.le_of_ble_eq_true rfl) ⟨Nat.le_of_ble_eq_true rfl, Nat.le_of_ble_eq_true rfl⟩ dX8_tell_73 (fun r_69 hr_69 => ?_)
        have tr_69 := tl_ hr_69
        refine yVwi (As := [.int r_69]) (rest := []) C0 (g_X8_refused l G S d q0 r_69 hSh hPo hm_q0 hk_q0) ok_X8_refused (mW160 : Cond.methodLink RX8 42 yX8_refused ∈ wsT) ⟨Nat.le_of_ble_eq_true rfl, Nat.le_of_ble_eq_true rfl⟩ hP hD hS hA hK hN hm_q0 hk_q0 (by decide) rfl rfl rfl hl.1 rfl (Nat.le_of_ble_eq_true rfl) ⟨Nat.le_of_ble_eq_true rfl, Nat.le_of_ble_eq_true rfl⟩ dX8_tell_76 (fun r_70 d_71 H locs hr_70 hP hD hS => ?_)
        obtain ⟨hgad_71, hpad_71, hxd_71⟩ := hr_70
        have hgd_71 : yAg S [1, 8, 18, 19, 24] d d_71 := yAg.tr hg0 hgad_71 (by first | decide | exact fun _ h => h)
        have hPod_71 : yPo S d_71 := hpad_71 hPo
        have tr_70 := tr_ hxd_71.1
        refine lv_if_eq (tgt := 84) hx hb dX8_tell_79 (by decide) (fun c_72 => ?_) (fun c_72 => ?_)
        · refine lv_aload_n hx hb dX8_tell_84 rfl (lv_at hl 1 rfl) ?_
          refine yget (ci := 8) (k := 0) (v := .ref (S.2.2.1 q0 0)) (C := RX8) (T := TX8) (N := 6) C0 hK hP hm_q0 hk_q0 (by decide) rfl inlX8 (by decide) mW16 (fun _ h9 => h9) rfl dX8_tell_85 ?_
          refine yget (ci := 0) (k := 2) (v := .ref (S.2.2.1 (S.2.2.1 q0 0) 2)) (C := RX0) (T := TX0) (N := 6) C0 hK hP hmy_7 hky_7 (by decide) rfl inlX0 (by decide) mW1028 (fun _ h9 => h9) rfl dX8_tell_88 ?_
          refine lv_iload_n hx hb dX8_tell_91 rfl (lv_at hl 2 rfl) ?_
          refine lv_iload_n hx hb dX8_tell_92 rfl (lv_at hl 3 rfl) ?_
          refine yVwv (As := [.int p0, .int p1]) (rest := []) C0 (g_X1_add l G S d_71 (S.2.2.1 (S.2.2.1 q0 0) 2) p0 p1 hSh hPod_71 hmy_8 hky_8) ok_X1_add (mW1044 : Cond.methodLink RX8 339 yX1_add ∈ wsT) ⟨Nat.le_of_ble_eq_true rfl, Nat.le_of_ble_eq_true rfl⟩ hP hD hS hA hK hN hmy_8 hky_8 (by decide) rfl rfl rfl hl.1 rfl (Nat.le_of_ble_eq_true rfl) ⟨Nat.le_of_ble_eq_true rfl, Nat.le_of_ble_eq_true rfl⟩ dX8_tell_93 (fun d_74 H locs hr_73 hP hD hS => ?_)
          obtain ⟨hgad_74, hpad_74, hxd_74⟩ := hr_73
          have hgd_74 : yAg S [1, 8, 18, 19, 24] d d_74 := yAg.tr hgd_71 hgad_74 (by first | decide | exact fun _ h => h)
          have hPod_74 : yPo S d_74 := hpad_74 hPod_71
          refine lv_aload_n hx hb dX8_tell_96 rfl (lv_at hl 1 rfl) ?_
          refine yget (ci := 8) (k := 0) (v := .ref (S.2.2.1 q0 0)) (C := RX8) (T := TX8) (N := 6) C0 hK hP hm_q0 hk_q0 (by decide) rfl inlX8 (by decide) mW16 (fun _ h9 => h9) rfl dX8_tell_97 ?_
          refine yget (ci := 0) (k := 2) (v := .ref (S.2.2.1 (S.2.2.1 q0 0) 2)) (C := RX0) (T := TX0) (N := 6) C0 hK hP hmy_7 hky_7 (by decide) rfl inlX0 (by decide) mW1028 (fun _ h9 => h9) rfl dX8_tell_100 ?_
          refine yget (ci := 1) (k := 2) (v := .int (d_74.1 (S.2.2.1 (S.2.2.1 q0 0) 2) 2)) (C := RX1) (T := TX1) (N := 4) C0 hK hP hmy_8 hky_8 (by decide) rfl inlX1 (by decide) mW1043 (fun _ h9 => h9) rfl dX8_tell_103 ?_
          refine lv_topi (fun z_75 ez_75 => ?_)
          have hL_76 : ((-1) : Int32).toInt = (-1) := by decide +kernel
          have hL_77 : ((-2) : Int32).toInt = (-2) := by decide +kernel
          have hL_78 : ((-3) : Int32).toInt = (-3) := by decide +kernel
          have hdzz_9 : (z_9 : Int32).toInt = (d.1 (S.2.2.1 (S.2.2.1 q0 0) 2) 3).toInt := congrArg Int32.toInt ez_9
          have hdzz_67 : (z_67 : Int32).toInt = (d.1 (S.2.2.1 (S.2.2.1 q0 0) 2) 2).toInt := congrArg Int32.toInt ez_67
          have F_79 := feq (rfl : (r_1 : Int32).toInt = (r_1 : Int32).toInt) (by decide +kernel : (0 : Int32).toInt = 0) c_4
          have F_81 := feq (rfl : (z_9 : Int32).toInt = (z_9 : Int32).toInt) (by decide +kernel : ((-1) : Int32).toInt = (-1)) c_10
          have F_83 := flt (rfl : (z_67 : Int32).toInt = (z_67 : Int32).toInt) (by decide +kernel : (500 : Int32).toInt = 500) c_68
          have F_84 := feq (rfl : (r_70 : Int32).toInt = (r_70 : Int32).toInt) (by decide +kernel : (0 : Int32).toInt = 0) c_72
          exact W.iret (v := z_75) hx hb hr (fun t ht hW => ⟨⟨z_75, d_74, rfl, ⟨hgd_74, (fun _ => hPod_74), ⟨Or.inr ⟨by omega, ez_75.trans (hxd_74.1.trans (by rw [(congrFun (yAg.o hgad_71 (a := (S.2.2.1 (S.2.2.1 q0 0) 2)) (by rw [hky_8]; decide)).1 2)])), (hxd_74.1.trans (by rw [(congrFun (yAg.o hgad_71 (a := (S.2.2.1 (S.2.2.1 q0 0) 2)) (by rw [hky_8]; decide)).1 2)])), hxd_74.2.1.trans (congrFun (yAg.o hgad_71 (a := (S.2.2.1 (S.2.2.1 q0 0) 2)) (by rw [hky_8]; decide)).1 3), fun a ha hn => (o2 (yAg.o hgad_71 (by rw [ha]; decide)) (hxd_74.2.2 a ha hn))⟩, ((congrFun (hgad_74 q0 (by rw [hk_q0]; decide)).1 4).trans (hxd_71.2))⟩⟩, by rw [ht]; exact hP, hD⟩, hS.F ht⟩) hS.2.2 dX8_tell_106
        · refine lv_iconst (v := (-1)) hx hb dX8_tell_82 (by decide) ?_
          have hL_85 : ((-1) : Int32).toInt = (-1) := by decide +kernel
          have hL_86 : ((-2) : Int32).toInt = (-2) := by decide +kernel
          have hL_87 : ((-3) : Int32).toInt = (-3) := by decide +kernel
          have hdzz_9 : (z_9 : Int32).toInt = (d.1 (S.2.2.1 (S.2.2.1 q0 0) 2) 3).toInt := congrArg Int32.toInt ez_9
          have hdzz_67 : (z_67 : Int32).toInt = (d.1 (S.2.2.1 (S.2.2.1 q0 0) 2) 2).toInt := congrArg Int32.toInt ez_67
          have F_88 := feq (rfl : (r_1 : Int32).toInt = (r_1 : Int32).toInt) (by decide +kernel : (0 : Int32).toInt = 0) c_4
          have F_90 := feq (rfl : (z_9 : Int32).toInt = (z_9 : Int32).toInt) (by decide +kernel : ((-1) : Int32).toInt = (-1)) c_10
          have F_92 := flt (rfl : (z_67 : Int32).toInt = (z_67 : Int32).toInt) (by decide +kernel : (500 : Int32).toInt = 500) c_68
          have F_93 := fne (rfl : (r_70 : Int32).toInt = (r_70 : Int32).toInt) (by decide +kernel : (0 : Int32).toInt = 0) c_72
          exact W.iret (v := (-1)) hx hb hr (fun t ht hW => ⟨⟨(-1), d_71, rfl, ⟨hgd_71, (fun _ => hPod_71), ⟨Or.inl ⟨by omega, by omega, (fun a ha => (yAg.o hgad_71 (by rw [ha]; decide)))⟩, (hxd_71.2)⟩⟩, by rw [ht]; exact hP, hD⟩, hS.F ht⟩) hS.2.2 dX8_tell_83
      · refine lv_iconst (v := 5) hx hb dX8_tell_68 (by decide) ?_
        refine lv_goto (tgt := 73) hx hb dX8_tell_69 (by decide) ?_
        refine ySri (As := [.int r_65, .int 5]) (rest := [.ref q0]) C0 (g_X8_least l G S d r_65 5 ) ok_X8_least (mW199 : Cond.methodLink RX8 58 yX8_least ∈ wsT) ⟨Nat.le_of_ble_eq_true rfl, Nat.le_of_ble_eq_true rfl⟩ hP hD hK hN rfl hl.1 rfl (Nat.le_of_ble_eq_true rfl) ⟨Nat.le_of_ble_eq_true rfl, Nat.le_of_ble_eq_true rfl⟩ dX8_tell_73 (fun r_94 hr_94 => ?_)
        have hL_95 : (5 : Int32).toInt = 5 := by decide +kernel
        have tr_94 := tl_ hr_94
        refine yVwi (As := [.int r_94]) (rest := []) C0 (g_X8_refused l G S d q0 r_94 hSh hPo hm_q0 hk_q0) ok_X8_refused (mW160 : Cond.methodLink RX8 42 yX8_refused ∈ wsT) ⟨Nat.le_of_ble_eq_true rfl, Nat.le_of_ble_eq_true rfl⟩ hP hD hS hA hK hN hm_q0 hk_q0 (by decide) rfl rfl rfl hl.1 rfl (Nat.le_of_ble_eq_true rfl) ⟨Nat.le_of_ble_eq_true rfl, Nat.le_of_ble_eq_true rfl⟩ dX8_tell_76 (fun r_96 d_97 H locs hr_96 hP hD hS => ?_)
        obtain ⟨hgad_97, hpad_97, hxd_97⟩ := hr_96
        have hgd_97 : yAg S [1, 8, 18, 19, 24] d d_97 := yAg.tr hg0 hgad_97 (by first | decide | exact fun _ h => h)
        have hPod_97 : yPo S d_97 := hpad_97 hPo
        have tr_96 := tr_ hxd_97.1
        refine lv_if_eq (tgt := 84) hx hb dX8_tell_79 (by decide) (fun c_98 => ?_) (fun c_98 => ?_)
        · refine lv_aload_n hx hb dX8_tell_84 rfl (lv_at hl 1 rfl) ?_
          refine yget (ci := 8) (k := 0) (v := .ref (S.2.2.1 q0 0)) (C := RX8) (T := TX8) (N := 6) C0 hK hP hm_q0 hk_q0 (by decide) rfl inlX8 (by decide) mW16 (fun _ h9 => h9) rfl dX8_tell_85 ?_
          refine yget (ci := 0) (k := 2) (v := .ref (S.2.2.1 (S.2.2.1 q0 0) 2)) (C := RX0) (T := TX0) (N := 6) C0 hK hP hmy_7 hky_7 (by decide) rfl inlX0 (by decide) mW1028 (fun _ h9 => h9) rfl dX8_tell_88 ?_
          refine lv_iload_n hx hb dX8_tell_91 rfl (lv_at hl 2 rfl) ?_
          refine lv_iload_n hx hb dX8_tell_92 rfl (lv_at hl 3 rfl) ?_
          refine yVwv (As := [.int p0, .int p1]) (rest := []) C0 (g_X1_add l G S d_97 (S.2.2.1 (S.2.2.1 q0 0) 2) p0 p1 hSh hPod_97 hmy_8 hky_8) ok_X1_add (mW1044 : Cond.methodLink RX8 339 yX1_add ∈ wsT) ⟨Nat.le_of_ble_eq_true rfl, Nat.le_of_ble_eq_true rfl⟩ hP hD hS hA hK hN hmy_8 hky_8 (by decide) rfl rfl rfl hl.1 rfl (Nat.le_of_ble_eq_true rfl) ⟨Nat.le_of_ble_eq_true rfl, Nat.le_of_ble_eq_true rfl⟩ dX8_tell_93 (fun d_100 H locs hr_99 hP hD hS => ?_)
          obtain ⟨hgad_100, hpad_100, hxd_100⟩ := hr_99
          have hgd_100 : yAg S [1, 8, 18, 19, 24] d d_100 := yAg.tr hgd_97 hgad_100 (by first | decide | exact fun _ h => h)
          have hPod_100 : yPo S d_100 := hpad_100 hPod_97
          refine lv_aload_n hx hb dX8_tell_96 rfl (lv_at hl 1 rfl) ?_
          refine yget (ci := 8) (k := 0) (v := .ref (S.2.2.1 q0 0)) (C := RX8) (T := TX8) (N := 6) C0 hK hP hm_q0 hk_q0 (by decide) rfl inlX8 (by decide) mW16 (fun _ h9 => h9) rfl dX8_tell_97 ?_
          refine yget (ci := 0) (k := 2) (v := .ref (S.2.2.1 (S.2.2.1 q0 0) 2)) (C := RX0) (T := TX0) (N := 6) C0 hK hP hmy_7 hky_7 (by decide) rfl inlX0 (by decide) mW1028 (fun _ h9 => h9) rfl dX8_tell_100 ?_
          refine yget (ci := 1) (k := 2) (v := .int (d_100.1 (S.2.2.1 (S.2.2.1 q0 0) 2) 2)) (C := RX1) (T := TX1) (N := 4) C0 hK hP hmy_8 hky_8 (by decide) rfl inlX1 (by decide) mW1043 (fun _ h9 => h9) rfl dX8_tell_103 ?_
          refine lv_topi (fun z_101 ez_101 => ?_)
          have hL_102 : ((-1) : Int32).toInt = (-1) := by decide +kernel
          have hL_103 : ((-2) : Int32).toInt = (-2) := by decide +kernel
          have hL_104 : ((-3) : Int32).toInt = (-3) := by decide +kernel
          have hdzz_9 : (z_9 : Int32).toInt = (d.1 (S.2.2.1 (S.2.2.1 q0 0) 2) 3).toInt := congrArg Int32.toInt ez_9
          have hdzz_67 : (z_67 : Int32).toInt = (d.1 (S.2.2.1 (S.2.2.1 q0 0) 2) 2).toInt := congrArg Int32.toInt ez_67
          have F_105 := feq (rfl : (r_1 : Int32).toInt = (r_1 : Int32).toInt) (by decide +kernel : (0 : Int32).toInt = 0) c_4
          have F_107 := feq (rfl : (z_9 : Int32).toInt = (z_9 : Int32).toInt) (by decide +kernel : ((-1) : Int32).toInt = (-1)) c_10
          have F_109 := fnlt (rfl : (z_67 : Int32).toInt = (z_67 : Int32).toInt) (by decide +kernel : (500 : Int32).toInt = 500) c_68
          have F_110 := feq (rfl : (r_96 : Int32).toInt = (r_96 : Int32).toInt) (by decide +kernel : (0 : Int32).toInt = 0) c_98
          exact W.iret (v := z_101) hx hb hr (fun t ht hW => ⟨⟨z_101, d_100, rfl, ⟨hgd_100, (fun _ => hPod_100), ⟨Or.inr ⟨by omega, ez_101.trans (hxd_100.1.trans (by rw [(congrFun (yAg.o hgad_97 (a := (S.2.2.1 (S.2.2.1 q0 0) 2)) (by rw [hky_8]; decide)).1 2)])), (hxd_100.1.trans (by rw [(congrFun (yAg.o hgad_97 (a := (S.2.2.1 (S.2.2.1 q0 0) 2)) (by rw [hky_8]; decide)).1 2)])), hxd_100.2.1.trans (congrFun (yAg.o hgad_97 (a := (S.2.2.1 (S.2.2.1 q0 0) 2)) (by rw [hky_8]; decide)).1 3), fun a ha hn => (o2 (yAg.o hgad_97 (by rw [ha]; decide)) (hxd_100.2.2 a ha hn))⟩, ((congrFun (hgad_100 q0 (by rw [hk_q0]; decide)).1 4).trans (hxd_97.2))⟩⟩, by rw [ht]; exact hP, hD⟩, hS.F ht⟩) hS.2.2 dX8_tell_106
        · refine lv_iconst (v := (-1)) hx hb dX8_tell_82 (by decide) ?_
          have hL_111 : ((-1) : Int32).toInt = (-1) := by decide +kernel
          have hL_112 : ((-2) : Int32).toInt = (-2) := by decide +kernel
          have hL_113 : ((-3) : Int32).toInt = (-3) := by decide +kernel
          have hdzz_9 : (z_9 : Int32).toInt = (d.1 (S.2.2.1 (S.2.2.1 q0 0) 2) 3).toInt := congrArg Int32.toInt ez_9
          have hdzz_67 : (z_67 : Int32).toInt = (d.1 (S.2.2.1 (S.2.2.1 q0 0) 2) 2).toInt := congrArg Int32.toInt ez_67
          have F_114 := feq (rfl : (r_1 : Int32).toInt = (r_1 : Int32).toInt) (by decide +kernel : (0 : Int32).toInt = 0) c_4
          have F_116 := feq (rfl : (z_9 : Int32).toInt = (z_9 : Int32).toInt) (by decide +kernel : ((-1) : Int32).toInt = (-1)) c_10
          have F_118 := fnlt (rfl : (z_67 : Int32).toInt = (z_67 : Int32).toInt) (by decide +kernel : (500 : Int32).toInt = 500) c_68
          have F_119 := fne (rfl : (r_96 : Int32).toInt = (r_96 : Int32).toInt) (by decide +kernel : (0 : Int32).toInt = 0) c_98
          exact W.iret (v := (-1)) hx hb hr (fun t ht hW => ⟨⟨(-1), d_97, rfl, ⟨hgd_97, (fun _ => hPod_97), ⟨Or.inl ⟨by omega, by omega, (fun a ha => (yAg.o hgad_97 (by rw [ha]; decide)))⟩, (hxd_97.2)⟩⟩, by rw [ht]; exact hP, hD⟩, hS.F ht⟩) hS.2.2 dX8_tell_83
  · refine lv_iload_n hx hb dX8_tell_10 rfl (lv_at hl 2 rfl) ?_
    refine ySri (As := [.int p1]) (rest := []) C0 (g_X8_isWhy l G S d p1 ) ok_X8_isWhy (mW930 : Cond.methodLink RX8 283 yX8_isWhy ∈ wsT) ⟨Nat.le_of_ble_eq_true rfl, Nat.le_of_ble_eq_true rfl⟩ hP hD hK hN rfl hl.1 rfl (Nat.le_of_ble_eq_true rfl) ⟨Nat.le_of_ble_eq_true rfl, Nat.le_of_ble_eq_true rfl⟩ dX8_tell_11 (fun r_120 hr_120 => ?_)
    refine lv_if_eq (tgt := 21) hx hb dX8_tell_14 (by decide) (fun c_121 => ?_) (fun c_121 => ?_)
    · refine lv_iconst (v := 0) hx hb dX8_tell_21 (by decide) ?_
      refine ySri (As := [.int 0]) (rest := []) C0 (g_X8_number l G S d 0 ) ok_X8_number (mW196 : Cond.methodLink RX8 54 yX8_number ∈ wsT) ⟨Nat.le_of_ble_eq_true rfl, Nat.le_of_ble_eq_true rfl⟩ hP hD hK hN rfl hl.1 rfl (Nat.le_of_ble_eq_true rfl) ⟨Nat.le_of_ble_eq_true rfl, Nat.le_of_ble_eq_true rfl⟩ dX8_tell_22 (fun r_122 hr_122 => ?_)
      have hL_123 : (0 : Int32).toInt = 0 := by decide +kernel
      have tr_122 := tn_ hr_122
      refine lv_istore_n (lv' := [(3, .int r_122), (0, .ref q0), (1, .int p0), (2, .int p1)]) hx hb dX8_tell_25 rfl hl (by decide) rfl (fun ls hl => ?_)
      refine lv_iload_n hx hb dX8_tell_26 rfl (lv_at hl 0 rfl) ?_
      refine lv_aload_n hx hb dX8_tell_27 rfl (lv_at hl 1 rfl) ?_
      refine yget (ci := 8) (k := 0) (v := .ref (S.2.2.1 q0 0)) (C := RX8) (T := TX8) (N := 6) C0 hK hP hm_q0 hk_q0 (by decide) rfl inlX8 (by decide) mW16 (fun _ h9 => h9) rfl dX8_tell_28 ?_
      obtain ⟨hmy_124, hky_124⟩ := ySh.f8_0 hSh _ hm_q0 hk_q0
      refine yget (ci := 0) (k := 2) (v := .ref (S.2.2.1 (S.2.2.1 q0 0) 2)) (C := RX0) (T := TX0) (N := 6) C0 hK hP hmy_124 hky_124 (by decide) rfl inlX0 (by decide) mW1028 (fun _ h9 => h9) rfl dX8_tell_31 ?_
      obtain ⟨hmy_125, hky_125⟩ := ySh.f0_2 hSh _ hmy_124 hky_124
      refine yget (ci := 1) (k := 3) (v := .int (d.1 (S.2.2.1 (S.2.2.1 q0 0) 2) 3)) (C := RX1) (T := TX1) (N := 4) C0 hK hP hmy_125 hky_125 (by decide) rfl inlX1 (by decide) mW1042 (fun _ h9 => h9) rfl dX8_tell_34 ?_
      refine lv_topi (fun z_126 ez_126 => ?_)
      refine lv_iconst (v := (-1)) hx hb dX8_tell_37 (by decide) ?_
      refine lv_icmp_ne (tgt := 45) hx hb dX8_tell_38 (by decide) (fun c_127 => ?_) (fun c_127 => ?_)
      · refine lv_iconst (v := 0) hx hb dX8_tell_45 (by decide) ?_
        refine ySri (As := [.int r_122, .int 0]) (rest := []) C0 (g_X8_least l G S d r_122 0 ) ok_X8_least (mW199 : Cond.methodLink RX8 58 yX8_least ∈ wsT) ⟨Nat.le_of_ble_eq_true rfl, Nat.le_of_ble_eq_true rfl⟩ hP hD hK hN rfl hl.1 rfl (Nat.le_of_ble_eq_true rfl) ⟨Nat.le_of_ble_eq_true rfl, Nat.le_of_ble_eq_true rfl⟩ dX8_tell_46 (fun r_128 hr_128 => ?_)
        have tr_128 := tl_ hr_128
        refine lv_istore_n (lv' := [(3, .int r_128), (0, .ref q0), (1, .int p0), (2, .int p1)]) hx hb dX8_tell_49 rfl hl (by decide) rfl (fun ls hl => ?_)
        refine lv_aload_n hx hb dX8_tell_50 rfl (lv_at hl 1 rfl) ?_
        refine lv_iload_n hx hb dX8_tell_51 rfl (lv_at hl 0 rfl) ?_
        refine lv_aload_n hx hb dX8_tell_52 rfl (lv_at hl 1 rfl) ?_
        refine yget (ci := 8) (k := 0) (v := .ref (S.2.2.1 q0 0)) (C := RX8) (T := TX8) (N := 6) C0 hK hP hm_q0 hk_q0 (by decide) rfl inlX8 (by decide) mW16 (fun _ h9 => h9) rfl dX8_tell_53 ?_
        refine yget (ci := 0) (k := 2) (v := .ref (S.2.2.1 (S.2.2.1 q0 0) 2)) (C := RX0) (T := TX0) (N := 6) C0 hK hP hmy_124 hky_124 (by decide) rfl inlX0 (by decide) mW1028 (fun _ h9 => h9) rfl dX8_tell_56 ?_
        refine yget (ci := 1) (k := 2) (v := .int (d.1 (S.2.2.1 (S.2.2.1 q0 0) 2) 2)) (C := RX1) (T := TX1) (N := 4) C0 hK hP hmy_125 hky_125 (by decide) rfl inlX1 (by decide) mW1043 (fun _ h9 => h9) rfl dX8_tell_59 ?_
        refine lv_topi (fun z_129 ez_129 => ?_)
        refine lv_sipush (v := 500) hx hb dX8_tell_62 (by decide) ?_
        refine lv_icmp_lt (tgt := 72) hx hb dX8_tell_65 (by decide) (fun c_130 => ?_) (fun c_130 => ?_)
        · refine lv_iconst (v := 0) hx hb dX8_tell_72 (by decide) ?_
          refine ySri (As := [.int r_128, .int 0]) (rest := [.ref q0]) C0 (g_X8_least l G S d r_128 0 ) ok_X8_least (mW199 : Cond.methodLink RX8 58 yX8_least ∈ wsT) ⟨Nat.le_of_ble_eq_true rfl, Nat.le_of_ble_eq_true rfl⟩ hP hD hK hN rfl hl.1 rfl (Nat.le_of_ble_eq_true rfl) ⟨Nat.le_of_ble_eq_true rfl, Nat.le_of_ble_eq_true rfl⟩ dX8_tell_73 (fun r_131 hr_131 => ?_)
          have tr_131 := tl_ hr_131
          refine yVwi (As := [.int r_131]) (rest := []) C0 (g_X8_refused l G S d q0 r_131 hSh hPo hm_q0 hk_q0) ok_X8_refused (mW160 : Cond.methodLink RX8 42 yX8_refused ∈ wsT) ⟨Nat.le_of_ble_eq_true rfl, Nat.le_of_ble_eq_true rfl⟩ hP hD hS hA hK hN hm_q0 hk_q0 (by decide) rfl rfl rfl hl.1 rfl (Nat.le_of_ble_eq_true rfl) ⟨Nat.le_of_ble_eq_true rfl, Nat.le_of_ble_eq_true rfl⟩ dX8_tell_76 (fun r_132 d_133 H locs hr_132 hP hD hS => ?_)
          obtain ⟨hgad_133, hpad_133, hxd_133⟩ := hr_132
          have hgd_133 : yAg S [1, 8, 18, 19, 24] d d_133 := yAg.tr hg0 hgad_133 (by first | decide | exact fun _ h => h)
          have hPod_133 : yPo S d_133 := hpad_133 hPo
          have tr_132 := tr_ hxd_133.1
          refine lv_if_eq (tgt := 84) hx hb dX8_tell_79 (by decide) (fun c_134 => ?_) (fun c_134 => ?_)
          · refine lv_aload_n hx hb dX8_tell_84 rfl (lv_at hl 1 rfl) ?_
            refine yget (ci := 8) (k := 0) (v := .ref (S.2.2.1 q0 0)) (C := RX8) (T := TX8) (N := 6) C0 hK hP hm_q0 hk_q0 (by decide) rfl inlX8 (by decide) mW16 (fun _ h9 => h9) rfl dX8_tell_85 ?_
            refine yget (ci := 0) (k := 2) (v := .ref (S.2.2.1 (S.2.2.1 q0 0) 2)) (C := RX0) (T := TX0) (N := 6) C0 hK hP hmy_124 hky_124 (by decide) rfl inlX0 (by decide) mW1028 (fun _ h9 => h9) rfl dX8_tell_88 ?_
            refine lv_iload_n hx hb dX8_tell_91 rfl (lv_at hl 2 rfl) ?_
            refine lv_iload_n hx hb dX8_tell_92 rfl (lv_at hl 3 rfl) ?_
            refine yVwv (As := [.int p0, .int p1]) (rest := []) C0 (g_X1_add l G S d_133 (S.2.2.1 (S.2.2.1 q0 0) 2) p0 p1 hSh hPod_133 hmy_125 hky_125) ok_X1_add (mW1044 : Cond.methodLink RX8 339 yX1_add ∈ wsT) ⟨Nat.le_of_ble_eq_true rfl, Nat.le_of_ble_eq_true rfl⟩ hP hD hS hA hK hN hmy_125 hky_125 (by decide) rfl rfl rfl hl.1 rfl (Nat.le_of_ble_eq_true rfl) ⟨Nat.le_of_ble_eq_true rfl, Nat.le_of_ble_eq_true rfl⟩ dX8_tell_93 (fun d_136 H locs hr_135 hP hD hS => ?_)
            obtain ⟨hgad_136, hpad_136, hxd_136⟩ := hr_135
            have hgd_136 : yAg S [1, 8, 18, 19, 24] d d_136 := yAg.tr hgd_133 hgad_136 (by first | decide | exact fun _ h => h)
            have hPod_136 : yPo S d_136 := hpad_136 hPod_133
            refine lv_aload_n hx hb dX8_tell_96 rfl (lv_at hl 1 rfl) ?_
            refine yget (ci := 8) (k := 0) (v := .ref (S.2.2.1 q0 0)) (C := RX8) (T := TX8) (N := 6) C0 hK hP hm_q0 hk_q0 (by decide) rfl inlX8 (by decide) mW16 (fun _ h9 => h9) rfl dX8_tell_97 ?_
            refine yget (ci := 0) (k := 2) (v := .ref (S.2.2.1 (S.2.2.1 q0 0) 2)) (C := RX0) (T := TX0) (N := 6) C0 hK hP hmy_124 hky_124 (by decide) rfl inlX0 (by decide) mW1028 (fun _ h9 => h9) rfl dX8_tell_100 ?_
            refine yget (ci := 1) (k := 2) (v := .int (d_136.1 (S.2.2.1 (S.2.2.1 q0 0) 2) 2)) (C := RX1) (T := TX1) (N := 4) C0 hK hP hmy_125 hky_125 (by decide) rfl inlX1 (by decide) mW1043 (fun _ h9 => h9) rfl dX8_tell_103 ?_
            refine lv_topi (fun z_137 ez_137 => ?_)
            have hL_138 : ((-1) : Int32).toInt = (-1) := by decide +kernel
            have hL_139 : ((-2) : Int32).toInt = (-2) := by decide +kernel
            have hL_140 : ((-3) : Int32).toInt = (-3) := by decide +kernel
            have hdzz_126 : (z_126 : Int32).toInt = (d.1 (S.2.2.1 (S.2.2.1 q0 0) 2) 3).toInt := congrArg Int32.toInt ez_126
            have hdzz_129 : (z_129 : Int32).toInt = (d.1 (S.2.2.1 (S.2.2.1 q0 0) 2) 2).toInt := congrArg Int32.toInt ez_129
            have F_141 := fne (rfl : (r_1 : Int32).toInt = (r_1 : Int32).toInt) (by decide +kernel : (0 : Int32).toInt = 0) c_4
            have F_142 := feq (rfl : (r_120 : Int32).toInt = (r_120 : Int32).toInt) (by decide +kernel : (0 : Int32).toInt = 0) c_121
            have F_144 := fne (rfl : (z_126 : Int32).toInt = (z_126 : Int32).toInt) (by decide +kernel : ((-1) : Int32).toInt = (-1)) c_127
            have F_146 := flt (rfl : (z_129 : Int32).toInt = (z_129 : Int32).toInt) (by decide +kernel : (500 : Int32).toInt = 500) c_130
            have F_147 := feq (rfl : (r_132 : Int32).toInt = (r_132 : Int32).toInt) (by decide +kernel : (0 : Int32).toInt = 0) c_134
            exact W.iret (v := z_137) hx hb hr (fun t ht hW => ⟨⟨z_137, d_136, rfl, ⟨hgd_136, (fun _ => hPod_136), ⟨Or.inr ⟨by omega, ez_137.trans (hxd_136.1.trans (by rw [(congrFun (yAg.o hgad_133 (a := (S.2.2.1 (S.2.2.1 q0 0) 2)) (by rw [hky_125]; decide)).1 2)])), (hxd_136.1.trans (by rw [(congrFun (yAg.o hgad_133 (a := (S.2.2.1 (S.2.2.1 q0 0) 2)) (by rw [hky_125]; decide)).1 2)])), hxd_136.2.1.trans (congrFun (yAg.o hgad_133 (a := (S.2.2.1 (S.2.2.1 q0 0) 2)) (by rw [hky_125]; decide)).1 3), fun a ha hn => (o2 (yAg.o hgad_133 (by rw [ha]; decide)) (hxd_136.2.2 a ha hn))⟩, ((congrFun (hgad_136 q0 (by rw [hk_q0]; decide)).1 4).trans (hxd_133.2))⟩⟩, by rw [ht]; exact hP, hD⟩, hS.F ht⟩) hS.2.2 dX8_tell_106
          · refine lv_iconst (v := (-1)) hx hb dX8_tell_82 (by decide) ?_
            have hL_148 : ((-1) : Int32).toInt = (-1) := by decide +kernel
            have hL_149 : ((-2) : Int32).toInt = (-2) := by decide +kernel
            have hL_150 : ((-3) : Int32).toInt = (-3) := by decide +kernel
            have hdzz_126 : (z_126 : Int32).toInt = (d.1 (S.2.2.1 (S.2.2.1 q0 0) 2) 3).toInt := congrArg Int32.toInt ez_126
            have hdzz_129 : (z_129 : Int32).toInt = (d.1 (S.2.2.1 (S.2.2.1 q0 0) 2) 2).toInt := congrArg Int32.toInt ez_129
            have F_151 := fne (rfl : (r_1 : Int32).toInt = (r_1 : Int32).toInt) (by decide +kernel : (0 : Int32).toInt = 0) c_4
            have F_152 := feq (rfl : (r_120 : Int32).toInt = (r_120 : Int32).toInt) (by decide +kernel : (0 : Int32).toInt = 0) c_121
            have F_154 := fne (rfl : (z_126 : Int32).toInt = (z_126 : Int32).toInt) (by decide +kernel : ((-1) : Int32).toInt = (-1)) c_127
            have F_156 := flt (rfl : (z_129 : Int32).toInt = (z_129 : Int32).toInt) (by decide +kernel : (500 : Int32).toInt = 500) c_130
            have F_157 := fne (rfl : (r_132 : Int32).toInt = (r_132 : Int32).toInt) (by decide +kernel : (0 : Int32).toInt = 0) c_134
            exact W.iret (v := (-1)) hx hb hr (fun t ht hW => ⟨⟨(-1), d_133, rfl, ⟨hgd_133, (fun _ => hPod_133), ⟨Or.inl ⟨by omega, by omega, (fun a ha => (yAg.o hgad_133 (by rw [ha]; decide)))⟩, (hxd_133.2)⟩⟩, by rw [ht]; exact hP, hD⟩, hS.F ht⟩) hS.2.2 dX8_tell_83
        · refine lv_iconst (v := 5) hx hb dX8_tell_68 (by decide) ?_
          refine lv_goto (tgt := 73) hx hb dX8_tell_69 (by decide) ?_
          refine ySri (As := [.int r_128, .int 5]) (rest := [.ref q0]) C0 (g_X8_least l G S d r_128 5 ) ok_X8_least (mW199 : Cond.methodLink RX8 58 yX8_least ∈ wsT) ⟨Nat.le_of_ble_eq_true rfl, Nat.le_of_ble_eq_true rfl⟩ hP hD hK hN rfl hl.1 rfl (Nat.le_of_ble_eq_true rfl) ⟨Nat.le_of_ble_eq_true rfl, Nat.le_of_ble_eq_true rfl⟩ dX8_tell_73 (fun r_158 hr_158 => ?_)
          have hL_159 : (5 : Int32).toInt = 5 := by decide +kernel
          have tr_158 := tl_ hr_158
          refine yVwi (As := [.int r_158]) (rest := []) C0 (g_X8_refused l G S d q0 r_158 hSh hPo hm_q0 hk_q0) ok_X8_refused (mW160 : Cond.methodLink RX8 42 yX8_refused ∈ wsT) ⟨Nat.le_of_ble_eq_true rfl, Nat.le_of_ble_eq_true rfl⟩ hP hD hS hA hK hN hm_q0 hk_q0 (by decide) rfl rfl rfl hl.1 rfl (Nat.le_of_ble_eq_true rfl) ⟨Nat.le_of_ble_eq_true rfl, Nat.le_of_ble_eq_true rfl⟩ dX8_tell_76 (fun r_160 d_161 H locs hr_160 hP hD hS => ?_)
          obtain ⟨hgad_161, hpad_161, hxd_161⟩ := hr_160
          have hgd_161 : yAg S [1, 8, 18, 19, 24] d d_161 := yAg.tr hg0 hgad_161 (by first | decide | exact fun _ h => h)
          have hPod_161 : yPo S d_161 := hpad_161 hPo
          have tr_160 := tr_ hxd_161.1
          refine lv_if_eq (tgt := 84) hx hb dX8_tell_79 (by decide) (fun c_162 => ?_) (fun c_162 => ?_)
          · refine lv_aload_n hx hb dX8_tell_84 rfl (lv_at hl 1 rfl) ?_
            refine yget (ci := 8) (k := 0) (v := .ref (S.2.2.1 q0 0)) (C := RX8) (T := TX8) (N := 6) C0 hK hP hm_q0 hk_q0 (by decide) rfl inlX8 (by decide) mW16 (fun _ h9 => h9) rfl dX8_tell_85 ?_
            refine yget (ci := 0) (k := 2) (v := .ref (S.2.2.1 (S.2.2.1 q0 0) 2)) (C := RX0) (T := TX0) (N := 6) C0 hK hP hmy_124 hky_124 (by decide) rfl inlX0 (by decide) mW1028 (fun _ h9 => h9) rfl dX8_tell_88 ?_
            refine lv_iload_n hx hb dX8_tell_91 rfl (lv_at hl 2 rfl) ?_
            refine lv_iload_n hx hb dX8_tell_92 rfl (lv_at hl 3 rfl) ?_
            refine yVwv (As := [.int p0, .int p1]) (rest := []) C0 (g_X1_add l G S d_161 (S.2.2.1 (S.2.2.1 q0 0) 2) p0 p1 hSh hPod_161 hmy_125 hky_125) ok_X1_add (mW1044 : Cond.methodLink RX8 339 yX1_add ∈ wsT) ⟨Nat.le_of_ble_eq_true rfl, Nat.le_of_ble_eq_true rfl⟩ hP hD hS hA hK hN hmy_125 hky_125 (by decide) rfl rfl rfl hl.1 rfl (Nat.le_of_ble_eq_true rfl) ⟨Nat.le_of_ble_eq_true rfl, Nat.le_of_ble_eq_true rfl⟩ dX8_tell_93 (fun d_164 H locs hr_163 hP hD hS => ?_)
            obtain ⟨hgad_164, hpad_164, hxd_164⟩ := hr_163
            have hgd_164 : yAg S [1, 8, 18, 19, 24] d d_164 := yAg.tr hgd_161 hgad_164 (by first | decide | exact fun _ h => h)
            have hPod_164 : yPo S d_164 := hpad_164 hPod_161
            refine lv_aload_n hx hb dX8_tell_96 rfl (lv_at hl 1 rfl) ?_
            refine yget (ci := 8) (k := 0) (v := .ref (S.2.2.1 q0 0)) (C := RX8) (T := TX8) (N := 6) C0 hK hP hm_q0 hk_q0 (by decide) rfl inlX8 (by decide) mW16 (fun _ h9 => h9) rfl dX8_tell_97 ?_
            refine yget (ci := 0) (k := 2) (v := .ref (S.2.2.1 (S.2.2.1 q0 0) 2)) (C := RX0) (T := TX0) (N := 6) C0 hK hP hmy_124 hky_124 (by decide) rfl inlX0 (by decide) mW1028 (fun _ h9 => h9) rfl dX8_tell_100 ?_
            refine yget (ci := 1) (k := 2) (v := .int (d_164.1 (S.2.2.1 (S.2.2.1 q0 0) 2) 2)) (C := RX1) (T := TX1) (N := 4) C0 hK hP hmy_125 hky_125 (by decide) rfl inlX1 (by decide) mW1043 (fun _ h9 => h9) rfl dX8_tell_103 ?_
            refine lv_topi (fun z_165 ez_165 => ?_)
            have hL_166 : ((-1) : Int32).toInt = (-1) := by decide +kernel
            have hL_167 : ((-2) : Int32).toInt = (-2) := by decide +kernel
            have hL_168 : ((-3) : Int32).toInt = (-3) := by decide +kernel
            have hdzz_126 : (z_126 : Int32).toInt = (d.1 (S.2.2.1 (S.2.2.1 q0 0) 2) 3).toInt := congrArg Int32.toInt ez_126
            have hdzz_129 : (z_129 : Int32).toInt = (d.1 (S.2.2.1 (S.2.2.1 q0 0) 2) 2).toInt := congrArg Int32.toInt ez_129
            have F_169 := fne (rfl : (r_1 : Int32).toInt = (r_1 : Int32).toInt) (by decide +kernel : (0 : Int32).toInt = 0) c_4
            have F_170 := feq (rfl : (r_120 : Int32).toInt = (r_120 : Int32).toInt) (by decide +kernel : (0 : Int32).toInt = 0) c_121
            have F_172 := fne (rfl : (z_126 : Int32).toInt = (z_126 : Int32).toInt) (by decide +kernel : ((-1) : Int32).toInt = (-1)) c_127
            have F_174 := fnlt (rfl : (z_129 : Int32).toInt = (z_129 : Int32).toInt) (by decide +kernel : (500 : Int32).toInt = 500) c_130
            have F_175 := feq (rfl : (r_160 : Int32).toInt = (r_160 : Int32).toInt) (by decide +kernel : (0 : Int32).toInt = 0) c_162
            exact W.iret (v := z_165) hx hb hr (fun t ht hW => ⟨⟨z_165, d_164, rfl, ⟨hgd_164, (fun _ => hPod_164), ⟨Or.inr ⟨by omega, ez_165.trans (hxd_164.1.trans (by rw [(congrFun (yAg.o hgad_161 (a := (S.2.2.1 (S.2.2.1 q0 0) 2)) (by rw [hky_125]; decide)).1 2)])), (hxd_164.1.trans (by rw [(congrFun (yAg.o hgad_161 (a := (S.2.2.1 (S.2.2.1 q0 0) 2)) (by rw [hky_125]; decide)).1 2)])), hxd_164.2.1.trans (congrFun (yAg.o hgad_161 (a := (S.2.2.1 (S.2.2.1 q0 0) 2)) (by rw [hky_125]; decide)).1 3), fun a ha hn => (o2 (yAg.o hgad_161 (by rw [ha]; decide)) (hxd_164.2.2 a ha hn))⟩, ((congrFun (hgad_164 q0 (by rw [hk_q0]; decide)).1 4).trans (hxd_161.2))⟩⟩, by rw [ht]; exact hP, hD⟩, hS.F ht⟩) hS.2.2 dX8_tell_106
          · refine lv_iconst (v := (-1)) hx hb dX8_tell_82 (by decide) ?_
            have hL_176 : ((-1) : Int32).toInt = (-1) := by decide +kernel
            have hL_177 : ((-2) : Int32).toInt = (-2) := by decide +kernel
            have hL_178 : ((-3) : Int32).toInt = (-3) := by decide +kernel
            have hdzz_126 : (z_126 : Int32).toInt = (d.1 (S.2.2.1 (S.2.2.1 q0 0) 2) 3).toInt := congrArg Int32.toInt ez_126
            have hdzz_129 : (z_129 : Int32).toInt = (d.1 (S.2.2.1 (S.2.2.1 q0 0) 2) 2).toInt := congrArg Int32.toInt ez_129
            have F_179 := fne (rfl : (r_1 : Int32).toInt = (r_1 : Int32).toInt) (by decide +kernel : (0 : Int32).toInt = 0) c_4
            have F_180 := feq (rfl : (r_120 : Int32).toInt = (r_120 : Int32).toInt) (by decide +kernel : (0 : Int32).toInt = 0) c_121
            have F_182 := fne (rfl : (z_126 : Int32).toInt = (z_126 : Int32).toInt) (by decide +kernel : ((-1) : Int32).toInt = (-1)) c_127
            have F_184 := fnlt (rfl : (z_129 : Int32).toInt = (z_129 : Int32).toInt) (by decide +kernel : (500 : Int32).toInt = 500) c_130
            have F_185 := fne (rfl : (r_160 : Int32).toInt = (r_160 : Int32).toInt) (by decide +kernel : (0 : Int32).toInt = 0) c_162
            exact W.iret (v := (-1)) hx hb hr (fun t ht hW => ⟨⟨(-1), d_161, rfl, ⟨hgd_161, (fun _ => hPod_161), ⟨Or.inl ⟨by omega, by omega, (fun a ha => (yAg.o hgad_161 (by rw [ha]; decide)))⟩, (hxd_161.2)⟩⟩, by rw [ht]; exact hP, hD⟩, hS.F ht⟩) hS.2.2 dX8_tell_83
      · refine lv_iconst (v := 2) hx hb dX8_tell_41 (by decide) ?_
        refine lv_goto (tgt := 46) hx hb dX8_tell_42 (by decide) ?_
        refine ySri (As := [.int r_122, .int 2]) (rest := []) C0 (g_X8_least l G S d r_122 2 ) ok_X8_least (mW199 : Cond.methodLink RX8 58 yX8_least ∈ wsT) ⟨Nat.le_of_ble_eq_true rfl, Nat.le_of_ble_eq_true rfl⟩ hP hD hK hN rfl hl.1 rfl (Nat.le_of_ble_eq_true rfl) ⟨Nat.le_of_ble_eq_true rfl, Nat.le_of_ble_eq_true rfl⟩ dX8_tell_46 (fun r_186 hr_186 => ?_)
        have hL_187 : (2 : Int32).toInt = 2 := by decide +kernel
        have tr_186 := tl_ hr_186
        refine lv_istore_n (lv' := [(3, .int r_186), (0, .ref q0), (1, .int p0), (2, .int p1)]) hx hb dX8_tell_49 rfl hl (by decide) rfl (fun ls hl => ?_)
        refine lv_aload_n hx hb dX8_tell_50 rfl (lv_at hl 1 rfl) ?_
        refine lv_iload_n hx hb dX8_tell_51 rfl (lv_at hl 0 rfl) ?_
        refine lv_aload_n hx hb dX8_tell_52 rfl (lv_at hl 1 rfl) ?_
        refine yget (ci := 8) (k := 0) (v := .ref (S.2.2.1 q0 0)) (C := RX8) (T := TX8) (N := 6) C0 hK hP hm_q0 hk_q0 (by decide) rfl inlX8 (by decide) mW16 (fun _ h9 => h9) rfl dX8_tell_53 ?_
        refine yget (ci := 0) (k := 2) (v := .ref (S.2.2.1 (S.2.2.1 q0 0) 2)) (C := RX0) (T := TX0) (N := 6) C0 hK hP hmy_124 hky_124 (by decide) rfl inlX0 (by decide) mW1028 (fun _ h9 => h9) rfl dX8_tell_56 ?_
        refine yget (ci := 1) (k := 2) (v := .int (d.1 (S.2.2.1 (S.2.2.1 q0 0) 2) 2)) (C := RX1) (T := TX1) (N := 4) C0 hK hP hmy_125 hky_125 (by decide) rfl inlX1 (by decide) mW1043 (fun _ h9 => h9) rfl dX8_tell_59 ?_
        refine lv_topi (fun z_188 ez_188 => ?_)
        refine lv_sipush (v := 500) hx hb dX8_tell_62 (by decide) ?_
        refine lv_icmp_lt (tgt := 72) hx hb dX8_tell_65 (by decide) (fun c_189 => ?_) (fun c_189 => ?_)
        · refine lv_iconst (v := 0) hx hb dX8_tell_72 (by decide) ?_
          refine ySri (As := [.int r_186, .int 0]) (rest := [.ref q0]) C0 (g_X8_least l G S d r_186 0 ) ok_X8_least (mW199 : Cond.methodLink RX8 58 yX8_least ∈ wsT) ⟨Nat.le_of_ble_eq_true rfl, Nat.le_of_ble_eq_true rfl⟩ hP hD hK hN rfl hl.1 rfl (Nat.le_of_ble_eq_true rfl) ⟨Nat.le_of_ble_eq_true rfl, Nat.le_of_ble_eq_true rfl⟩ dX8_tell_73 (fun r_190 hr_190 => ?_)
          have tr_190 := tl_ hr_190
          refine yVwi (As := [.int r_190]) (rest := []) C0 (g_X8_refused l G S d q0 r_190 hSh hPo hm_q0 hk_q0) ok_X8_refused (mW160 : Cond.methodLink RX8 42 yX8_refused ∈ wsT) ⟨Nat.le_of_ble_eq_true rfl, Nat.le_of_ble_eq_true rfl⟩ hP hD hS hA hK hN hm_q0 hk_q0 (by decide) rfl rfl rfl hl.1 rfl (Nat.le_of_ble_eq_true rfl) ⟨Nat.le_of_ble_eq_true rfl, Nat.le_of_ble_eq_true rfl⟩ dX8_tell_76 (fun r_191 d_192 H locs hr_191 hP hD hS => ?_)
          obtain ⟨hgad_192, hpad_192, hxd_192⟩ := hr_191
          have hgd_192 : yAg S [1, 8, 18, 19, 24] d d_192 := yAg.tr hg0 hgad_192 (by first | decide | exact fun _ h => h)
          have hPod_192 : yPo S d_192 := hpad_192 hPo
          have tr_191 := tr_ hxd_192.1
          refine lv_if_eq (tgt := 84) hx hb dX8_tell_79 (by decide) (fun c_193 => ?_) (fun c_193 => ?_)
          · refine lv_aload_n hx hb dX8_tell_84 rfl (lv_at hl 1 rfl) ?_
            refine yget (ci := 8) (k := 0) (v := .ref (S.2.2.1 q0 0)) (C := RX8) (T := TX8) (N := 6) C0 hK hP hm_q0 hk_q0 (by decide) rfl inlX8 (by decide) mW16 (fun _ h9 => h9) rfl dX8_tell_85 ?_
            refine yget (ci := 0) (k := 2) (v := .ref (S.2.2.1 (S.2.2.1 q0 0) 2)) (C := RX0) (T := TX0) (N := 6) C0 hK hP hmy_124 hky_124 (by decide) rfl inlX0 (by decide) mW1028 (fun _ h9 => h9) rfl dX8_tell_88 ?_
            refine lv_iload_n hx hb dX8_tell_91 rfl (lv_at hl 2 rfl) ?_
            refine lv_iload_n hx hb dX8_tell_92 rfl (lv_at hl 3 rfl) ?_
            refine yVwv (As := [.int p0, .int p1]) (rest := []) C0 (g_X1_add l G S d_192 (S.2.2.1 (S.2.2.1 q0 0) 2) p0 p1 hSh hPod_192 hmy_125 hky_125) ok_X1_add (mW1044 : Cond.methodLink RX8 339 yX1_add ∈ wsT) ⟨Nat.le_of_ble_eq_true rfl, Nat.le_of_ble_eq_true rfl⟩ hP hD hS hA hK hN hmy_125 hky_125 (by decide) rfl rfl rfl hl.1 rfl (Nat.le_of_ble_eq_true rfl) ⟨Nat.le_of_ble_eq_true rfl, Nat.le_of_ble_eq_true rfl⟩ dX8_tell_93 (fun d_195 H locs hr_194 hP hD hS => ?_)
            obtain ⟨hgad_195, hpad_195, hxd_195⟩ := hr_194
            have hgd_195 : yAg S [1, 8, 18, 19, 24] d d_195 := yAg.tr hgd_192 hgad_195 (by first | decide | exact fun _ h => h)
            have hPod_195 : yPo S d_195 := hpad_195 hPod_192
            refine lv_aload_n hx hb dX8_tell_96 rfl (lv_at hl 1 rfl) ?_
            refine yget (ci := 8) (k := 0) (v := .ref (S.2.2.1 q0 0)) (C := RX8) (T := TX8) (N := 6) C0 hK hP hm_q0 hk_q0 (by decide) rfl inlX8 (by decide) mW16 (fun _ h9 => h9) rfl dX8_tell_97 ?_
            refine yget (ci := 0) (k := 2) (v := .ref (S.2.2.1 (S.2.2.1 q0 0) 2)) (C := RX0) (T := TX0) (N := 6) C0 hK hP hmy_124 hky_124 (by decide) rfl inlX0 (by decide) mW1028 (fun _ h9 => h9) rfl dX8_tell_100 ?_
            refine yget (ci := 1) (k := 2) (v := .int (d_195.1 (S.2.2.1 (S.2.2.1 q0 0) 2) 2)) (C := RX1) (T := TX1) (N := 4) C0 hK hP hmy_125 hky_125 (by decide) rfl inlX1 (by decide) mW1043 (fun _ h9 => h9) rfl dX8_tell_103 ?_
            refine lv_topi (fun z_196 ez_196 => ?_)
            have hL_197 : ((-1) : Int32).toInt = (-1) := by decide +kernel
            have hL_198 : ((-2) : Int32).toInt = (-2) := by decide +kernel
            have hL_199 : ((-3) : Int32).toInt = (-3) := by decide +kernel
            have hdzz_126 : (z_126 : Int32).toInt = (d.1 (S.2.2.1 (S.2.2.1 q0 0) 2) 3).toInt := congrArg Int32.toInt ez_126
            have hdzz_188 : (z_188 : Int32).toInt = (d.1 (S.2.2.1 (S.2.2.1 q0 0) 2) 2).toInt := congrArg Int32.toInt ez_188
            have F_200 := fne (rfl : (r_1 : Int32).toInt = (r_1 : Int32).toInt) (by decide +kernel : (0 : Int32).toInt = 0) c_4
            have F_201 := feq (rfl : (r_120 : Int32).toInt = (r_120 : Int32).toInt) (by decide +kernel : (0 : Int32).toInt = 0) c_121
            have F_203 := feq (rfl : (z_126 : Int32).toInt = (z_126 : Int32).toInt) (by decide +kernel : ((-1) : Int32).toInt = (-1)) c_127
            have F_205 := flt (rfl : (z_188 : Int32).toInt = (z_188 : Int32).toInt) (by decide +kernel : (500 : Int32).toInt = 500) c_189
            have F_206 := feq (rfl : (r_191 : Int32).toInt = (r_191 : Int32).toInt) (by decide +kernel : (0 : Int32).toInt = 0) c_193
            exact W.iret (v := z_196) hx hb hr (fun t ht hW => ⟨⟨z_196, d_195, rfl, ⟨hgd_195, (fun _ => hPod_195), ⟨Or.inr ⟨by omega, ez_196.trans (hxd_195.1.trans (by rw [(congrFun (yAg.o hgad_192 (a := (S.2.2.1 (S.2.2.1 q0 0) 2)) (by rw [hky_125]; decide)).1 2)])), (hxd_195.1.trans (by rw [(congrFun (yAg.o hgad_192 (a := (S.2.2.1 (S.2.2.1 q0 0) 2)) (by rw [hky_125]; decide)).1 2)])), hxd_195.2.1.trans (congrFun (yAg.o hgad_192 (a := (S.2.2.1 (S.2.2.1 q0 0) 2)) (by rw [hky_125]; decide)).1 3), fun a ha hn => (o2 (yAg.o hgad_192 (by rw [ha]; decide)) (hxd_195.2.2 a ha hn))⟩, ((congrFun (hgad_195 q0 (by rw [hk_q0]; decide)).1 4).trans (hxd_192.2))⟩⟩, by rw [ht]; exact hP, hD⟩, hS.F ht⟩) hS.2.2 dX8_tell_106
          · refine lv_iconst (v := (-1)) hx hb dX8_tell_82 (by decide) ?_
            have hL_207 : ((-1) : Int32).toInt = (-1) := by decide +kernel
            have hL_208 : ((-2) : Int32).toInt = (-2) := by decide +kernel
            have hL_209 : ((-3) : Int32).toInt = (-3) := by decide +kernel
            have hdzz_126 : (z_126 : Int32).toInt = (d.1 (S.2.2.1 (S.2.2.1 q0 0) 2) 3).toInt := congrArg Int32.toInt ez_126
            have hdzz_188 : (z_188 : Int32).toInt = (d.1 (S.2.2.1 (S.2.2.1 q0 0) 2) 2).toInt := congrArg Int32.toInt ez_188
            have F_210 := fne (rfl : (r_1 : Int32).toInt = (r_1 : Int32).toInt) (by decide +kernel : (0 : Int32).toInt = 0) c_4
            have F_211 := feq (rfl : (r_120 : Int32).toInt = (r_120 : Int32).toInt) (by decide +kernel : (0 : Int32).toInt = 0) c_121
            have F_213 := feq (rfl : (z_126 : Int32).toInt = (z_126 : Int32).toInt) (by decide +kernel : ((-1) : Int32).toInt = (-1)) c_127
            have F_215 := flt (rfl : (z_188 : Int32).toInt = (z_188 : Int32).toInt) (by decide +kernel : (500 : Int32).toInt = 500) c_189
            have F_216 := fne (rfl : (r_191 : Int32).toInt = (r_191 : Int32).toInt) (by decide +kernel : (0 : Int32).toInt = 0) c_193
            exact W.iret (v := (-1)) hx hb hr (fun t ht hW => ⟨⟨(-1), d_192, rfl, ⟨hgd_192, (fun _ => hPod_192), ⟨Or.inl ⟨by omega, by omega, (fun a ha => (yAg.o hgad_192 (by rw [ha]; decide)))⟩, (hxd_192.2)⟩⟩, by rw [ht]; exact hP, hD⟩, hS.F ht⟩) hS.2.2 dX8_tell_83
        · refine lv_iconst (v := 5) hx hb dX8_tell_68 (by decide) ?_
          refine lv_goto (tgt := 73) hx hb dX8_tell_69 (by decide) ?_
          refine ySri (As := [.int r_186, .int 5]) (rest := [.ref q0]) C0 (g_X8_least l G S d r_186 5 ) ok_X8_least (mW199 : Cond.methodLink RX8 58 yX8_least ∈ wsT) ⟨Nat.le_of_ble_eq_true rfl, Nat.le_of_ble_eq_true rfl⟩ hP hD hK hN rfl hl.1 rfl (Nat.le_of_ble_eq_true rfl) ⟨Nat.le_of_ble_eq_true rfl, Nat.le_of_ble_eq_true rfl⟩ dX8_tell_73 (fun r_217 hr_217 => ?_)
          have hL_218 : (5 : Int32).toInt = 5 := by decide +kernel
          have tr_217 := tl_ hr_217
          refine yVwi (As := [.int r_217]) (rest := []) C0 (g_X8_refused l G S d q0 r_217 hSh hPo hm_q0 hk_q0) ok_X8_refused (mW160 : Cond.methodLink RX8 42 yX8_refused ∈ wsT) ⟨Nat.le_of_ble_eq_true rfl, Nat.le_of_ble_eq_true rfl⟩ hP hD hS hA hK hN hm_q0 hk_q0 (by decide) rfl rfl rfl hl.1 rfl (Nat.le_of_ble_eq_true rfl) ⟨Nat.le_of_ble_eq_true rfl, Nat.le_of_ble_eq_true rfl⟩ dX8_tell_76 (fun r_219 d_220 H locs hr_219 hP hD hS => ?_)
          obtain ⟨hgad_220, hpad_220, hxd_220⟩ := hr_219
          have hgd_220 : yAg S [1, 8, 18, 19, 24] d d_220 := yAg.tr hg0 hgad_220 (by first | decide | exact fun _ h => h)
          have hPod_220 : yPo S d_220 := hpad_220 hPo
          have tr_219 := tr_ hxd_220.1
          refine lv_if_eq (tgt := 84) hx hb dX8_tell_79 (by decide) (fun c_221 => ?_) (fun c_221 => ?_)
          · refine lv_aload_n hx hb dX8_tell_84 rfl (lv_at hl 1 rfl) ?_
            refine yget (ci := 8) (k := 0) (v := .ref (S.2.2.1 q0 0)) (C := RX8) (T := TX8) (N := 6) C0 hK hP hm_q0 hk_q0 (by decide) rfl inlX8 (by decide) mW16 (fun _ h9 => h9) rfl dX8_tell_85 ?_
            refine yget (ci := 0) (k := 2) (v := .ref (S.2.2.1 (S.2.2.1 q0 0) 2)) (C := RX0) (T := TX0) (N := 6) C0 hK hP hmy_124 hky_124 (by decide) rfl inlX0 (by decide) mW1028 (fun _ h9 => h9) rfl dX8_tell_88 ?_
            refine lv_iload_n hx hb dX8_tell_91 rfl (lv_at hl 2 rfl) ?_
            refine lv_iload_n hx hb dX8_tell_92 rfl (lv_at hl 3 rfl) ?_
            refine yVwv (As := [.int p0, .int p1]) (rest := []) C0 (g_X1_add l G S d_220 (S.2.2.1 (S.2.2.1 q0 0) 2) p0 p1 hSh hPod_220 hmy_125 hky_125) ok_X1_add (mW1044 : Cond.methodLink RX8 339 yX1_add ∈ wsT) ⟨Nat.le_of_ble_eq_true rfl, Nat.le_of_ble_eq_true rfl⟩ hP hD hS hA hK hN hmy_125 hky_125 (by decide) rfl rfl rfl hl.1 rfl (Nat.le_of_ble_eq_true rfl) ⟨Nat.le_of_ble_eq_true rfl, Nat.le_of_ble_eq_true rfl⟩ dX8_tell_93 (fun d_223 H locs hr_222 hP hD hS => ?_)
            obtain ⟨hgad_223, hpad_223, hxd_223⟩ := hr_222
            have hgd_223 : yAg S [1, 8, 18, 19, 24] d d_223 := yAg.tr hgd_220 hgad_223 (by first | decide | exact fun _ h => h)
            have hPod_223 : yPo S d_223 := hpad_223 hPod_220
            refine lv_aload_n hx hb dX8_tell_96 rfl (lv_at hl 1 rfl) ?_
            refine yget (ci := 8) (k := 0) (v := .ref (S.2.2.1 q0 0)) (C := RX8) (T := TX8) (N := 6) C0 hK hP hm_q0 hk_q0 (by decide) rfl inlX8 (by decide) mW16 (fun _ h9 => h9) rfl dX8_tell_97 ?_
            refine yget (ci := 0) (k := 2) (v := .ref (S.2.2.1 (S.2.2.1 q0 0) 2)) (C := RX0) (T := TX0) (N := 6) C0 hK hP hmy_124 hky_124 (by decide) rfl inlX0 (by decide) mW1028 (fun _ h9 => h9) rfl dX8_tell_100 ?_
            refine yget (ci := 1) (k := 2) (v := .int (d_223.1 (S.2.2.1 (S.2.2.1 q0 0) 2) 2)) (C := RX1) (T := TX1) (N := 4) C0 hK hP hmy_125 hky_125 (by decide) rfl inlX1 (by decide) mW1043 (fun _ h9 => h9) rfl dX8_tell_103 ?_
            refine lv_topi (fun z_224 ez_224 => ?_)
            have hL_225 : ((-1) : Int32).toInt = (-1) := by decide +kernel
            have hL_226 : ((-2) : Int32).toInt = (-2) := by decide +kernel
            have hL_227 : ((-3) : Int32).toInt = (-3) := by decide +kernel
            have hdzz_126 : (z_126 : Int32).toInt = (d.1 (S.2.2.1 (S.2.2.1 q0 0) 2) 3).toInt := congrArg Int32.toInt ez_126
            have hdzz_188 : (z_188 : Int32).toInt = (d.1 (S.2.2.1 (S.2.2.1 q0 0) 2) 2).toInt := congrArg Int32.toInt ez_188
            have F_228 := fne (rfl : (r_1 : Int32).toInt = (r_1 : Int32).toInt) (by decide +kernel : (0 : Int32).toInt = 0) c_4
            have F_229 := feq (rfl : (r_120 : Int32).toInt = (r_120 : Int32).toInt) (by decide +kernel : (0 : Int32).toInt = 0) c_121
            have F_231 := feq (rfl : (z_126 : Int32).toInt = (z_126 : Int32).toInt) (by decide +kernel : ((-1) : Int32).toInt = (-1)) c_127
            have F_233 := fnlt (rfl : (z_188 : Int32).toInt = (z_188 : Int32).toInt) (by decide +kernel : (500 : Int32).toInt = 500) c_189
            have F_234 := feq (rfl : (r_219 : Int32).toInt = (r_219 : Int32).toInt) (by decide +kernel : (0 : Int32).toInt = 0) c_221
            exact W.iret (v := z_224) hx hb hr (fun t ht hW => ⟨⟨z_224, d_223, rfl, ⟨hgd_223, (fun _ => hPod_223), ⟨Or.inr ⟨by omega, ez_224.trans (hxd_223.1.trans (by rw [(congrFun (yAg.o hgad_220 (a := (S.2.2.1 (S.2.2.1 q0 0) 2)) (by rw [hky_125]; decide)).1 2)])), (hxd_223.1.trans (by rw [(congrFun (yAg.o hgad_220 (a := (S.2.2.1 (S.2.2.1 q0 0) 2)) (by rw [hky_125]; decide)).1 2)])), hxd_223.2.1.trans (congrFun (yAg.o hgad_220 (a := (S.2.2.1 (S.2.2.1 q0 0) 2)) (by rw [hky_125]; decide)).1 3), fun a ha hn => (o2 (yAg.o hgad_220 (by rw [ha]; decide)) (hxd_223.2.2 a ha hn))⟩, ((congrFun (hgad_223 q0 (by rw [hk_q0]; decide)).1 4).trans (hxd_220.2))⟩⟩, by rw [ht]; exact hP, hD⟩, hS.F ht⟩) hS.2.2 dX8_tell_106
          · refine lv_iconst (v := (-1)) hx hb dX8_tell_82 (by decide) ?_
            have hL_235 : ((-1) : Int32).toInt = (-1) := by decide +kernel
            have hL_236 : ((-2) : Int32).toInt = (-2) := by decide +kernel
            have hL_237 : ((-3) : Int32).toInt = (-3) := by decide +kernel
            have hdzz_126 : (z_126 : Int32).toInt = (d.1 (S.2.2.1 (S.2.2.1 q0 0) 2) 3).toInt := congrArg Int32.toInt ez_126
            have hdzz_188 : (z_188 : Int32).toInt = (d.1 (S.2.2.1 (S.2.2.1 q0 0) 2) 2).toInt := congrArg Int32.toInt ez_188
            have F_238 := fne (rfl : (r_1 : Int32).toInt = (r_1 : Int32).toInt) (by decide +kernel : (0 : Int32).toInt = 0) c_4
            have F_239 := feq (rfl : (r_120 : Int32).toInt = (r_120 : Int32).toInt) (by decide +kernel : (0 : Int32).toInt = 0) c_121
            have F_241 := feq (rfl : (z_126 : Int32).toInt = (z_126 : Int32).toInt) (by decide +kernel : ((-1) : Int32).toInt = (-1)) c_127
            have F_243 := fnlt (rfl : (z_188 : Int32).toInt = (z_188 : Int32).toInt) (by decide +kernel : (500 : Int32).toInt = 500) c_189
            have F_244 := fne (rfl : (r_219 : Int32).toInt = (r_219 : Int32).toInt) (by decide +kernel : (0 : Int32).toInt = 0) c_221
            exact W.iret (v := (-1)) hx hb hr (fun t ht hW => ⟨⟨(-1), d_220, rfl, ⟨hgd_220, (fun _ => hPod_220), ⟨Or.inl ⟨by omega, by omega, (fun a ha => (yAg.o hgad_220 (by rw [ha]; decide)))⟩, (hxd_220.2)⟩⟩, by rw [ht]; exact hP, hD⟩, hS.F ht⟩) hS.2.2 dX8_tell_83
    · refine lv_iconst (v := 1) hx hb dX8_tell_17 (by decide) ?_
      refine lv_goto (tgt := 22) hx hb dX8_tell_18 (by decide) ?_
      refine ySri (As := [.int 1]) (rest := []) C0 (g_X8_number l G S d 1 ) ok_X8_number (mW196 : Cond.methodLink RX8 54 yX8_number ∈ wsT) ⟨Nat.le_of_ble_eq_true rfl, Nat.le_of_ble_eq_true rfl⟩ hP hD hK hN rfl hl.1 rfl (Nat.le_of_ble_eq_true rfl) ⟨Nat.le_of_ble_eq_true rfl, Nat.le_of_ble_eq_true rfl⟩ dX8_tell_22 (fun r_245 hr_245 => ?_)
      have tr_245 := tn_ hr_245
      refine lv_istore_n (lv' := [(3, .int r_245), (0, .ref q0), (1, .int p0), (2, .int p1)]) hx hb dX8_tell_25 rfl hl (by decide) rfl (fun ls hl => ?_)
      refine lv_iload_n hx hb dX8_tell_26 rfl (lv_at hl 0 rfl) ?_
      refine lv_aload_n hx hb dX8_tell_27 rfl (lv_at hl 1 rfl) ?_
      refine yget (ci := 8) (k := 0) (v := .ref (S.2.2.1 q0 0)) (C := RX8) (T := TX8) (N := 6) C0 hK hP hm_q0 hk_q0 (by decide) rfl inlX8 (by decide) mW16 (fun _ h9 => h9) rfl dX8_tell_28 ?_
      obtain ⟨hmy_246, hky_246⟩ := ySh.f8_0 hSh _ hm_q0 hk_q0
      refine yget (ci := 0) (k := 2) (v := .ref (S.2.2.1 (S.2.2.1 q0 0) 2)) (C := RX0) (T := TX0) (N := 6) C0 hK hP hmy_246 hky_246 (by decide) rfl inlX0 (by decide) mW1028 (fun _ h9 => h9) rfl dX8_tell_31 ?_
      obtain ⟨hmy_247, hky_247⟩ := ySh.f0_2 hSh _ hmy_246 hky_246
      refine yget (ci := 1) (k := 3) (v := .int (d.1 (S.2.2.1 (S.2.2.1 q0 0) 2) 3)) (C := RX1) (T := TX1) (N := 4) C0 hK hP hmy_247 hky_247 (by decide) rfl inlX1 (by decide) mW1042 (fun _ h9 => h9) rfl dX8_tell_34 ?_
      refine lv_topi (fun z_248 ez_248 => ?_)
      refine lv_iconst (v := (-1)) hx hb dX8_tell_37 (by decide) ?_
      refine lv_icmp_ne (tgt := 45) hx hb dX8_tell_38 (by decide) (fun c_249 => ?_) (fun c_249 => ?_)
      · refine lv_iconst (v := 0) hx hb dX8_tell_45 (by decide) ?_
        refine ySri (As := [.int r_245, .int 0]) (rest := []) C0 (g_X8_least l G S d r_245 0 ) ok_X8_least (mW199 : Cond.methodLink RX8 58 yX8_least ∈ wsT) ⟨Nat.le_of_ble_eq_true rfl, Nat.le_of_ble_eq_true rfl⟩ hP hD hK hN rfl hl.1 rfl (Nat.le_of_ble_eq_true rfl) ⟨Nat.le_of_ble_eq_true rfl, Nat.le_of_ble_eq_true rfl⟩ dX8_tell_46 (fun r_250 hr_250 => ?_)
        have hL_251 : (0 : Int32).toInt = 0 := by decide +kernel
        have tr_250 := tl_ hr_250
        refine lv_istore_n (lv' := [(3, .int r_250), (0, .ref q0), (1, .int p0), (2, .int p1)]) hx hb dX8_tell_49 rfl hl (by decide) rfl (fun ls hl => ?_)
        refine lv_aload_n hx hb dX8_tell_50 rfl (lv_at hl 1 rfl) ?_
        refine lv_iload_n hx hb dX8_tell_51 rfl (lv_at hl 0 rfl) ?_
        refine lv_aload_n hx hb dX8_tell_52 rfl (lv_at hl 1 rfl) ?_
        refine yget (ci := 8) (k := 0) (v := .ref (S.2.2.1 q0 0)) (C := RX8) (T := TX8) (N := 6) C0 hK hP hm_q0 hk_q0 (by decide) rfl inlX8 (by decide) mW16 (fun _ h9 => h9) rfl dX8_tell_53 ?_
        refine yget (ci := 0) (k := 2) (v := .ref (S.2.2.1 (S.2.2.1 q0 0) 2)) (C := RX0) (T := TX0) (N := 6) C0 hK hP hmy_246 hky_246 (by decide) rfl inlX0 (by decide) mW1028 (fun _ h9 => h9) rfl dX8_tell_56 ?_
        refine yget (ci := 1) (k := 2) (v := .int (d.1 (S.2.2.1 (S.2.2.1 q0 0) 2) 2)) (C := RX1) (T := TX1) (N := 4) C0 hK hP hmy_247 hky_247 (by decide) rfl inlX1 (by decide) mW1043 (fun _ h9 => h9) rfl dX8_tell_59 ?_
        refine lv_topi (fun z_252 ez_252 => ?_)
        refine lv_sipush (v := 500) hx hb dX8_tell_62 (by decide) ?_
        refine lv_icmp_lt (tgt := 72) hx hb dX8_tell_65 (by decide) (fun c_253 => ?_) (fun c_253 => ?_)
        · refine lv_iconst (v := 0) hx hb dX8_tell_72 (by decide) ?_
          refine ySri (As := [.int r_250, .int 0]) (rest := [.ref q0]) C0 (g_X8_least l G S d r_250 0 ) ok_X8_least (mW199 : Cond.methodLink RX8 58 yX8_least ∈ wsT) ⟨Nat.le_of_ble_eq_true rfl, Nat.le_of_ble_eq_true rfl⟩ hP hD hK hN rfl hl.1 rfl (Nat.le_of_ble_eq_true rfl) ⟨Nat.le_of_ble_eq_true rfl, Nat.le_of_ble_eq_true rfl⟩ dX8_tell_73 (fun r_254 hr_254 => ?_)
          have tr_254 := tl_ hr_254
          refine yVwi (As := [.int r_254]) (rest := []) C0 (g_X8_refused l G S d q0 r_254 hSh hPo hm_q0 hk_q0) ok_X8_refused (mW160 : Cond.methodLink RX8 42 yX8_refused ∈ wsT) ⟨Nat.le_of_ble_eq_true rfl, Nat.le_of_ble_eq_true rfl⟩ hP hD hS hA hK hN hm_q0 hk_q0 (by decide) rfl rfl rfl hl.1 rfl (Nat.le_of_ble_eq_true rfl) ⟨Nat.le_of_ble_eq_true rfl, Nat.le_of_ble_eq_true rfl⟩ dX8_tell_76 (fun r_255 d_256 H locs hr_255 hP hD hS => ?_)
          obtain ⟨hgad_256, hpad_256, hxd_256⟩ := hr_255
          have hgd_256 : yAg S [1, 8, 18, 19, 24] d d_256 := yAg.tr hg0 hgad_256 (by first | decide | exact fun _ h => h)
          have hPod_256 : yPo S d_256 := hpad_256 hPo
          have tr_255 := tr_ hxd_256.1
          refine lv_if_eq (tgt := 84) hx hb dX8_tell_79 (by decide) (fun c_257 => ?_) (fun c_257 => ?_)
          · refine lv_aload_n hx hb dX8_tell_84 rfl (lv_at hl 1 rfl) ?_
            refine yget (ci := 8) (k := 0) (v := .ref (S.2.2.1 q0 0)) (C := RX8) (T := TX8) (N := 6) C0 hK hP hm_q0 hk_q0 (by decide) rfl inlX8 (by decide) mW16 (fun _ h9 => h9) rfl dX8_tell_85 ?_
            refine yget (ci := 0) (k := 2) (v := .ref (S.2.2.1 (S.2.2.1 q0 0) 2)) (C := RX0) (T := TX0) (N := 6) C0 hK hP hmy_246 hky_246 (by decide) rfl inlX0 (by decide) mW1028 (fun _ h9 => h9) rfl dX8_tell_88 ?_
            refine lv_iload_n hx hb dX8_tell_91 rfl (lv_at hl 2 rfl) ?_
            refine lv_iload_n hx hb dX8_tell_92 rfl (lv_at hl 3 rfl) ?_
            refine yVwv (As := [.int p0, .int p1]) (rest := []) C0 (g_X1_add l G S d_256 (S.2.2.1 (S.2.2.1 q0 0) 2) p0 p1 hSh hPod_256 hmy_247 hky_247) ok_X1_add (mW1044 : Cond.methodLink RX8 339 yX1_add ∈ wsT) ⟨Nat.le_of_ble_eq_true rfl, Nat.le_of_ble_eq_true rfl⟩ hP hD hS hA hK hN hmy_247 hky_247 (by decide) rfl rfl rfl hl.1 rfl (Nat.le_of_ble_eq_true rfl) ⟨Nat.le_of_ble_eq_true rfl, Nat.le_of_ble_eq_true rfl⟩ dX8_tell_93 (fun d_259 H locs hr_258 hP hD hS => ?_)
            obtain ⟨hgad_259, hpad_259, hxd_259⟩ := hr_258
            have hgd_259 : yAg S [1, 8, 18, 19, 24] d d_259 := yAg.tr hgd_256 hgad_259 (by first | decide | exact fun _ h => h)
            have hPod_259 : yPo S d_259 := hpad_259 hPod_256
            refine lv_aload_n hx hb dX8_tell_96 rfl (lv_at hl 1 rfl) ?_
            refine yget (ci := 8) (k := 0) (v := .ref (S.2.2.1 q0 0)) (C := RX8) (T := TX8) (N := 6) C0 hK hP hm_q0 hk_q0 (by decide) rfl inlX8 (by decide) mW16 (fun _ h9 => h9) rfl dX8_tell_97 ?_
            refine yget (ci := 0) (k := 2) (v := .ref (S.2.2.1 (S.2.2.1 q0 0) 2)) (C := RX0) (T := TX0) (N := 6) C0 hK hP hmy_246 hky_246 (by decide) rfl inlX0 (by decide) mW1028 (fun _ h9 => h9) rfl dX8_tell_100 ?_
            refine yget (ci := 1) (k := 2) (v := .int (d_259.1 (S.2.2.1 (S.2.2.1 q0 0) 2) 2)) (C := RX1) (T := TX1) (N := 4) C0 hK hP hmy_247 hky_247 (by decide) rfl inlX1 (by decide) mW1043 (fun _ h9 => h9) rfl dX8_tell_103 ?_
            refine lv_topi (fun z_260 ez_260 => ?_)
            have hL_261 : ((-1) : Int32).toInt = (-1) := by decide +kernel
            have hL_262 : ((-2) : Int32).toInt = (-2) := by decide +kernel
            have hL_263 : ((-3) : Int32).toInt = (-3) := by decide +kernel
            have hdzz_248 : (z_248 : Int32).toInt = (d.1 (S.2.2.1 (S.2.2.1 q0 0) 2) 3).toInt := congrArg Int32.toInt ez_248
            have hdzz_252 : (z_252 : Int32).toInt = (d.1 (S.2.2.1 (S.2.2.1 q0 0) 2) 2).toInt := congrArg Int32.toInt ez_252
            have F_264 := fne (rfl : (r_1 : Int32).toInt = (r_1 : Int32).toInt) (by decide +kernel : (0 : Int32).toInt = 0) c_4
            have F_265 := fne (rfl : (r_120 : Int32).toInt = (r_120 : Int32).toInt) (by decide +kernel : (0 : Int32).toInt = 0) c_121
            have F_267 := fne (rfl : (z_248 : Int32).toInt = (z_248 : Int32).toInt) (by decide +kernel : ((-1) : Int32).toInt = (-1)) c_249
            have F_269 := flt (rfl : (z_252 : Int32).toInt = (z_252 : Int32).toInt) (by decide +kernel : (500 : Int32).toInt = 500) c_253
            have F_270 := feq (rfl : (r_255 : Int32).toInt = (r_255 : Int32).toInt) (by decide +kernel : (0 : Int32).toInt = 0) c_257
            exact W.iret (v := z_260) hx hb hr (fun t ht hW => ⟨⟨z_260, d_259, rfl, ⟨hgd_259, (fun _ => hPod_259), ⟨Or.inr ⟨by omega, ez_260.trans (hxd_259.1.trans (by rw [(congrFun (yAg.o hgad_256 (a := (S.2.2.1 (S.2.2.1 q0 0) 2)) (by rw [hky_247]; decide)).1 2)])), (hxd_259.1.trans (by rw [(congrFun (yAg.o hgad_256 (a := (S.2.2.1 (S.2.2.1 q0 0) 2)) (by rw [hky_247]; decide)).1 2)])), hxd_259.2.1.trans (congrFun (yAg.o hgad_256 (a := (S.2.2.1 (S.2.2.1 q0 0) 2)) (by rw [hky_247]; decide)).1 3), fun a ha hn => (o2 (yAg.o hgad_256 (by rw [ha]; decide)) (hxd_259.2.2 a ha hn))⟩, ((congrFun (hgad_259 q0 (by rw [hk_q0]; decide)).1 4).trans (hxd_256.2))⟩⟩, by rw [ht]; exact hP, hD⟩, hS.F ht⟩) hS.2.2 dX8_tell_106
          · refine lv_iconst (v := (-1)) hx hb dX8_tell_82 (by decide) ?_
            have hL_271 : ((-1) : Int32).toInt = (-1) := by decide +kernel
            have hL_272 : ((-2) : Int32).toInt = (-2) := by decide +kernel
            have hL_273 : ((-3) : Int32).toInt = (-3) := by decide +kernel
            have hdzz_248 : (z_248 : Int32).toInt = (d.1 (S.2.2.1 (S.2.2.1 q0 0) 2) 3).toInt := congrArg Int32.toInt ez_248
            have hdzz_252 : (z_252 : Int32).toInt = (d.1 (S.2.2.1 (S.2.2.1 q0 0) 2) 2).toInt := congrArg Int32.toInt ez_252
            have F_274 := fne (rfl : (r_1 : Int32).toInt = (r_1 : Int32).toInt) (by decide +kernel : (0 : Int32).toInt = 0) c_4
            have F_275 := fne (rfl : (r_120 : Int32).toInt = (r_120 : Int32).toInt) (by decide +kernel : (0 : Int32).toInt = 0) c_121
            have F_277 := fne (rfl : (z_248 : Int32).toInt = (z_248 : Int32).toInt) (by decide +kernel : ((-1) : Int32).toInt = (-1)) c_249
            have F_279 := flt (rfl : (z_252 : Int32).toInt = (z_252 : Int32).toInt) (by decide +kernel : (500 : Int32).toInt = 500) c_253
            have F_280 := fne (rfl : (r_255 : Int32).toInt = (r_255 : Int32).toInt) (by decide +kernel : (0 : Int32).toInt = 0) c_257
            exact W.iret (v := (-1)) hx hb hr (fun t ht hW => ⟨⟨(-1), d_256, rfl, ⟨hgd_256, (fun _ => hPod_256), ⟨Or.inl ⟨by omega, by omega, (fun a ha => (yAg.o hgad_256 (by rw [ha]; decide)))⟩, (hxd_256.2)⟩⟩, by rw [ht]; exact hP, hD⟩, hS.F ht⟩) hS.2.2 dX8_tell_83
        · refine lv_iconst (v := 5) hx hb dX8_tell_68 (by decide) ?_
          refine lv_goto (tgt := 73) hx hb dX8_tell_69 (by decide) ?_
          refine ySri (As := [.int r_250, .int 5]) (rest := [.ref q0]) C0 (g_X8_least l G S d r_250 5 ) ok_X8_least (mW199 : Cond.methodLink RX8 58 yX8_least ∈ wsT) ⟨Nat.le_of_ble_eq_true rfl, Nat.le_of_ble_eq_true rfl⟩ hP hD hK hN rfl hl.1 rfl (Nat.le_of_ble_eq_true rfl) ⟨Nat.le_of_ble_eq_true rfl, Nat.le_of_ble_eq_true rfl⟩ dX8_tell_73 (fun r_281 hr_281 => ?_)
          have hL_282 : (5 : Int32).toInt = 5 := by decide +kernel
          have tr_281 := tl_ hr_281
          refine yVwi (As := [.int r_281]) (rest := []) C0 (g_X8_refused l G S d q0 r_281 hSh hPo hm_q0 hk_q0) ok_X8_refused (mW160 : Cond.methodLink RX8 42 yX8_refused ∈ wsT) ⟨Nat.le_of_ble_eq_true rfl, Nat.le_of_ble_eq_true rfl⟩ hP hD hS hA hK hN hm_q0 hk_q0 (by decide) rfl rfl rfl hl.1 rfl (Nat.le_of_ble_eq_true rfl) ⟨Nat.le_of_ble_eq_true rfl, Nat.le_of_ble_eq_true rfl⟩ dX8_tell_76 (fun r_283 d_284 H locs hr_283 hP hD hS => ?_)
          obtain ⟨hgad_284, hpad_284, hxd_284⟩ := hr_283
          have hgd_284 : yAg S [1, 8, 18, 19, 24] d d_284 := yAg.tr hg0 hgad_284 (by first | decide | exact fun _ h => h)
          have hPod_284 : yPo S d_284 := hpad_284 hPo
          have tr_283 := tr_ hxd_284.1
          refine lv_if_eq (tgt := 84) hx hb dX8_tell_79 (by decide) (fun c_285 => ?_) (fun c_285 => ?_)
          · refine lv_aload_n hx hb dX8_tell_84 rfl (lv_at hl 1 rfl) ?_
            refine yget (ci := 8) (k := 0) (v := .ref (S.2.2.1 q0 0)) (C := RX8) (T := TX8) (N := 6) C0 hK hP hm_q0 hk_q0 (by decide) rfl inlX8 (by decide) mW16 (fun _ h9 => h9) rfl dX8_tell_85 ?_
            refine yget (ci := 0) (k := 2) (v := .ref (S.2.2.1 (S.2.2.1 q0 0) 2)) (C := RX0) (T := TX0) (N := 6) C0 hK hP hmy_246 hky_246 (by decide) rfl inlX0 (by decide) mW1028 (fun _ h9 => h9) rfl dX8_tell_88 ?_
            refine lv_iload_n hx hb dX8_tell_91 rfl (lv_at hl 2 rfl) ?_
            refine lv_iload_n hx hb dX8_tell_92 rfl (lv_at hl 3 rfl) ?_
            refine yVwv (As := [.int p0, .int p1]) (rest := []) C0 (g_X1_add l G S d_284 (S.2.2.1 (S.2.2.1 q0 0) 2) p0 p1 hSh hPod_284 hmy_247 hky_247) ok_X1_add (mW1044 : Cond.methodLink RX8 339 yX1_add ∈ wsT) ⟨Nat.le_of_ble_eq_true rfl, Nat.le_of_ble_eq_true rfl⟩ hP hD hS hA hK hN hmy_247 hky_247 (by decide) rfl rfl rfl hl.1 rfl (Nat.le_of_ble_eq_true rfl) ⟨Nat.le_of_ble_eq_true rfl, Nat.le_of_ble_eq_true rfl⟩ dX8_tell_93 (fun d_287 H locs hr_286 hP hD hS => ?_)
            obtain ⟨hgad_287, hpad_287, hxd_287⟩ := hr_286
            have hgd_287 : yAg S [1, 8, 18, 19, 24] d d_287 := yAg.tr hgd_284 hgad_287 (by first | decide | exact fun _ h => h)
            have hPod_287 : yPo S d_287 := hpad_287 hPod_284
            refine lv_aload_n hx hb dX8_tell_96 rfl (lv_at hl 1 rfl) ?_
            refine yget (ci := 8) (k := 0) (v := .ref (S.2.2.1 q0 0)) (C := RX8) (T := TX8) (N := 6) C0 hK hP hm_q0 hk_q0 (by decide) rfl inlX8 (by decide) mW16 (fun _ h9 => h9) rfl dX8_tell_97 ?_
            refine yget (ci := 0) (k := 2) (v := .ref (S.2.2.1 (S.2.2.1 q0 0) 2)) (C := RX0) (T := TX0) (N := 6) C0 hK hP hmy_246 hky_246 (by decide) rfl inlX0 (by decide) mW1028 (fun _ h9 => h9) rfl dX8_tell_100 ?_
            refine yget (ci := 1) (k := 2) (v := .int (d_287.1 (S.2.2.1 (S.2.2.1 q0 0) 2) 2)) (C := RX1) (T := TX1) (N := 4) C0 hK hP hmy_247 hky_247 (by decide) rfl inlX1 (by decide) mW1043 (fun _ h9 => h9) rfl dX8_tell_103 ?_
            refine lv_topi (fun z_288 ez_288 => ?_)
            have hL_289 : ((-1) : Int32).toInt = (-1) := by decide +kernel
            have hL_290 : ((-2) : Int32).toInt = (-2) := by decide +kernel
            have hL_291 : ((-3) : Int32).toInt = (-3) := by decide +kernel
            have hdzz_248 : (z_248 : Int32).toInt = (d.1 (S.2.2.1 (S.2.2.1 q0 0) 2) 3).toInt := congrArg Int32.toInt ez_248
            have hdzz_252 : (z_252 : Int32).toInt = (d.1 (S.2.2.1 (S.2.2.1 q0 0) 2) 2).toInt := congrArg Int32.toInt ez_252
            have F_292 := fne (rfl : (r_1 : Int32).toInt = (r_1 : Int32).toInt) (by decide +kernel : (0 : Int32).toInt = 0) c_4
            have F_293 := fne (rfl : (r_120 : Int32).toInt = (r_120 : Int32).toInt) (by decide +kernel : (0 : Int32).toInt = 0) c_121
            have F_295 := fne (rfl : (z_248 : Int32).toInt = (z_248 : Int32).toInt) (by decide +kernel : ((-1) : Int32).toInt = (-1)) c_249
            have F_297 := fnlt (rfl : (z_252 : Int32).toInt = (z_252 : Int32).toInt) (by decide +kernel : (500 : Int32).toInt = 500) c_253
            have F_298 := feq (rfl : (r_283 : Int32).toInt = (r_283 : Int32).toInt) (by decide +kernel : (0 : Int32).toInt = 0) c_285
            exact W.iret (v := z_288) hx hb hr (fun t ht hW => ⟨⟨z_288, d_287, rfl, ⟨hgd_287, (fun _ => hPod_287), ⟨Or.inr ⟨by omega, ez_288.trans (hxd_287.1.trans (by rw [(congrFun (yAg.o hgad_284 (a := (S.2.2.1 (S.2.2.1 q0 0) 2)) (by rw [hky_247]; decide)).1 2)])), (hxd_287.1.trans (by rw [(congrFun (yAg.o hgad_284 (a := (S.2.2.1 (S.2.2.1 q0 0) 2)) (by rw [hky_247]; decide)).1 2)])), hxd_287.2.1.trans (congrFun (yAg.o hgad_284 (a := (S.2.2.1 (S.2.2.1 q0 0) 2)) (by rw [hky_247]; decide)).1 3), fun a ha hn => (o2 (yAg.o hgad_284 (by rw [ha]; decide)) (hxd_287.2.2 a ha hn))⟩, ((congrFun (hgad_287 q0 (by rw [hk_q0]; decide)).1 4).trans (hxd_284.2))⟩⟩, by rw [ht]; exact hP, hD⟩, hS.F ht⟩) hS.2.2 dX8_tell_106
          · refine lv_iconst (v := (-1)) hx hb dX8_tell_82 (by decide) ?_
            have hL_299 : ((-1) : Int32).toInt = (-1) := by decide +kernel
            have hL_300 : ((-2) : Int32).toInt = (-2) := by decide +kernel
            have hL_301 : ((-3) : Int32).toInt = (-3) := by decide +kernel
            have hdzz_248 : (z_248 : Int32).toInt = (d.1 (S.2.2.1 (S.2.2.1 q0 0) 2) 3).toInt := congrArg Int32.toInt ez_248
            have hdzz_252 : (z_252 : Int32).toInt = (d.1 (S.2.2.1 (S.2.2.1 q0 0) 2) 2).toInt := congrArg Int32.toInt ez_252
            have F_302 := fne (rfl : (r_1 : Int32).toInt = (r_1 : Int32).toInt) (by decide +kernel : (0 : Int32).toInt = 0) c_4
            have F_303 := fne (rfl : (r_120 : Int32).toInt = (r_120 : Int32).toInt) (by decide +kernel : (0 : Int32).toInt = 0) c_121
            have F_305 := fne (rfl : (z_248 : Int32).toInt = (z_248 : Int32).toInt) (by decide +kernel : ((-1) : Int32).toInt = (-1)) c_249
            have F_307 := fnlt (rfl : (z_252 : Int32).toInt = (z_252 : Int32).toInt) (by decide +kernel : (500 : Int32).toInt = 500) c_253
            have F_308 := fne (rfl : (r_283 : Int32).toInt = (r_283 : Int32).toInt) (by decide +kernel : (0 : Int32).toInt = 0) c_285
            exact W.iret (v := (-1)) hx hb hr (fun t ht hW => ⟨⟨(-1), d_284, rfl, ⟨hgd_284, (fun _ => hPod_284), ⟨Or.inl ⟨by omega, by omega, (fun a ha => (yAg.o hgad_284 (by rw [ha]; decide)))⟩, (hxd_284.2)⟩⟩, by rw [ht]; exact hP, hD⟩, hS.F ht⟩) hS.2.2 dX8_tell_83
      · refine lv_iconst (v := 2) hx hb dX8_tell_41 (by decide) ?_
        refine lv_goto (tgt := 46) hx hb dX8_tell_42 (by decide) ?_
        refine ySri (As := [.int r_245, .int 2]) (rest := []) C0 (g_X8_least l G S d r_245 2 ) ok_X8_least (mW199 : Cond.methodLink RX8 58 yX8_least ∈ wsT) ⟨Nat.le_of_ble_eq_true rfl, Nat.le_of_ble_eq_true rfl⟩ hP hD hK hN rfl hl.1 rfl (Nat.le_of_ble_eq_true rfl) ⟨Nat.le_of_ble_eq_true rfl, Nat.le_of_ble_eq_true rfl⟩ dX8_tell_46 (fun r_309 hr_309 => ?_)
        have hL_310 : (2 : Int32).toInt = 2 := by decide +kernel
        have tr_309 := tl_ hr_309
        refine lv_istore_n (lv' := [(3, .int r_309), (0, .ref q0), (1, .int p0), (2, .int p1)]) hx hb dX8_tell_49 rfl hl (by decide) rfl (fun ls hl => ?_)
        refine lv_aload_n hx hb dX8_tell_50 rfl (lv_at hl 1 rfl) ?_
        refine lv_iload_n hx hb dX8_tell_51 rfl (lv_at hl 0 rfl) ?_
        refine lv_aload_n hx hb dX8_tell_52 rfl (lv_at hl 1 rfl) ?_
        refine yget (ci := 8) (k := 0) (v := .ref (S.2.2.1 q0 0)) (C := RX8) (T := TX8) (N := 6) C0 hK hP hm_q0 hk_q0 (by decide) rfl inlX8 (by decide) mW16 (fun _ h9 => h9) rfl dX8_tell_53 ?_
        refine yget (ci := 0) (k := 2) (v := .ref (S.2.2.1 (S.2.2.1 q0 0) 2)) (C := RX0) (T := TX0) (N := 6) C0 hK hP hmy_246 hky_246 (by decide) rfl inlX0 (by decide) mW1028 (fun _ h9 => h9) rfl dX8_tell_56 ?_
        refine yget (ci := 1) (k := 2) (v := .int (d.1 (S.2.2.1 (S.2.2.1 q0 0) 2) 2)) (C := RX1) (T := TX1) (N := 4) C0 hK hP hmy_247 hky_247 (by decide) rfl inlX1 (by decide) mW1043 (fun _ h9 => h9) rfl dX8_tell_59 ?_
        refine lv_topi (fun z_311 ez_311 => ?_)
        refine lv_sipush (v := 500) hx hb dX8_tell_62 (by decide) ?_
        refine lv_icmp_lt (tgt := 72) hx hb dX8_tell_65 (by decide) (fun c_312 => ?_) (fun c_312 => ?_)
        · refine lv_iconst (v := 0) hx hb dX8_tell_72 (by decide) ?_
          refine ySri (As := [.int r_309, .int 0]) (rest := [.ref q0]) C0 (g_X8_least l G S d r_309 0 ) ok_X8_least (mW199 : Cond.methodLink RX8 58 yX8_least ∈ wsT) ⟨Nat.le_of_ble_eq_true rfl, Nat.le_of_ble_eq_true rfl⟩ hP hD hK hN rfl hl.1 rfl (Nat.le_of_ble_eq_true rfl) ⟨Nat.le_of_ble_eq_true rfl, Nat.le_of_ble_eq_true rfl⟩ dX8_tell_73 (fun r_313 hr_313 => ?_)
          have hL_314 : (0 : Int32).toInt = 0 := by decide +kernel
          have tr_313 := tl_ hr_313
          refine yVwi (As := [.int r_313]) (rest := []) C0 (g_X8_refused l G S d q0 r_313 hSh hPo hm_q0 hk_q0) ok_X8_refused (mW160 : Cond.methodLink RX8 42 yX8_refused ∈ wsT) ⟨Nat.le_of_ble_eq_true rfl, Nat.le_of_ble_eq_true rfl⟩ hP hD hS hA hK hN hm_q0 hk_q0 (by decide) rfl rfl rfl hl.1 rfl (Nat.le_of_ble_eq_true rfl) ⟨Nat.le_of_ble_eq_true rfl, Nat.le_of_ble_eq_true rfl⟩ dX8_tell_76 (fun r_315 d_316 H locs hr_315 hP hD hS => ?_)
          obtain ⟨hgad_316, hpad_316, hxd_316⟩ := hr_315
          have hgd_316 : yAg S [1, 8, 18, 19, 24] d d_316 := yAg.tr hg0 hgad_316 (by first | decide | exact fun _ h => h)
          have hPod_316 : yPo S d_316 := hpad_316 hPo
          have tr_315 := tr_ hxd_316.1
          refine lv_if_eq (tgt := 84) hx hb dX8_tell_79 (by decide) (fun c_317 => ?_) (fun c_317 => ?_)
          · refine lv_aload_n hx hb dX8_tell_84 rfl (lv_at hl 1 rfl) ?_
            refine yget (ci := 8) (k := 0) (v := .ref (S.2.2.1 q0 0)) (C := RX8) (T := TX8) (N := 6) C0 hK hP hm_q0 hk_q0 (by decide) rfl inlX8 (by decide) mW16 (fun _ h9 => h9) rfl dX8_tell_85 ?_
            refine yget (ci := 0) (k := 2) (v := .ref (S.2.2.1 (S.2.2.1 q0 0) 2)) (C := RX0) (T := TX0) (N := 6) C0 hK hP hmy_246 hky_246 (by decide) rfl inlX0 (by decide) mW1028 (fun _ h9 => h9) rfl dX8_tell_88 ?_
            refine lv_iload_n hx hb dX8_tell_91 rfl (lv_at hl 2 rfl) ?_
            refine lv_iload_n hx hb dX8_tell_92 rfl (lv_at hl 3 rfl) ?_
            refine yVwv (As := [.int p0, .int p1]) (rest := []) C0 (g_X1_add l G S d_316 (S.2.2.1 (S.2.2.1 q0 0) 2) p0 p1 hSh hPod_316 hmy_247 hky_247) ok_X1_add (mW1044 : Cond.methodLink RX8 339 yX1_add ∈ wsT) ⟨Nat.le_of_ble_eq_true rfl, Nat.le_of_ble_eq_true rfl⟩ hP hD hS hA hK hN hmy_247 hky_247 (by decide) rfl rfl rfl hl.1 rfl (Nat.le_of_ble_eq_true rfl) ⟨Nat.le_of_ble_eq_true rfl, Nat.le_of_ble_eq_true rfl⟩ dX8_tell_93 (fun d_319 H locs hr_318 hP hD hS => ?_)
            obtain ⟨hgad_319, hpad_319, hxd_319⟩ := hr_318
            have hgd_319 : yAg S [1, 8, 18, 19, 24] d d_319 := yAg.tr hgd_316 hgad_319 (by first | decide | exact fun _ h => h)
            have hPod_319 : yPo S d_319 := hpad_319 hPod_316
            refine lv_aload_n hx hb dX8_tell_96 rfl (lv_at hl 1 rfl) ?_
            refine yget (ci := 8) (k := 0) (v := .ref (S.2.2.1 q0 0)) (C := RX8) (T := TX8) (N := 6) C0 hK hP hm_q0 hk_q0 (by decide) rfl inlX8 (by decide) mW16 (fun _ h9 => h9) rfl dX8_tell_97 ?_
            refine yget (ci := 0) (k := 2) (v := .ref (S.2.2.1 (S.2.2.1 q0 0) 2)) (C := RX0) (T := TX0) (N := 6) C0 hK hP hmy_246 hky_246 (by decide) rfl inlX0 (by decide) mW1028 (fun _ h9 => h9) rfl dX8_tell_100 ?_
            refine yget (ci := 1) (k := 2) (v := .int (d_319.1 (S.2.2.1 (S.2.2.1 q0 0) 2) 2)) (C := RX1) (T := TX1) (N := 4) C0 hK hP hmy_247 hky_247 (by decide) rfl inlX1 (by decide) mW1043 (fun _ h9 => h9) rfl dX8_tell_103 ?_
            refine lv_topi (fun z_320 ez_320 => ?_)
            have hL_321 : ((-1) : Int32).toInt = (-1) := by decide +kernel
            have hL_322 : ((-2) : Int32).toInt = (-2) := by decide +kernel
            have hL_323 : ((-3) : Int32).toInt = (-3) := by decide +kernel
            have hdzz_248 : (z_248 : Int32).toInt = (d.1 (S.2.2.1 (S.2.2.1 q0 0) 2) 3).toInt := congrArg Int32.toInt ez_248
            have hdzz_311 : (z_311 : Int32).toInt = (d.1 (S.2.2.1 (S.2.2.1 q0 0) 2) 2).toInt := congrArg Int32.toInt ez_311
            have F_324 := fne (rfl : (r_1 : Int32).toInt = (r_1 : Int32).toInt) (by decide +kernel : (0 : Int32).toInt = 0) c_4
            have F_325 := fne (rfl : (r_120 : Int32).toInt = (r_120 : Int32).toInt) (by decide +kernel : (0 : Int32).toInt = 0) c_121
            have F_327 := feq (rfl : (z_248 : Int32).toInt = (z_248 : Int32).toInt) (by decide +kernel : ((-1) : Int32).toInt = (-1)) c_249
            have F_329 := flt (rfl : (z_311 : Int32).toInt = (z_311 : Int32).toInt) (by decide +kernel : (500 : Int32).toInt = 500) c_312
            have F_330 := feq (rfl : (r_315 : Int32).toInt = (r_315 : Int32).toInt) (by decide +kernel : (0 : Int32).toInt = 0) c_317
            exact W.iret (v := z_320) hx hb hr (fun t ht hW => ⟨⟨z_320, d_319, rfl, ⟨hgd_319, (fun _ => hPod_319), ⟨Or.inr ⟨by omega, ez_320.trans (hxd_319.1.trans (by rw [(congrFun (yAg.o hgad_316 (a := (S.2.2.1 (S.2.2.1 q0 0) 2)) (by rw [hky_247]; decide)).1 2)])), (hxd_319.1.trans (by rw [(congrFun (yAg.o hgad_316 (a := (S.2.2.1 (S.2.2.1 q0 0) 2)) (by rw [hky_247]; decide)).1 2)])), hxd_319.2.1.trans (congrFun (yAg.o hgad_316 (a := (S.2.2.1 (S.2.2.1 q0 0) 2)) (by rw [hky_247]; decide)).1 3), fun a ha hn => (o2 (yAg.o hgad_316 (by rw [ha]; decide)) (hxd_319.2.2 a ha hn))⟩, ((congrFun (hgad_319 q0 (by rw [hk_q0]; decide)).1 4).trans (hxd_316.2))⟩⟩, by rw [ht]; exact hP, hD⟩, hS.F ht⟩) hS.2.2 dX8_tell_106
          · refine lv_iconst (v := (-1)) hx hb dX8_tell_82 (by decide) ?_
            have hL_331 : ((-1) : Int32).toInt = (-1) := by decide +kernel
            have hL_332 : ((-2) : Int32).toInt = (-2) := by decide +kernel
            have hL_333 : ((-3) : Int32).toInt = (-3) := by decide +kernel
            have hdzz_248 : (z_248 : Int32).toInt = (d.1 (S.2.2.1 (S.2.2.1 q0 0) 2) 3).toInt := congrArg Int32.toInt ez_248
            have hdzz_311 : (z_311 : Int32).toInt = (d.1 (S.2.2.1 (S.2.2.1 q0 0) 2) 2).toInt := congrArg Int32.toInt ez_311
            have F_334 := fne (rfl : (r_1 : Int32).toInt = (r_1 : Int32).toInt) (by decide +kernel : (0 : Int32).toInt = 0) c_4
            have F_335 := fne (rfl : (r_120 : Int32).toInt = (r_120 : Int32).toInt) (by decide +kernel : (0 : Int32).toInt = 0) c_121
            have F_337 := feq (rfl : (z_248 : Int32).toInt = (z_248 : Int32).toInt) (by decide +kernel : ((-1) : Int32).toInt = (-1)) c_249
            have F_339 := flt (rfl : (z_311 : Int32).toInt = (z_311 : Int32).toInt) (by decide +kernel : (500 : Int32).toInt = 500) c_312
            have F_340 := fne (rfl : (r_315 : Int32).toInt = (r_315 : Int32).toInt) (by decide +kernel : (0 : Int32).toInt = 0) c_317
            exact W.iret (v := (-1)) hx hb hr (fun t ht hW => ⟨⟨(-1), d_316, rfl, ⟨hgd_316, (fun _ => hPod_316), ⟨Or.inl ⟨by omega, by omega, (fun a ha => (yAg.o hgad_316 (by rw [ha]; decide)))⟩, (hxd_316.2)⟩⟩, by rw [ht]; exact hP, hD⟩, hS.F ht⟩) hS.2.2 dX8_tell_83
        · refine lv_iconst (v := 5) hx hb dX8_tell_68 (by decide) ?_
          refine lv_goto (tgt := 73) hx hb dX8_tell_69 (by decide) ?_
          refine ySri (As := [.int r_309, .int 5]) (rest := [.ref q0]) C0 (g_X8_least l G S d r_309 5 ) ok_X8_least (mW199 : Cond.methodLink RX8 58 yX8_least ∈ wsT) ⟨Nat.le_of_ble_eq_true rfl, Nat.le_of_ble_eq_true rfl⟩ hP hD hK hN rfl hl.1 rfl (Nat.le_of_ble_eq_true rfl) ⟨Nat.le_of_ble_eq_true rfl, Nat.le_of_ble_eq_true rfl⟩ dX8_tell_73 (fun r_341 hr_341 => ?_)
          have hL_342 : (5 : Int32).toInt = 5 := by decide +kernel
          have tr_341 := tl_ hr_341
          refine yVwi (As := [.int r_341]) (rest := []) C0 (g_X8_refused l G S d q0 r_341 hSh hPo hm_q0 hk_q0) ok_X8_refused (mW160 : Cond.methodLink RX8 42 yX8_refused ∈ wsT) ⟨Nat.le_of_ble_eq_true rfl, Nat.le_of_ble_eq_true rfl⟩ hP hD hS hA hK hN hm_q0 hk_q0 (by decide) rfl rfl rfl hl.1 rfl (Nat.le_of_ble_eq_true rfl) ⟨Nat.le_of_ble_eq_true rfl, Nat.le_of_ble_eq_true rfl⟩ dX8_tell_76 (fun r_343 d_344 H locs hr_343 hP hD hS => ?_)
          obtain ⟨hgad_344, hpad_344, hxd_344⟩ := hr_343
          have hgd_344 : yAg S [1, 8, 18, 19, 24] d d_344 := yAg.tr hg0 hgad_344 (by first | decide | exact fun _ h => h)
          have hPod_344 : yPo S d_344 := hpad_344 hPo
          have tr_343 := tr_ hxd_344.1
          refine lv_if_eq (tgt := 84) hx hb dX8_tell_79 (by decide) (fun c_345 => ?_) (fun c_345 => ?_)
          · refine lv_aload_n hx hb dX8_tell_84 rfl (lv_at hl 1 rfl) ?_
            refine yget (ci := 8) (k := 0) (v := .ref (S.2.2.1 q0 0)) (C := RX8) (T := TX8) (N := 6) C0 hK hP hm_q0 hk_q0 (by decide) rfl inlX8 (by decide) mW16 (fun _ h9 => h9) rfl dX8_tell_85 ?_
            refine yget (ci := 0) (k := 2) (v := .ref (S.2.2.1 (S.2.2.1 q0 0) 2)) (C := RX0) (T := TX0) (N := 6) C0 hK hP hmy_246 hky_246 (by decide) rfl inlX0 (by decide) mW1028 (fun _ h9 => h9) rfl dX8_tell_88 ?_
            refine lv_iload_n hx hb dX8_tell_91 rfl (lv_at hl 2 rfl) ?_
            refine lv_iload_n hx hb dX8_tell_92 rfl (lv_at hl 3 rfl) ?_
            refine yVwv (As := [.int p0, .int p1]) (rest := []) C0 (g_X1_add l G S d_344 (S.2.2.1 (S.2.2.1 q0 0) 2) p0 p1 hSh hPod_344 hmy_247 hky_247) ok_X1_add (mW1044 : Cond.methodLink RX8 339 yX1_add ∈ wsT) ⟨Nat.le_of_ble_eq_true rfl, Nat.le_of_ble_eq_true rfl⟩ hP hD hS hA hK hN hmy_247 hky_247 (by decide) rfl rfl rfl hl.1 rfl (Nat.le_of_ble_eq_true rfl) ⟨Nat.le_of_ble_eq_true rfl, Nat.le_of_ble_eq_true rfl⟩ dX8_tell_93 (fun d_347 H locs hr_346 hP hD hS => ?_)
            obtain ⟨hgad_347, hpad_347, hxd_347⟩ := hr_346
            have hgd_347 : yAg S [1, 8, 18, 19, 24] d d_347 := yAg.tr hgd_344 hgad_347 (by first | decide | exact fun _ h => h)
            have hPod_347 : yPo S d_347 := hpad_347 hPod_344
            refine lv_aload_n hx hb dX8_tell_96 rfl (lv_at hl 1 rfl) ?_
            refine yget (ci := 8) (k := 0) (v := .ref (S.2.2.1 q0 0)) (C := RX8) (T := TX8) (N := 6) C0 hK hP hm_q0 hk_q0 (by decide) rfl inlX8 (by decide) mW16 (fun _ h9 => h9) rfl dX8_tell_97 ?_
            refine yget (ci := 0) (k := 2) (v := .ref (S.2.2.1 (S.2.2.1 q0 0) 2)) (C := RX0) (T := TX0) (N := 6) C0 hK hP hmy_246 hky_246 (by decide) rfl inlX0 (by decide) mW1028 (fun _ h9 => h9) rfl dX8_tell_100 ?_
            refine yget (ci := 1) (k := 2) (v := .int (d_347.1 (S.2.2.1 (S.2.2.1 q0 0) 2) 2)) (C := RX1) (T := TX1) (N := 4) C0 hK hP hmy_247 hky_247 (by decide) rfl inlX1 (by decide) mW1043 (fun _ h9 => h9) rfl dX8_tell_103 ?_
            refine lv_topi (fun z_348 ez_348 => ?_)
            have hL_349 : ((-1) : Int32).toInt = (-1) := by decide +kernel
            have hL_350 : ((-2) : Int32).toInt = (-2) := by decide +kernel
            have hL_351 : ((-3) : Int32).toInt = (-3) := by decide +kernel
            have hdzz_248 : (z_248 : Int32).toInt = (d.1 (S.2.2.1 (S.2.2.1 q0 0) 2) 3).toInt := congrArg Int32.toInt ez_248
            have hdzz_311 : (z_311 : Int32).toInt = (d.1 (S.2.2.1 (S.2.2.1 q0 0) 2) 2).toInt := congrArg Int32.toInt ez_311
            have F_352 := fne (rfl : (r_1 : Int32).toInt = (r_1 : Int32).toInt) (by decide +kernel : (0 : Int32).toInt = 0) c_4
            have F_353 := fne (rfl : (r_120 : Int32).toInt = (r_120 : Int32).toInt) (by decide +kernel : (0 : Int32).toInt = 0) c_121
            have F_355 := feq (rfl : (z_248 : Int32).toInt = (z_248 : Int32).toInt) (by decide +kernel : ((-1) : Int32).toInt = (-1)) c_249
            have F_357 := fnlt (rfl : (z_311 : Int32).toInt = (z_311 : Int32).toInt) (by decide +kernel : (500 : Int32).toInt = 500) c_312
            have F_358 := feq (rfl : (r_343 : Int32).toInt = (r_343 : Int32).toInt) (by decide +kernel : (0 : Int32).toInt = 0) c_345
            exact W.iret (v := z_348) hx hb hr (fun t ht hW => ⟨⟨z_348, d_347, rfl, ⟨hgd_347, (fun _ => hPod_347), ⟨Or.inr ⟨by omega, ez_348.trans (hxd_347.1.trans (by rw [(congrFun (yAg.o hgad_344 (a := (S.2.2.1 (S.2.2.1 q0 0) 2)) (by rw [hky_247]; decide)).1 2)])), (hxd_347.1.trans (by rw [(congrFun (yAg.o hgad_344 (a := (S.2.2.1 (S.2.2.1 q0 0) 2)) (by rw [hky_247]; decide)).1 2)])), hxd_347.2.1.trans (congrFun (yAg.o hgad_344 (a := (S.2.2.1 (S.2.2.1 q0 0) 2)) (by rw [hky_247]; decide)).1 3), fun a ha hn => (o2 (yAg.o hgad_344 (by rw [ha]; decide)) (hxd_347.2.2 a ha hn))⟩, ((congrFun (hgad_347 q0 (by rw [hk_q0]; decide)).1 4).trans (hxd_344.2))⟩⟩, by rw [ht]; exact hP, hD⟩, hS.F ht⟩) hS.2.2 dX8_tell_106
          · refine lv_iconst (v := (-1)) hx hb dX8_tell_82 (by decide) ?_
            have hL_359 : ((-1) : Int32).toInt = (-1) := by decide +kernel
            have hL_360 : ((-2) : Int32).toInt = (-2) := by decide +kernel
            have hL_361 : ((-3) : Int32).toInt = (-3) := by decide +kernel
            have hdzz_248 : (z_248 : Int32).toInt = (d.1 (S.2.2.1 (S.2.2.1 q0 0) 2) 3).toInt := congrArg Int32.toInt ez_248
            have hdzz_311 : (z_311 : Int32).toInt = (d.1 (S.2.2.1 (S.2.2.1 q0 0) 2) 2).toInt := congrArg Int32.toInt ez_311
            have F_362 := fne (rfl : (r_1 : Int32).toInt = (r_1 : Int32).toInt) (by decide +kernel : (0 : Int32).toInt = 0) c_4
            have F_363 := fne (rfl : (r_120 : Int32).toInt = (r_120 : Int32).toInt) (by decide +kernel : (0 : Int32).toInt = 0) c_121
            have F_365 := feq (rfl : (z_248 : Int32).toInt = (z_248 : Int32).toInt) (by decide +kernel : ((-1) : Int32).toInt = (-1)) c_249
            have F_367 := fnlt (rfl : (z_311 : Int32).toInt = (z_311 : Int32).toInt) (by decide +kernel : (500 : Int32).toInt = 500) c_312
            have F_368 := fne (rfl : (r_343 : Int32).toInt = (r_343 : Int32).toInt) (by decide +kernel : (0 : Int32).toInt = 0) c_345
            exact W.iret (v := (-1)) hx hb hr (fun t ht hW => ⟨⟨(-1), d_344, rfl, ⟨hgd_344, (fun _ => hPod_344), ⟨Or.inl ⟨by omega, by omega, (fun a ha => (yAg.o hgad_344 (by rw [ha]; decide)))⟩, (hxd_344.2)⟩⟩, by rw [ht]; exact hP, hD⟩, hS.F ht⟩) hS.2.2 dX8_tell_83
