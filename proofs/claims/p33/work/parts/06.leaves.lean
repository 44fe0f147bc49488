theorem dX8_within_0 : decode cX8_within 0 = .ok (.iload_n 0, 1) := by decide +kernel
theorem dX8_within_1 : decode cX8_within 1 = .ok (.iload_n 1, 1) := by decide +kernel
theorem dX8_within_2 : decode cX8_within 2 = .ok (.if_icmp .lt 12, 3) := by decide +kernel
theorem dX8_within_5 : decode cX8_within 5 = .ok (.iload_n 0, 1) := by decide +kernel
theorem dX8_within_6 : decode cX8_within 6 = .ok (.iload_n 2, 1) := by decide +kernel
theorem dX8_within_7 : decode cX8_within 7 = .ok (.if_icmp .gt 7, 3) := by decide +kernel
theorem dX8_within_10 : decode cX8_within 10 = .ok (.iconst 1, 1) := by decide +kernel
theorem dX8_within_11 : decode cX8_within 11 = .ok (.goto 4, 3) := by decide +kernel
theorem dX8_within_14 : decode cX8_within 14 = .ok (.iconst 0, 1) := by decide +kernel
theorem dX8_within_15 : decode cX8_within 15 = .ok (.ireturn, 1) := by decide +kernel
set_option maxHeartbeats 4000000 in
set_option maxRecDepth 100000 in
theorem g_X8_within (l : Launch) (G : xG) (S : yS) (d : yD) (p0 : Int32) (p1 : Int32) (p2 : Int32) : xRi l G yX8_within cX8_within 3 (some .boolean) 0 0 [.int p0, .int p1, .int p2] (yW G S d) (fun r => (r = 1 ∧ ¬ p0 < p1 ∧ ¬ p2 < p0) ∨ (r = 0 ∧ (p0 < p1 ∨ p2 < p0))) := by
  intro sz
  refine xstart (by decide) (Nat.le_of_ble_eq_true rfl) (fun p e s m args below meth c ls C0 hr hlocks hin hsz hP hK hD hN hl => ?_)
  obtain ⟨hx, hb, hml, hown, htl⟩ := id C0
  have hl : lv_has ls 3 [(0, .int p0), (1, .int p1), (2, .int p2)] := hl
  refine lv_iload_n hx hb dX8_within_0 rfl (lv_at hl 0 rfl) ?_
  refine lv_iload_n hx hb dX8_within_1 rfl (lv_at hl 1 rfl) ?_
  refine lv_icmp_lt (tgt := 14) hx hb dX8_within_2 (by decide) (fun c_1 => ?_) (fun c_1 => ?_)
  · refine lv_iconst (v := 0) hx hb dX8_within_14 (by decide) ?_
    exact W.zret (v := 0) (ty := .boolean) hx hb hr rfl (fun t ht hW => ⟨0, rfl, Or.inr ⟨rfl, Or.inl c_1⟩, ht⟩) (fun q hq => by cases hq) dX8_within_15
  · refine lv_iload_n hx hb dX8_within_5 rfl (lv_at hl 0 rfl) ?_
    refine lv_iload_n hx hb dX8_within_6 rfl (lv_at hl 2 rfl) ?_
    refine lv_icmp_gt (tgt := 14) hx hb dX8_within_7 (by decide) (fun c_2 => ?_) (fun c_2 => ?_)
    · refine lv_iconst (v := 0) hx hb dX8_within_14 (by decide) ?_
      exact W.zret (v := 0) (ty := .boolean) hx hb hr rfl (fun t ht hW => ⟨0, rfl, Or.inr ⟨rfl, Or.inr c_2⟩, ht⟩) (fun q hq => by cases hq) dX8_within_15
    · refine lv_iconst (v := 1) hx hb dX8_within_10 (by decide) ?_
      refine lv_goto (tgt := 15) hx hb dX8_within_11 (by decide) ?_
      exact W.zret (v := 1) (ty := .boolean) hx hb hr rfl (fun t ht hW => ⟨1, rfl, Or.inl ⟨rfl, c_1, c_2⟩, ht⟩) (fun q hq => by cases hq) dX8_within_15
theorem dX8_least_0 : decode cX8_least 0 = .ok (.iload_n 0, 1) := by decide +kernel
theorem dX8_least_1 : decode cX8_least 1 = .ok (.ifCond .eq 7, 3) := by decide +kernel
theorem dX8_least_4 : decode cX8_least 4 = .ok (.iload_n 1, 1) := by decide +kernel
theorem dX8_least_5 : decode cX8_least 5 = .ok (.ifCond .ne 7, 3) := by decide +kernel
theorem dX8_least_8 : decode cX8_least 8 = .ok (.iload_n 0, 1) := by decide +kernel
theorem dX8_least_9 : decode cX8_least 9 = .ok (.iload_n 1, 1) := by decide +kernel
theorem dX8_least_10 : decode cX8_least 10 = .ok (.iadd, 1) := by decide +kernel
theorem dX8_least_11 : decode cX8_least 11 = .ok (.ireturn, 1) := by decide +kernel
theorem dX8_least_12 : decode cX8_least 12 = .ok (.iload_n 0, 1) := by decide +kernel
theorem dX8_least_13 : decode cX8_least 13 = .ok (.iload_n 1, 1) := by decide +kernel
theorem dX8_least_14 : decode cX8_least 14 = .ok (.invokestatic 162, 3) := by decide +kernel
theorem dX8_least_17 : decode cX8_least 17 = .ok (.ireturn, 1) := by decide +kernel
set_option maxHeartbeats 4000000 in
set_option maxRecDepth 100000 in
theorem g_X8_least (l : Launch) (G : xG) (S : yS) (d : yD) (p0 : Int32) (p1 : Int32) : xRi l G yX8_least cX8_least 2 (some .int) 1 13 [.int p0, .int p1] (yW G S d) (fun r => r = xleast p0 p1) := by
  intro sz
  refine xstart (by decide) (Nat.le_of_ble_eq_true rfl) (fun p e s m args below meth c ls C0 hr hlocks hin hsz hP hK hD hN hl => ?_)
  obtain ⟨hx, hb, hml, hown, htl⟩ := id C0
  have hl : lv_has ls 2 [(0, .int p0), (1, .int p1)] := hl
  refine lv_iload_n hx hb dX8_least_0 rfl (lv_at hl 0 rfl) ?_
  refine lv_if_eq (tgt := 8) hx hb dX8_least_1 (by decide) (fun c_1 => ?_) (fun c_1 => ?_)
  · refine lv_iload_n hx hb dX8_least_8 rfl (lv_at hl 0 rfl) ?_
    refine lv_iload_n hx hb dX8_least_9 rfl (lv_at hl 1 rfl) ?_
    refine lv_iadd hx hb dX8_least_10 ?_
    refine lv_topi (fun z_2 ez_2 => ?_)
    exact W.iret (v := z_2) hx hb hr (fun t ht hW => ⟨z_2, rfl, (by rw [ez_2]; exact (if_pos (Or.inl c_1)).symm), ht⟩) (fun q hq => by cases hq) dX8_least_11
  · refine lv_iload_n hx hb dX8_least_4 rfl (lv_at hl 1 rfl) ?_
    refine lv_if_ne (tgt := 12) hx hb dX8_least_5 (by decide) (fun c_3 => ?_) (fun c_3 => ?_)
    · refine lv_iload_n hx hb dX8_least_12 rfl (lv_at hl 0 rfl) ?_
      refine lv_iload_n hx hb dX8_least_13 rfl (lv_at hl 1 rfl) ?_
      refine va_mmin hx hb (by rw [hml]; exact hl.1.symm) hown (htl (.methodLink RX8 162 Lib.Math.min.name) mW202) (htl (.static Lib.Math.min.name) mW203) (htl (.initialized "java/lang/Math") mW204) (htl (.code Lib.Math.min.name Lib.Math.min.code 2 (some .int)) mW205) (Nat.le_of_ble_eq_true rfl) (Nat.le_of_ble_eq_true rfl) (Nat.le_of_ble_eq_true rfl) (Nat.le_of_ble_eq_true rfl) dX8_least_14 ?_
      refine lv_topi (fun z_4 ez_4 => ?_)
      exact W.iret (v := z_4) hx hb hr (fun t ht hW => ⟨z_4, rfl, (by rw [ez_4]; exact (if_neg (fun h => h.elim c_1 c_3)).symm), ht⟩) (fun q hq => by cases hq) dX8_least_17
    · refine lv_iload_n hx hb dX8_least_8 rfl (lv_at hl 0 rfl) ?_
      refine lv_iload_n hx hb dX8_least_9 rfl (lv_at hl 1 rfl) ?_
      refine lv_iadd hx hb dX8_least_10 ?_
      refine lv_topi (fun z_5 ez_5 => ?_)
      exact W.iret (v := z_5) hx hb hr (fun t ht hW => ⟨z_5, rfl, (by rw [ez_5]; exact (if_pos (Or.inr c_3)).symm), ht⟩) (fun q hq => by cases hq) dX8_least_11
theorem dX8_number_0 : decode cX8_number 0 = .ok (.iload_n 0, 1) := by decide +kernel
theorem dX8_number_1 : decode cX8_number 1 = .ok (.ifCond .eq 7, 3) := by decide +kernel
theorem dX8_number_4 : decode cX8_number 4 = .ok (.iconst 0, 1) := by decide +kernel
theorem dX8_number_5 : decode cX8_number 5 = .ok (.goto 4, 3) := by decide +kernel
theorem dX8_number_8 : decode cX8_number 8 = .ok (.iconst 1, 1) := by decide +kernel
theorem dX8_number_9 : decode cX8_number 9 = .ok (.ireturn, 1) := by decide +kernel
set_option maxHeartbeats 4000000 in
set_option maxRecDepth 100000 in
theorem g_X8_number (l : Launch) (G : xG) (S : yS) (d : yD) (p0 : Int32) : xRi l G yX8_number cX8_number 1 (some .int) 0 0 [.int p0] (yW G S d) (fun r => r = xnum p0) := by
  intro sz
  refine xstart (by decide) (Nat.le_of_ble_eq_true rfl) (fun p e s m args below meth c ls C0 hr hlocks hin hsz hP hK hD hN hl => ?_)
  obtain ⟨hx, hb, hml, hown, htl⟩ := id C0
  have hl : lv_has ls 1 [(0, .int p0)] := hl
  refine lv_iload_n hx hb dX8_number_0 rfl (lv_at hl 0 rfl) ?_
  refine lv_if_eq (tgt := 8) hx hb dX8_number_1 (by decide) (fun c_1 => ?_) (fun c_1 => ?_)
  · refine lv_iconst (v := 1) hx hb dX8_number_8 (by decide) ?_
    exact W.iret (v := 1) hx hb hr (fun t ht hW => ⟨1, rfl, (if_pos c_1).symm, ht⟩) (fun q hq => by cases hq) dX8_number_9
  · refine lv_iconst (v := 0) hx hb dX8_number_4 (by decide) ?_
    refine lv_goto (tgt := 9) hx hb dX8_number_5 (by decide) ?_
    exact W.iret (v := 0) hx hb hr (fun t ht hW => ⟨0, rfl, (if_neg c_1).symm, ht⟩) (fun q hq => by cases hq) dX8_number_9
theorem dX8_rowOf_0 : decode cX8_rowOf 0 = .ok (.iload_n 0, 1) := by decide +kernel
theorem dX8_rowOf_1 : decode cX8_rowOf 1 = .ok (.bipush 60, 2) := by decide +kernel
theorem dX8_rowOf_3 : decode cX8_rowOf 3 = .ok (.imul, 1) := by decide +kernel
theorem dX8_rowOf_4 : decode cX8_rowOf 4 = .ok (.iload_n 1, 1) := by decide +kernel
theorem dX8_rowOf_5 : decode cX8_rowOf 5 = .ok (.iadd, 1) := by decide +kernel
theorem dX8_rowOf_6 : decode cX8_rowOf 6 = .ok (.ireturn, 1) := by decide +kernel
set_option maxHeartbeats 4000000 in
set_option maxRecDepth 100000 in
theorem g_X8_rowOf (l : Launch) (G : xG) (S : yS) (d : yD) (p0 : Int32) (p1 : Int32) : xRi l G yX8_rowOf cX8_rowOf 2 (some .int) 0 0 [.int p0, .int p1] (yW G S d) (fun r => r = p0 * 60 + p1) := by
  intro sz
  refine xstart (by decide) (Nat.le_of_ble_eq_true rfl) (fun p e s m args below meth c ls C0 hr hlocks hin hsz hP hK hD hN hl => ?_)
  obtain ⟨hx, hb, hml, hown, htl⟩ := id C0
  have hl : lv_has ls 2 [(0, .int p0), (1, .int p1)] := hl
  refine lv_iload_n hx hb dX8_rowOf_0 rfl (lv_at hl 0 rfl) ?_
  refine lv_bipush (v := 60) hx hb dX8_rowOf_1 (by decide) ?_
  refine lv_imul hx hb dX8_rowOf_3 ?_
  refine lv_topi (fun z_1 ez_1 => ?_)
  refine lv_iload_n hx hb dX8_rowOf_4 rfl (lv_at hl 1 rfl) ?_
  refine lv_iadd hx hb dX8_rowOf_5 ?_
  refine lv_topi (fun z_2 ez_2 => ?_)
  exact W.iret (v := z_2) hx hb hr (fun t ht hW => ⟨z_2, rfl, (by rw [ez_2, ez_1]), ht⟩) (fun q hq => by cases hq) dX8_rowOf_6
theorem dX8_at_0 : decode cX8_at 0 = .ok (.iload_n 1, 1) := by decide +kernel
theorem dX8_at_1 : decode cX8_at 1 = .ok (.ifCond .lt 15, 3) := by decide +kernel
theorem dX8_at_4 : decode cX8_at 4 = .ok (.iload_n 1, 1) := by decide +kernel
theorem dX8_at_5 : decode cX8_at 5 = .ok (.aload_n 0, 1) := by decide +kernel
theorem dX8_at_6 : decode cX8_at 6 = .ok (.arraylength, 1) := by decide +kernel
theorem dX8_at_7 : decode cX8_at 7 = .ok (.if_icmp .ge 9, 3) := by decide +kernel
theorem dX8_at_10 : decode cX8_at 10 = .ok (.aload_n 0, 1) := by decide +kernel
theorem dX8_at_11 : decode cX8_at 11 = .ok (.iload_n 1, 1) := by decide +kernel
theorem dX8_at_12 : decode cX8_at 12 = .ok (.iaload, 1) := by decide +kernel
theorem dX8_at_13 : decode cX8_at 13 = .ok (.goto 4, 3) := by decide +kernel
theorem dX8_at_16 : decode cX8_at 16 = .ok (.iconst 0, 1) := by decide +kernel
theorem dX8_at_17 : decode cX8_at 17 = .ok (.ireturn, 1) := by decide +kernel
set_option maxHeartbeats 4000000 in
set_option maxRecDepth 100000 in
theorem g_X8_at (l : Launch) (G : xG) (S : yS) (d : yD) (a0 : Nat) (c0 : Nat) (p0 : Int32) (hm_a0 : a0 ∈ S.1) (hk_a0 : S.2.1 a0 = c0) (hc_c0 : ¬ c0 < 10) (h0_c0 : ykd c0 = 0) (ht_c0 : yti c0 = 0) (hn_c0 : yln c0 < 2 ^ 31) : xRi l G yX8_at cX8_at 2 (some .int) 0 0 [.ref a0, .int p0] (yW G S d) (fun r => r = xat (yln c0) (d.2.2.2.1 a0) p0) := by
  intro sz
  refine xstart (by decide) (Nat.le_of_ble_eq_true rfl) (fun p e s m args below meth c ls C0 hr hlocks hin hsz hP hK hD hN hl => ?_)
  obtain ⟨hx, hb, hml, hown, htl⟩ := id C0
  have hl : lv_has ls 2 [(0, .ref a0), (1, .int p0)] := hl
  refine lv_iload_n hx hb dX8_at_0 rfl (lv_at hl 1 rfl) ?_
  refine lv_if_lt (tgt := 16) hx hb dX8_at_1 (by decide) (fun c_1 => ?_) (fun c_1 => ?_)
  · refine lv_iconst (v := 0) hx hb dX8_at_16 (by decide) ?_
    exact W.iret (v := 0) hx hb hr (fun t ht hW => ⟨0, rfl, (if_pos c_1).symm, ht⟩) (fun q hq => by cases hq) dX8_at_17
  · refine lv_iload_n hx hb dX8_at_4 rfl (lv_at hl 1 rfl) ?_
    refine lv_aload_n hx hb dX8_at_5 rfl (lv_at hl 0 rfl) ?_
    refine ylen (v := nI (yln c0)) (ty := .int) C0 hK hP hm_a0 hk_a0 hc_c0 0 (by show some _ = some _; rw [ht_c0]) rfl dX8_at_6 ?_
    refine lv_icmp_ge (tgt := 16) hx hb dX8_at_7 (by decide) (fun c_2 => ?_) (fun c_2 => ?_)
    · refine lv_iconst (v := 0) hx hb dX8_at_16 (by decide) ?_
      exact W.iret (v := 0) hx hb hr (fun t ht hW => ⟨0, rfl, ((if_neg c_1).trans (if_pos c_2)).symm, ht⟩) (fun q hq => by cases hq) dX8_at_17
    · refine lv_aload_n hx hb dX8_at_10 rfl (lv_at hl 0 rfl) ?_
      refine lv_iload_n hx hb dX8_at_11 rfl (lv_at hl 1 rfl) ?_
      refine yald C0 hK hP hm_a0 hk_a0 hc_c0 h0_c0 0 (by show some _ = some _; rw [ht_c0]) (xin c_1 c_2 hn_c0) dX8_at_12 ?_
      refine lv_topi (fun z_3 ez_3 => ?_)
      refine lv_goto (tgt := 17) hx hb dX8_at_13 (by decide) ?_
      exact W.iret (v := z_3) hx hb hr (fun t ht hW => ⟨z_3, rfl, (by rw [ez_3]; exact ((if_neg c_1).trans (if_neg c_2)).symm), ht⟩) (fun q hq => by cases hq) dX8_at_17
theorem dX8_put_0 : decode cX8_put 0 = .ok (.iload_n 1, 1) := by decide +kernel
theorem dX8_put_1 : decode cX8_put 1 = .ok (.ifCond .lt 13, 3) := by decide +kernel
theorem dX8_put_4 : decode cX8_put 4 = .ok (.iload_n 1, 1) := by decide +kernel
theorem dX8_put_5 : decode cX8_put 5 = .ok (.aload_n 0, 1) := by decide +kernel
theorem dX8_put_6 : decode cX8_put 6 = .ok (.arraylength, 1) := by decide +kernel
theorem dX8_put_7 : decode cX8_put 7 = .ok (.if_icmp .ge 7, 3) := by decide +kernel
theorem dX8_put_10 : decode cX8_put 10 = .ok (.aload_n 0, 1) := by decide +kernel
theorem dX8_put_11 : decode cX8_put 11 = .ok (.iload_n 1, 1) := by decide +kernel
theorem dX8_put_12 : decode cX8_put 12 = .ok (.iload_n 2, 1) := by decide +kernel
theorem dX8_put_13 : decode cX8_put 13 = .ok (.iastore, 1) := by decide +kernel
theorem dX8_put_14 : decode cX8_put 14 = .ok (.return_, 1) := by decide +kernel
set_option maxHeartbeats 4000000 in
set_option maxRecDepth 100000 in
theorem g_X8_put (l : Launch) (G : xG) (S : yS) (d : yD) (a0 : Nat) (c0 : Nat) (p0 : Int32) (p1 : Int32) (hPo : yPo S d) (hm_a0 : a0 ∈ S.1) (hk_a0 : S.2.1 a0 = c0) (hc_c0 : ¬ c0 < 10) (h0_c0 : ykd c0 = 0) (ht_c0 : yti c0 = 0) (hn_c0 : yln c0 < 2 ^ 31) : xWv l G yX8_put cX8_put 3 none 0 0 0 0 [.ref a0, .int p0, .int p1] (yW G S d) (fun u : yD => yAg S [c0] d u ∧ (yPo S d → yPo S u) ∧ (u = ycs d a0 (xput (yln c0) (d.2.2.2.1 a0) p0 p1))) (fun u => yW G S u) := by
  intro sz
  refine xstart (by decide) (Nat.le_of_ble_eq_true rfl) (fun p e s m args below meth c ls C0 hr hlocks hin hsz hP hK hD hN hl => ?_)
  obtain ⟨hx, hb, hml, hown, htl⟩ := id C0
  subst hsz
  have hD := hD.self (sz := s.heap.size)
  generalize hAe : va_A (yW G S d) s.heap.size = A at hD ⊢
  have hA : ∀ q : Nat, s.heap.size ≤ q → A q := fun q h => by rw [← hAe]; exact Or.inr h
  have hS : va_S A s.heap s.heap [] := va_S.rf
  have hg0 : yAg S [c0] d d := yAg.rf
  have hl : lv_has ls 3 [(0, .ref a0), (1, .int p0), (2, .int p1)] := hl
  refine lv_iload_n hx hb dX8_put_0 rfl (lv_at hl 1 rfl) ?_
  refine lv_if_lt (tgt := 14) hx hb dX8_put_1 (by decide) (fun c_1 => ?_) (fun c_1 => ?_)
  · exact W.vret hx hb hr (fun t ht hW => ⟨⟨d, rfl, ⟨hg0, (fun _ => hPo), (by unfold xput; rw [if_pos c_1, ycs_self])⟩, by rw [ht]; exact hP, hD⟩, hS.F ht⟩) hS.2.2 dX8_put_14
  · refine lv_iload_n hx hb dX8_put_4 rfl (lv_at hl 1 rfl) ?_
    refine lv_aload_n hx hb dX8_put_5 rfl (lv_at hl 0 rfl) ?_
    refine ylen (v := nI (yln c0)) (ty := .int) C0 hK hP hm_a0 hk_a0 hc_c0 0 (by show some _ = some _; rw [ht_c0]) rfl dX8_put_6 ?_
    refine lv_icmp_ge (tgt := 14) hx hb dX8_put_7 (by decide) (fun c_2 => ?_) (fun c_2 => ?_)
    · exact W.vret hx hb hr (fun t ht hW => ⟨⟨d, rfl, ⟨hg0, (fun _ => hPo), (by unfold xput; rw [if_neg c_1, if_pos c_2, ycs_self])⟩, by rw [ht]; exact hP, hD⟩, hS.F ht⟩) hS.2.2 dX8_put_14
    · refine lv_aload_n hx hb dX8_put_10 rfl (lv_at hl 0 rfl) ?_
      refine lv_iload_n hx hb dX8_put_11 rfl (lv_at hl 1 rfl) ?_
      refine lv_iload_n hx hb dX8_put_12 rfl (lv_at hl 2 rfl) ?_
      refine yast C0 hK hP hD hS hm_a0 hk_a0 hc_c0 h0_c0 0 (by show some _ = some _; rw [ht_c0]) (xin c_1 c_2 hn_c0) dX8_put_13 (fun H locs hP hD hS => ?_)
      obtain ⟨d_3, ed_3⟩ : ∃ z : yD, z = ycs d a0 (upd (d.2.2.2.1 a0) (p0 : Int32).toNatClampNeg p1) := ⟨_, rfl⟩
      rw [← ed_3] at hP hD
      have hgd_3 : yAg S [c0] d d_3 := by rw [ed_3]; exact yAg.cs hg0 (by rw [hk_a0]; simp)
      have hPod_3 : yPo S d_3 := by rw [ed_3]; exact hPo
      exact W.vret hx hb hr (fun t ht hW => ⟨⟨d_3, rfl, ⟨hgd_3, (fun _ => hPod_3), (by unfold xput; rw [if_neg c_1, if_neg c_2]; exact ed_3)⟩, by rw [ht]; exact hP, hD⟩, hS.F ht⟩) hS.2.2 dX8_put_14
