theorem dX8_within_0 : decode cX8_within 0 = .ok (.iload_n 0, 1) := by decide +kernel
theorem dX8_within_1 : decode cX8_within 1 = .ok (.iload_n 1, 1) := by decide +kernel
theorem dX8_within_2 : decode cX8_within 2 = .ok (.if_icmp .lt 12, 3) := by decide +kernel
theorem dX8_within_5 : decode cX8_within 5 = .ok (.iload_n 0, 1) := by decide +kernel
theorem dX8_within_6 : decode cX8_within 6 = .ok (.iload_n 2, 1) := by decide +kernel
theorem dX8_within_7 : decode cX8_within 7 = .ok (.if_icmp .gt 7, 3) := by decide +kernel
theorem dX8_within_10 : decode cX8_within 10 = .ok (.iconst 1, 1) := by decide +kernel
theorem dX8_within_11 : decode cX8_within 11 = .ok (.goto 4, 3) := by decide +kernel
theorem dX8_within_14 : decode cX8_within 14 = .ok (.iconst 0, 1) := by decide +kernel
theorem dX8_within_15 : decode cX8_within 15 = .ok (.ireturn, 1) := by decide +kernel
set_option maxHeartbeats 4000000 in
set_option maxRecDepth 100000 in
/-- within(v, least, most) -/
theorem c_X8_within (l : Launch) (G : xG) (p0 : Int32) (p1 : Int32) (p2 : Int32)  : xRi l G yX8_within cX8_within 3 (some .boolean) 0 0 [.int p0, .int p1, .int p2] [] (fun r => (r = 1 ∧ ¬ p0 < p1 ∧ ¬ p2 < p0) ∨ (r = 0 ∧ (p0 < p1 ∨ p2 < p0))) := by
  intro sz
  refine xstart (by decide) (Nat.le_of_ble_eq_true rfl) (fun p e s m args below meth c ls C0 hr hlocks hin hsz hP hK hD hN hl => ?_)
  obtain ⟨hx, hb, hml, hown, htl⟩ := id C0
  have hl : lv_has ls 3 [(0, .int p0), (1, .int p1), (2, .int p2)] := hl
  refine lv_iload_n hx hb dX8_within_0 rfl (lv_at hl 0 rfl) ?_
  refine lv_iload_n hx hb dX8_within_1 rfl (lv_at hl 1 rfl) ?_
  refine lv_icmp_lt (tgt := 14) hx hb dX8_within_2 (by decide) (fun c_1 => ?_) (fun c_1 => ?_)
  · refine lv_iconst (v := 0) hx hb dX8_within_14 (by decide) ?_
    exact W.zret (v := 0) (ty := .boolean) hx hb hr rfl (fun t ht hW => ⟨0, rfl, Or.inr ⟨rfl, Or.inl c_1⟩, ht⟩) (fun q hq => by cases hq) dX8_within_15
  · refine lv_iload_n hx hb dX8_within_5 rfl (lv_at hl 0 rfl) ?_
    refine lv_iload_n hx hb dX8_within_6 rfl (lv_at hl 2 rfl) ?_
    refine lv_icmp_gt (tgt := 14) hx hb dX8_within_7 (by decide) (fun c_2 => ?_) (fun c_2 => ?_)
    · refine lv_iconst (v := 0) hx hb dX8_within_14 (by decide) ?_
      exact W.zret (v := 0) (ty := .boolean) hx hb hr rfl (fun t ht hW => ⟨0, rfl, Or.inr ⟨rfl, Or.inr c_2⟩, ht⟩) (fun q hq => by cases hq) dX8_within_15
    · refine lv_iconst (v := 1) hx hb dX8_within_10 (by decide) ?_
      refine lv_goto (tgt := 15) hx hb dX8_within_11 (by decide) ?_
      exact W.zret (v := 1) (ty := .boolean) hx hb hr rfl (fun t ht hW => ⟨1, rfl, Or.inl ⟨rfl, c_1, c_2⟩, ht⟩) (fun q hq => by cases hq) dX8_within_15
theorem dX8_least_0 : decode cX8_least 0 = .ok (.iload_n 0, 1) := by decide +kernel
theorem dX8_least_1 : decode cX8_least 1 = .ok (.ifCond .eq 7, 3) := by decide +kernel
theorem dX8_least_4 : decode cX8_least 4 = .ok (.iload_n 1, 1) := by decide +kernel
theorem dX8_least_5 : decode cX8_least 5 = .ok (.ifCond .ne 7, 3) := by decide +kernel
theorem dX8_least_8 : decode cX8_least 8 = .ok (.iload_n 0, 1) := by decide +kernel
theorem dX8_least_9 : decode cX8_least 9 = .ok (.iload_n 1, 1) := by decide +kernel
theorem dX8_least_10 : decode cX8_least 10 = .ok (.iadd, 1) := by decide +kernel
theorem dX8_least_11 : decode cX8_least 11 = .ok (.ireturn, 1) := by decide +kernel
theorem dX8_least_12 : decode cX8_least 12 = .ok (.iload_n 0, 1) := by decide +kernel
theorem dX8_least_13 : decode cX8_least 13 = .ok (.iload_n 1, 1) := by decide +kernel
theorem dX8_least_14 : decode cX8_least 14 = .ok (.invokestatic 162, 3) := by decide +kernel
theorem dX8_least_17 : decode cX8_least 17 = .ok (.ireturn, 1) := by decide +kernel
set_option maxHeartbeats 4000000 in
set_option maxRecDepth 100000 in
/-- least(why, other) -/
theorem c_X8_least (l : Launch) (G : xG) (p0 : Int32) (p1 : Int32)  : xRi l G yX8_least cX8_least 2 (some .int) 1 13 [.int p0, .int p1] [] (fun r => r = xleast p0 p1) := by
  intro sz
  refine xstart (by decide) (Nat.le_of_ble_eq_true rfl) (fun p e s m args below meth c ls C0 hr hlocks hin hsz hP hK hD hN hl => ?_)
  obtain ⟨hx, hb, hml, hown, htl⟩ := id C0
  have hl : lv_has ls 2 [(0, .int p0), (1, .int p1)] := hl
  refine lv_iload_n hx hb dX8_least_0 rfl (lv_at hl 0 rfl) ?_
  refine lv_if_eq (tgt := 8) hx hb dX8_least_1 (by decide) (fun c_1 => ?_) (fun c_1 => ?_)
  · refine lv_iload_n hx hb dX8_least_8 rfl (lv_at hl 0 rfl) ?_
    refine lv_iload_n hx hb dX8_least_9 rfl (lv_at hl 1 rfl) ?_
    refine lv_iadd hx hb dX8_least_10 ?_
    refine lv_topi (fun z_2 ez_2 => ?_)
    exact W.iret (v := z_2) hx hb hr (fun t ht hW => ⟨z_2, rfl, (by rw [ez_2]; exact (if_pos (Or.inl c_1)).symm), ht⟩) (fun q hq => by cases hq) dX8_least_11
  · refine lv_iload_n hx hb dX8_least_4 rfl (lv_at hl 1 rfl) ?_
    refine lv_if_ne (tgt := 12) hx hb dX8_least_5 (by decide) (fun c_3 => ?_) (fun c_3 => ?_)
    · refine lv_iload_n hx hb dX8_least_12 rfl (lv_at hl 0 rfl) ?_
      refine lv_iload_n hx hb dX8_least_13 rfl (lv_at hl 1 rfl) ?_
      refine va_mmin hx hb (by rw [hml]; exact hl.1.symm) hown (htl (.methodLink RX8 162 Lib.Math.min.name) mW202) (htl (.static Lib.Math.min.name) mW203) (htl (.initialized "java/lang/Math") mW204) (htl (.code Lib.Math.min.name Lib.Math.min.code 2 (some .int)) mW205) (Nat.le_of_ble_eq_true rfl) (Nat.le_of_ble_eq_true rfl) (Nat.le_of_ble_eq_true rfl) (Nat.le_of_ble_eq_true rfl) dX8_least_14 ?_
      refine lv_topi (fun z_4 ez_4 => ?_)
      exact W.iret (v := z_4) hx hb hr (fun t ht hW => ⟨z_4, rfl, (by rw [ez_4]; exact (if_neg (fun h => h.elim c_1 c_3)).symm), ht⟩) (fun q hq => by cases hq) dX8_least_17
    · refine lv_iload_n hx hb dX8_least_8 rfl (lv_at hl 0 rfl) ?_
      refine lv_iload_n hx hb dX8_least_9 rfl (lv_at hl 1 rfl) ?_
      refine lv_iadd hx hb dX8_least_10 ?_
      refine lv_topi (fun z_5 ez_5 => ?_)
      exact W.iret (v := z_5) hx hb hr (fun t ht hW => ⟨z_5, rfl, (by rw [ez_5]; exact (if_pos (Or.inr c_3)).symm), ht⟩) (fun q hq => by cases hq) dX8_least_11
theorem dX8_number_0 : decode cX8_number 0 = .ok (.iload_n 0, 1) := by decide +kernel
theorem dX8_number_1 : decode cX8_number 1 = .ok (.ifCond .eq 7, 3) := by decide +kernel
theorem dX8_number_4 : decode cX8_number 4 = .ok (.iconst 0, 1) := by decide +kernel
theorem dX8_number_5 : decode cX8_number 5 = .ok (.goto 4, 3) := by decide +kernel
theorem dX8_number_8 : decode cX8_number 8 = .ok (.iconst 1, 1) := by decide +kernel
theorem dX8_number_9 : decode cX8_number 9 = .ok (.ireturn, 1) := by decide +kernel
set_option maxHeartbeats 4000000 in
set_option maxRecDepth 100000 in
/-- number(good) -/
theorem c_X8_number (l : Launch) (G : xG) (p0 : Int32)  : xRi l G yX8_number cX8_number 1 (some .int) 0 0 [.int p0] [] (fun r => r = xnum p0) := by
  intro sz
  refine xstart (by decide) (Nat.le_of_ble_eq_true rfl) (fun p e s m args below meth c ls C0 hr hlocks hin hsz hP hK hD hN hl => ?_)
  obtain ⟨hx, hb, hml, hown, htl⟩ := id C0
  have hl : lv_has ls 1 [(0, .int p0)] := hl
  refine lv_iload_n hx hb dX8_number_0 rfl (lv_at hl 0 rfl) ?_
  refine lv_if_eq (tgt := 8) hx hb dX8_number_1 (by decide) (fun c_1 => ?_) (fun c_1 => ?_)
  · refine lv_iconst (v := 1) hx hb dX8_number_8 (by decide) ?_
    exact W.iret (v := 1) hx hb hr (fun t ht hW => ⟨1, rfl, (if_pos c_1).symm, ht⟩) (fun q hq => by cases hq) dX8_number_9
  · refine lv_iconst (v := 0) hx hb dX8_number_4 (by decide) ?_
    refine lv_goto (tgt := 9) hx hb dX8_number_5 (by decide) ?_
    exact W.iret (v := 0) hx hb hr (fun t ht hW => ⟨0, rfl, (if_neg c_1).symm, ht⟩) (fun q hq => by cases hq) dX8_number_9
theorem dX8_isTerm_0 : decode cX8_isTerm 0 = .ok (.iload_n 0, 1) := by decide +kernel
theorem dX8_isTerm_1 : decode cX8_isTerm 1 = .ok (.iconst 0, 1) := by decide +kernel
theorem dX8_isTerm_2 : decode cX8_isTerm 2 = .ok (.iconst 4, 1) := by decide +kernel
theorem dX8_isTerm_3 : decode cX8_isTerm 3 = .ok (.invokestatic 71, 3) := by decide +kernel
theorem dX8_isTerm_6 : decode cX8_isTerm 6 = .ok (.ifCond .ne 5, 3) := by decide +kernel
theorem dX8_isTerm_9 : decode cX8_isTerm 9 = .ok (.iconst 0, 1) := by decide +kernel
theorem dX8_isTerm_10 : decode cX8_isTerm 10 = .ok (.ireturn, 1) := by decide +kernel
theorem dX8_isTerm_11 : decode cX8_isTerm 11 = .ok (.iload_n 1, 1) := by decide +kernel
theorem dX8_isTerm_12 : decode cX8_isTerm 12 = .ok (.tableswitch 101 0 4 #[36, 38, 66, 68, 75], 36) := by decide +kernel
theorem dX8_isTerm_48 : decode cX8_isTerm 48 = .ok (.iconst 1, 1) := by decide +kernel
theorem dX8_isTerm_49 : decode cX8_isTerm 49 = .ok (.ireturn, 1) := by decide +kernel
theorem dX8_isTerm_50 : decode cX8_isTerm 50 = .ok (.iload_n 2, 1) := by decide +kernel
theorem dX8_isTerm_51 : decode cX8_isTerm 51 = .ok (.iconst 0, 1) := by decide +kernel
theorem dX8_isTerm_52 : decode cX8_isTerm 52 = .ok (.sipush 1440, 3) := by decide +kernel
theorem dX8_isTerm_55 : decode cX8_isTerm 55 = .ok (.invokestatic 71, 3) := by decide +kernel
theorem dX8_isTerm_58 : decode cX8_isTerm 58 = .ok (.ifCond .eq 18, 3) := by decide +kernel
theorem dX8_isTerm_61 : decode cX8_isTerm 61 = .ok (.iload_n 3, 1) := by decide +kernel
theorem dX8_isTerm_62 : decode cX8_isTerm 62 = .ok (.iconst 0, 1) := by decide +kernel
theorem dX8_isTerm_63 : decode cX8_isTerm 63 = .ok (.sipush 1440, 3) := by decide +kernel
theorem dX8_isTerm_66 : decode cX8_isTerm 66 = .ok (.invokestatic 71, 3) := by decide +kernel
theorem dX8_isTerm_69 : decode cX8_isTerm 69 = .ok (.ifCond .eq 7, 3) := by decide +kernel
theorem dX8_isTerm_72 : decode cX8_isTerm 72 = .ok (.iconst 1, 1) := by decide +kernel
theorem dX8_isTerm_73 : decode cX8_isTerm 73 = .ok (.goto 4, 3) := by decide +kernel
theorem dX8_isTerm_76 : decode cX8_isTerm 76 = .ok (.iconst 0, 1) := by decide +kernel
theorem dX8_isTerm_77 : decode cX8_isTerm 77 = .ok (.ireturn, 1) := by decide +kernel
theorem dX8_isTerm_78 : decode cX8_isTerm 78 = .ok (.iconst 1, 1) := by decide +kernel
theorem dX8_isTerm_79 : decode cX8_isTerm 79 = .ok (.ireturn, 1) := by decide +kernel
theorem dX8_isTerm_80 : decode cX8_isTerm 80 = .ok (.iload_n 2, 1) := by decide +kernel
theorem dX8_isTerm_81 : decode cX8_isTerm 81 = .ok (.iconst 0, 1) := by decide +kernel
theorem dX8_isTerm_82 : decode cX8_isTerm 82 = .ok (.iconst 4, 1) := by decide +kernel
theorem dX8_isTerm_83 : decode cX8_isTerm 83 = .ok (.invokestatic 71, 3) := by decide +kernel
theorem dX8_isTerm_86 : decode cX8_isTerm 86 = .ok (.ireturn, 1) := by decide +kernel
theorem dX8_isTerm_87 : decode cX8_isTerm 87 = .ok (.iload_n 2, 1) := by decide +kernel
theorem dX8_isTerm_88 : decode cX8_isTerm 88 = .ok (.iconst 0, 1) := by decide +kernel
theorem dX8_isTerm_89 : decode cX8_isTerm 89 = .ok (.ldc 240, 2) := by decide +kernel
theorem dX8_isTerm_91 : decode cX8_isTerm 91 = .ok (.invokestatic 71, 3) := by decide +kernel
theorem dX8_isTerm_94 : decode cX8_isTerm 94 = .ok (.ifCond .eq 17, 3) := by decide +kernel
theorem dX8_isTerm_97 : decode cX8_isTerm 97 = .ok (.iload_n 3, 1) := by decide +kernel
theorem dX8_isTerm_98 : decode cX8_isTerm 98 = .ok (.iconst 0, 1) := by decide +kernel
theorem dX8_isTerm_99 : decode cX8_isTerm 99 = .ok (.ldc 240, 2) := by decide +kernel
theorem dX8_isTerm_101 : decode cX8_isTerm 101 = .ok (.invokestatic 71, 3) := by decide +kernel
theorem dX8_isTerm_104 : decode cX8_isTerm 104 = .ok (.ifCond .eq 7, 3) := by decide +kernel
theorem dX8_isTerm_107 : decode cX8_isTerm 107 = .ok (.iconst 1, 1) := by decide +kernel
theorem dX8_isTerm_108 : decode cX8_isTerm 108 = .ok (.goto 4, 3) := by decide +kernel
theorem dX8_isTerm_111 : decode cX8_isTerm 111 = .ok (.iconst 0, 1) := by decide +kernel
theorem dX8_isTerm_112 : decode cX8_isTerm 112 = .ok (.ireturn, 1) := by decide +kernel
theorem dX8_isTerm_113 : decode cX8_isTerm 113 = .ok (.iconst 0, 1) := by decide +kernel
theorem dX8_isTerm_114 : decode cX8_isTerm 114 = .ok (.ireturn, 1) := by decide +kernel
set_option maxHeartbeats 4000000 in
set_option maxRecDepth 100000 in
/-- isTerm(kind, sort, a, b): a yes or a no -/
theorem c_X8_isTerm (l : Launch) (G : xG) (p0 : Int32) (p1 : Int32) (p2 : Int32) (p3 : Int32)  : xRi l G yX8_isTerm cX8_isTerm 4 (some .boolean) 1 22 [.int p0, .int p1, .int p2, .int p3] [] (fun r => r = 0 ∨ r = 1) := by
  intro sz
  refine xstart (by decide) (Nat.le_of_ble_eq_true rfl) (fun p e s m args below meth c ls C0 hr hlocks hin hsz hP hK hD hN hl => ?_)
  obtain ⟨hx, hb, hml, hown, htl⟩ := id C0
  have hl : lv_has ls 4 [(0, .int p0), (1, .int p1), (2, .int p2), (3, .int p3)] := hl
  refine lv_iload_n hx hb dX8_isTerm_0 rfl (lv_at hl 0 rfl) ?_
  refine lv_iconst (v := 0) hx hb dX8_isTerm_1 (by decide) ?_
  refine lv_iconst (v := 4) hx hb dX8_isTerm_2 (by decide) ?_
  refine xSri (wc := []) (As := [.int p0, .int 0, .int 4]) (rest := []) C0 (c_X8_within l G p0 0 4) ok_X8_within (mW193 : Cond.methodLink RX8 71 yX8_within ∈ wsT) ⟨Nat.le_of_ble_eq_true rfl, Nat.le_of_ble_eq_true rfl⟩ hP hD hK hN [] rfl (by decide) rfl hl.1 rfl (Nat.le_of_ble_eq_true rfl) ⟨Nat.le_of_ble_eq_true rfl, Nat.le_of_ble_eq_true rfl⟩ dX8_isTerm_3 (fun r_1 hr_1 => ?_)
  refine lv_if_ne (tgt := 11) hx hb dX8_isTerm_6 (by decide) (fun c_2 => ?_) (fun c_2 => ?_)
  · refine lv_iload_n hx hb dX8_isTerm_11 rfl (lv_at hl 1 rfl) ?_
    rcases xtab p1 5 (by decide) with hsw_3 | ⟨k_4, hk_4, hsw_3⟩
    · refine lv_tableOut (tgt := 113) hx hb dX8_isTerm_12 (by omega) (by decide) ?_
      refine lv_iconst (v := 0) hx hb dX8_isTerm_113 (by decide) ?_
      exact W.zret (v := 0) (ty := .boolean) hx hb hr rfl (fun t ht hW => ⟨0, rfl, Or.inl rfl, ht⟩) (fun q hq => by cases hq) dX8_isTerm_114
    · obtain rfl | rfl | rfl | rfl | rfl : k_4 = 0 ∨ k_4 = 1 ∨ k_4 = 2 ∨ k_4 = 3 ∨ k_4 = 4 := by omega
      · subst hsw_3
        refine lv_tableIn (tgt := 48) (off := 36) hx hb dX8_isTerm_12 (by decide +kernel) (by decide +kernel) (by decide +kernel) (by decide) ?_
        refine lv_iconst (v := 1) hx hb dX8_isTerm_48 (by decide) ?_
        exact W.zret (v := 1) (ty := .boolean) hx hb hr rfl (fun t ht hW => ⟨1, rfl, Or.inr rfl, ht⟩) (fun q hq => by cases hq) dX8_isTerm_49
      · subst hsw_3
        refine lv_tableIn (tgt := 50) (off := 38) hx hb dX8_isTerm_12 (by decide +kernel) (by decide +kernel) (by decide +kernel) (by decide) ?_
        refine lv_iload_n hx hb dX8_isTerm_50 rfl (lv_at hl 2 rfl) ?_
        refine lv_iconst (v := 0) hx hb dX8_isTerm_51 (by decide) ?_
        refine lv_sipush (v := 1440) hx hb dX8_isTerm_52 (by decide) ?_
        refine xSri (wc := []) (As := [.int p2, .int 0, .int 1440]) (rest := []) C0 (c_X8_within l G p2 0 1440) ok_X8_within (mW193 : Cond.methodLink RX8 71 yX8_within ∈ wsT) ⟨Nat.le_of_ble_eq_true rfl, Nat.le_of_ble_eq_true rfl⟩ hP hD hK hN [] rfl (by decide) rfl hl.1 rfl (Nat.le_of_ble_eq_true rfl) ⟨Nat.le_of_ble_eq_true rfl, Nat.le_of_ble_eq_true rfl⟩ dX8_isTerm_55 (fun r_5 hr_5 => ?_)
        refine lv_if_eq (tgt := 76) hx hb dX8_isTerm_58 (by decide) (fun c_6 => ?_) (fun c_6 => ?_)
        · refine lv_iconst (v := 0) hx hb dX8_isTerm_76 (by decide) ?_
          exact W.zret (v := 0) (ty := .boolean) hx hb hr rfl (fun t ht hW => ⟨0, rfl, Or.inl rfl, ht⟩) (fun q hq => by cases hq) dX8_isTerm_77
        · refine lv_iload_n hx hb dX8_isTerm_61 rfl (lv_at hl 3 rfl) ?_
          refine lv_iconst (v := 0) hx hb dX8_isTerm_62 (by decide) ?_
          refine lv_sipush (v := 1440) hx hb dX8_isTerm_63 (by decide) ?_
          refine xSri (wc := []) (As := [.int p3, .int 0, .int 1440]) (rest := []) C0 (c_X8_within l G p3 0 1440) ok_X8_within (mW193 : Cond.methodLink RX8 71 yX8_within ∈ wsT) ⟨Nat.le_of_ble_eq_true rfl, Nat.le_of_ble_eq_true rfl⟩ hP hD hK hN [] rfl (by decide) rfl hl.1 rfl (Nat.le_of_ble_eq_true rfl) ⟨Nat.le_of_ble_eq_true rfl, Nat.le_of_ble_eq_true rfl⟩ dX8_isTerm_66 (fun r_7 hr_7 => ?_)
          refine lv_if_eq (tgt := 76) hx hb dX8_isTerm_69 (by decide) (fun c_8 => ?_) (fun c_8 => ?_)
          · refine lv_iconst (v := 0) hx hb dX8_isTerm_76 (by decide) ?_
            exact W.zret (v := 0) (ty := .boolean) hx hb hr rfl (fun t ht hW => ⟨0, rfl, Or.inl rfl, ht⟩) (fun q hq => by cases hq) dX8_isTerm_77
          · refine lv_iconst (v := 1) hx hb dX8_isTerm_72 (by decide) ?_
            refine lv_goto (tgt := 77) hx hb dX8_isTerm_73 (by decide) ?_
            exact W.zret (v := 1) (ty := .boolean) hx hb hr rfl (fun t ht hW => ⟨1, rfl, Or.inr rfl, ht⟩) (fun q hq => by cases hq) dX8_isTerm_77
      · subst hsw_3
        refine lv_tableIn (tgt := 78) (off := 66) hx hb dX8_isTerm_12 (by decide +kernel) (by decide +kernel) (by decide +kernel) (by decide) ?_
        refine lv_iconst (v := 1) hx hb dX8_isTerm_78 (by decide) ?_
        exact W.zret (v := 1) (ty := .boolean) hx hb hr rfl (fun t ht hW => ⟨1, rfl, Or.inr rfl, ht⟩) (fun q hq => by cases hq) dX8_isTerm_79
      · subst hsw_3
        refine lv_tableIn (tgt := 80) (off := 68) hx hb dX8_isTerm_12 (by decide +kernel) (by decide +kernel) (by decide +kernel) (by decide) ?_
        refine lv_iload_n hx hb dX8_isTerm_80 rfl (lv_at hl 2 rfl) ?_
        refine lv_iconst (v := 0) hx hb dX8_isTerm_81 (by decide) ?_
        refine lv_iconst (v := 4) hx hb dX8_isTerm_82 (by decide) ?_
        refine xSri (wc := []) (As := [.int p2, .int 0, .int 4]) (rest := []) C0 (c_X8_within l G p2 0 4) ok_X8_within (mW193 : Cond.methodLink RX8 71 yX8_within ∈ wsT) ⟨Nat.le_of_ble_eq_true rfl, Nat.le_of_ble_eq_true rfl⟩ hP hD hK hN [] rfl (by decide) rfl hl.1 rfl (Nat.le_of_ble_eq_true rfl) ⟨Nat.le_of_ble_eq_true rfl, Nat.le_of_ble_eq_true rfl⟩ dX8_isTerm_83 (fun r_9 hr_9 => ?_)
        exact W.zret (v := r_9) (ty := .boolean) hx hb hr (by rcases hr_9 with ⟨h, _⟩ | ⟨h, _⟩ <;> rw [h] <;> rfl) (fun t ht hW => ⟨r_9, rfl, (by rcases hr_9 with ⟨h, _⟩ | ⟨h, _⟩; exact Or.inr h; exact Or.inl h), ht⟩) (fun q hq => by cases hq) dX8_isTerm_86
      · subst hsw_3
        refine lv_tableIn (tgt := 87) (off := 75) hx hb dX8_isTerm_12 (by decide +kernel) (by decide +kernel) (by decide +kernel) (by decide) ?_
        refine lv_iload_n hx hb dX8_isTerm_87 rfl (lv_at hl 2 rfl) ?_
        refine lv_iconst (v := 0) hx hb dX8_isTerm_88 (by decide) ?_
        refine lv_ldc (v := 129600) hx hb hown (htl (.constant RX8 240 (129600)) mW209) dX8_isTerm_89 ?_
        refine xSri (wc := []) (As := [.int p2, .int 0, .int 129600]) (rest := []) C0 (c_X8_within l G p2 0 129600) ok_X8_within (mW193 : Cond.methodLink RX8 71 yX8_within ∈ wsT) ⟨Nat.le_of_ble_eq_true rfl, Nat.le_of_ble_eq_true rfl⟩ hP hD hK hN [] rfl (by decide) rfl hl.1 rfl (Nat.le_of_ble_eq_true rfl) ⟨Nat.le_of_ble_eq_true rfl, Nat.le_of_ble_eq_true rfl⟩ dX8_isTerm_91 (fun r_10 hr_10 => ?_)
        refine lv_if_eq (tgt := 111) hx hb dX8_isTerm_94 (by decide) (fun c_11 => ?_) (fun c_11 => ?_)
        · refine lv_iconst (v := 0) hx hb dX8_isTerm_111 (by decide) ?_
          exact W.zret (v := 0) (ty := .boolean) hx hb hr rfl (fun t ht hW => ⟨0, rfl, Or.inl rfl, ht⟩) (fun q hq => by cases hq) dX8_isTerm_112
        · refine lv_iload_n hx hb dX8_isTerm_97 rfl (lv_at hl 3 rfl) ?_
          refine lv_iconst (v := 0) hx hb dX8_isTerm_98 (by decide) ?_
          refine lv_ldc (v := 129600) hx hb hown (htl (.constant RX8 240 (129600)) mW209) dX8_isTerm_99 ?_
          refine xSri (wc := []) (As := [.int p3, .int 0, .int 129600]) (rest := []) C0 (c_X8_within l G p3 0 129600) ok_X8_within (mW193 : Cond.methodLink RX8 71 yX8_within ∈ wsT) ⟨Nat.le_of_ble_eq_true rfl, Nat.le_of_ble_eq_true rfl⟩ hP hD hK hN [] rfl (by decide) rfl hl.1 rfl (Nat.le_of_ble_eq_true rfl) ⟨Nat.le_of_ble_eq_true rfl, Nat.le_of_ble_eq_true rfl⟩ dX8_isTerm_101 (fun r_12 hr_12 => ?_)
          refine lv_if_eq (tgt := 111) hx hb dX8_isTerm_104 (by decide) (fun c_13 => ?_) (fun c_13 => ?_)
          · refine lv_iconst (v := 0) hx hb dX8_isTerm_111 (by decide) ?_
            exact W.zret (v := 0) (ty := .boolean) hx hb hr rfl (fun t ht hW => ⟨0, rfl, Or.inl rfl, ht⟩) (fun q hq => by cases hq) dX8_isTerm_112
          · refine lv_iconst (v := 1) hx hb dX8_isTerm_107 (by decide) ?_
            refine lv_goto (tgt := 112) hx hb dX8_isTerm_108 (by decide) ?_
            exact W.zret (v := 1) (ty := .boolean) hx hb hr rfl (fun t ht hW => ⟨1, rfl, Or.inr rfl, ht⟩) (fun q hq => by cases hq) dX8_isTerm_112
  · refine lv_iconst (v := 0) hx hb dX8_isTerm_9 (by decide) ?_
    exact W.zret (v := 0) (ty := .boolean) hx hb hr rfl (fun t ht hW => ⟨0, rfl, Or.inl rfl, ht⟩) (fun q hq => by cases hq) dX8_isTerm_10
theorem dX8_isWhy_0 : decode cX8_isWhy 0 = .ok (.iload_n 0, 1) := by decide +kernel
theorem dX8_isWhy_1 : decode cX8_isWhy 1 = .ok (.bipush (-2), 2) := by decide +kernel
theorem dX8_isWhy_3 : decode cX8_isWhy 3 = .ok (.if_icmp .eq 19, 3) := by decide +kernel
theorem dX8_isWhy_6 : decode cX8_isWhy 6 = .ok (.iload_n 0, 1) := by decide +kernel
theorem dX8_isWhy_7 : decode cX8_isWhy 7 = .ok (.bipush (-3), 2) := by decide +kernel
theorem dX8_isWhy_9 : decode cX8_isWhy 9 = .ok (.if_icmp .eq 13, 3) := by decide +kernel
theorem dX8_isWhy_12 : decode cX8_isWhy 12 = .ok (.iload_n 0, 1) := by decide +kernel
theorem dX8_isWhy_13 : decode cX8_isWhy 13 = .ok (.iconst 0, 1) := by decide +kernel
theorem dX8_isWhy_14 : decode cX8_isWhy 14 = .ok (.bipush 59, 2) := by decide +kernel
theorem dX8_isWhy_16 : decode cX8_isWhy 16 = .ok (.invokestatic 71, 3) := by decide +kernel
theorem dX8_isWhy_19 : decode cX8_isWhy 19 = .ok (.ifCond .eq 7, 3) := by decide +kernel
theorem dX8_isWhy_22 : decode cX8_isWhy 22 = .ok (.iconst 1, 1) := by decide +kernel
theorem dX8_isWhy_23 : decode cX8_isWhy 23 = .ok (.goto 4, 3) := by decide +kernel
theorem dX8_isWhy_26 : decode cX8_isWhy 26 = .ok (.iconst 0, 1) := by decide +kernel
theorem dX8_isWhy_27 : decode cX8_isWhy 27 = .ok (.ireturn, 1) := by decide +kernel
set_option maxHeartbeats 4000000 in
set_option maxRecDepth 100000 in
/-- isWhy(why): a yes or a no -/
theorem c_X8_isWhy (l : Launch) (G : xG) (p0 : Int32)  : xRi l G yX8_isWhy cX8_isWhy 1 (some .boolean) 1 22 [.int p0] [] (fun r => r = 0 ∨ r = 1) := by
  intro sz
  refine xstart (by decide) (Nat.le_of_ble_eq_true rfl) (fun p e s m args below meth c ls C0 hr hlocks hin hsz hP hK hD hN hl => ?_)
  obtain ⟨hx, hb, hml, hown, htl⟩ := id C0
  have hl : lv_has ls 1 [(0, .int p0)] := hl
  refine lv_iload_n hx hb dX8_isWhy_0 rfl (lv_at hl 0 rfl) ?_
  refine lv_bipush (v := (-2)) hx hb dX8_isWhy_1 (by decide) ?_
  refine lv_icmp_eq (tgt := 22) hx hb dX8_isWhy_3 (by decide) (fun c_1 => ?_) (fun c_1 => ?_)
  · refine lv_iconst (v := 1) hx hb dX8_isWhy_22 (by decide) ?_
    refine lv_goto (tgt := 27) hx hb dX8_isWhy_23 (by decide) ?_
    exact W.zret (v := 1) (ty := .boolean) hx hb hr rfl (fun t ht hW => ⟨1, rfl, Or.inr rfl, ht⟩) (fun q hq => by cases hq) dX8_isWhy_27
  · refine lv_iload_n hx hb dX8_isWhy_6 rfl (lv_at hl 0 rfl) ?_
    refine lv_bipush (v := (-3)) hx hb dX8_isWhy_7 (by decide) ?_
    refine lv_icmp_eq (tgt := 22) hx hb dX8_isWhy_9 (by decide) (fun c_2 => ?_) (fun c_2 => ?_)
    · refine lv_iconst (v := 1) hx hb dX8_isWhy_22 (by decide) ?_
      refine lv_goto (tgt := 27) hx hb dX8_isWhy_23 (by decide) ?_
      exact W.zret (v := 1) (ty := .boolean) hx hb hr rfl (fun t ht hW => ⟨1, rfl, Or.inr rfl, ht⟩) (fun q hq => by cases hq) dX8_isWhy_27
    · refine lv_iload_n hx hb dX8_isWhy_12 rfl (lv_at hl 0 rfl) ?_
      refine lv_iconst (v := 0) hx hb dX8_isWhy_13 (by decide) ?_
      refine lv_bipush (v := 59) hx hb dX8_isWhy_14 (by decide) ?_
      refine xSri (wc := []) (As := [.int p0, .int 0, .int 59]) (rest := []) C0 (c_X8_within l G p0 0 59) ok_X8_within (mW193 : Cond.methodLink RX8 71 yX8_within ∈ wsT) ⟨Nat.le_of_ble_eq_true rfl, Nat.le_of_ble_eq_true rfl⟩ hP hD hK hN [] rfl (by decide) rfl hl.1 rfl (Nat.le_of_ble_eq_true rfl) ⟨Nat.le_of_ble_eq_true rfl, Nat.le_of_ble_eq_true rfl⟩ dX8_isWhy_16 (fun r_3 hr_3 => ?_)
      refine lv_if_eq (tgt := 26) hx hb dX8_isWhy_19 (by decide) (fun c_4 => ?_) (fun c_4 => ?_)
      · refine lv_iconst (v := 0) hx hb dX8_isWhy_26 (by decide) ?_
        exact W.zret (v := 0) (ty := .boolean) hx hb hr rfl (fun t ht hW => ⟨0, rfl, Or.inl rfl, ht⟩) (fun q hq => by cases hq) dX8_isWhy_27
      · refine lv_iconst (v := 1) hx hb dX8_isWhy_22 (by decide) ?_
        refine lv_goto (tgt := 27) hx hb dX8_isWhy_23 (by decide) ?_
        exact W.zret (v := 1) (ty := .boolean) hx hb hr rfl (fun t ht hW => ⟨1, rfl, Or.inr rfl, ht⟩) (fun q hq => by cases hq) dX8_isWhy_27
theorem dX8_at_0 : decode cX8_at 0 = .ok (.iload_n 1, 1) := by decide +kernel
theorem dX8_at_1 : decode cX8_at 1 = .ok (.ifCond .lt 15, 3) := by decide +kernel
theorem dX8_at_4 : decode cX8_at 4 = .ok (.iload_n 1, 1) := by decide +kernel
theorem dX8_at_5 : decode cX8_at 5 = .ok (.aload_n 0, 1) := by decide +kernel
theorem dX8_at_6 : decode cX8_at 6 = .ok (.arraylength, 1) := by decide +kernel
theorem dX8_at_7 : decode cX8_at 7 = .ok (.if_icmp .ge 9, 3) := by decide +kernel
theorem dX8_at_10 : decode cX8_at 10 = .ok (.aload_n 0, 1) := by decide +kernel
theorem dX8_at_11 : decode cX8_at 11 = .ok (.iload_n 1, 1) := by decide +kernel
theorem dX8_at_12 : decode cX8_at 12 = .ok (.iaload, 1) := by decide +kernel
theorem dX8_at_13 : decode cX8_at 13 = .ok (.goto 4, 3) := by decide +kernel
theorem dX8_at_16 : decode cX8_at 16 = .ok (.iconst 0, 1) := by decide +kernel
theorem dX8_at_17 : decode cX8_at 17 = .ok (.ireturn, 1) := by decide +kernel
set_option maxHeartbeats 4000000 in
set_option maxRecDepth 100000 in
/-- at(row, i) -/
theorem c_X8_at (l : Launch) (G : xG) (a0 : Nat) (n0 : Nat) (f0 : Nat → Int32) (p0 : Int32) (hn0 : n0 < 2 ^ 31) : xRi l G yX8_at cX8_at 2 (some .int) 0 0 [.ref a0, .int p0] [(a0, .inl (G.2 0, n0, .inl f0))] (fun r => r = xat n0 f0 p0) := by
  intro sz
  refine xstart (by decide) (Nat.le_of_ble_eq_true rfl) (fun p e s m args below meth c ls C0 hr hlocks hin hsz hP hK hD hN hl => ?_)
  obtain ⟨hx, hb, hml, hown, htl⟩ := id C0
  have hl : lv_has ls 2 [(0, .ref a0), (1, .int p0)] := hl
  refine lv_iload_n hx hb dX8_at_0 rfl (lv_at hl 1 rfl) ?_
  refine lv_if_lt (tgt := 16) hx hb dX8_at_1 (by decide) (fun c_1 => ?_) (fun c_1 => ?_)
  · refine lv_iconst (v := 0) hx hb dX8_at_16 (by decide) ?_
    exact W.iret (v := 0) hx hb hr (fun t ht hW => ⟨0, rfl, (if_pos c_1).symm, ht⟩) (fun q hq => by cases hq) dX8_at_17
  · refine lv_iload_n hx hb dX8_at_4 rfl (lv_at hl 1 rfl) ?_
    refine lv_aload_n hx hb dX8_at_5 rfl (lv_at hl 0 rfl) ?_
    refine va_alen (v := nI n0) hx hb hK hP 0 0 rfl rfl rfl dX8_at_6 ?_
    refine lv_icmp_ge (tgt := 16) hx hb dX8_at_7 (by decide) (fun c_2 => ?_) (fun c_2 => ?_)
    · refine lv_iconst (v := 0) hx hb dX8_at_16 (by decide) ?_
      exact W.iret (v := 0) hx hb hr (fun t ht hW => ⟨0, rfl, ((if_neg c_1).trans (if_pos c_2)).symm, ht⟩) (fun q hq => by cases hq) dX8_at_17
    · refine lv_aload_n hx hb dX8_at_10 rfl (lv_at hl 0 rfl) ?_
      refine lv_iload_n hx hb dX8_at_11 rfl (lv_at hl 1 rfl) ?_
      refine va_iald hx hb hK hP 0 0 rfl rfl (xin c_1 c_2 hn0) dX8_at_12 ?_
      refine lv_topi (fun z_3 ez_3 => ?_)
      refine lv_goto (tgt := 17) hx hb dX8_at_13 (by decide) ?_
      exact W.iret (v := z_3) hx hb hr (fun t ht hW => ⟨z_3, rfl, (by rw [ez_3]; exact ((if_neg c_1).trans (if_neg c_2)).symm), ht⟩) (fun q hq => by cases hq) dX8_at_17
theorem dX8_put_0 : decode cX8_put 0 = .ok (.iload_n 1, 1) := by decide +kernel
theorem dX8_put_1 : decode cX8_put 1 = .ok (.ifCond .lt 13, 3) := by decide +kernel
theorem dX8_put_4 : decode cX8_put 4 = .ok (.iload_n 1, 1) := by decide +kernel
theorem dX8_put_5 : decode cX8_put 5 = .ok (.aload_n 0, 1) := by decide +kernel
theorem dX8_put_6 : decode cX8_put 6 = .ok (.arraylength, 1) := by decide +kernel
theorem dX8_put_7 : decode cX8_put 7 = .ok (.if_icmp .ge 7, 3) := by decide +kernel
theorem dX8_put_10 : decode cX8_put 10 = .ok (.aload_n 0, 1) := by decide +kernel
theorem dX8_put_11 : decode cX8_put 11 = .ok (.iload_n 1, 1) := by decide +kernel
theorem dX8_put_12 : decode cX8_put 12 = .ok (.iload_n 2, 1) := by decide +kernel
theorem dX8_put_13 : decode cX8_put 13 = .ok (.iastore, 1) := by decide +kernel
theorem dX8_put_14 : decode cX8_put 14 = .ok (.return_, 1) := by decide +kernel
set_option maxHeartbeats 4000000 in
set_option maxRecDepth 100000 in
/-- put(row, i, v) -/
theorem c_X8_put (l : Launch) (G : xG) (a0 : Nat) (n0 : Nat) (f0 : Nat → Int32) (p0 : Int32) (p1 : Int32) (hn0 : n0 < 2 ^ 31) : xWv l G yX8_put cX8_put 3 none 0 0 0 0 [.ref a0, .int p0, .int p1] [(a0, .inl (G.2 0, n0, .inl f0))] (S := (Nat → Int32)) (fun u => u = xput n0 f0 p0 p1) (fun u => [(a0, .inl (G.2 0, n0, .inl u))]) := by
  intro sz
  refine xstart (by decide) (Nat.le_of_ble_eq_true rfl) (fun p e s m args below meth c ls C0 hr hlocks hin hsz hP hK hD hN hl => ?_)
  obtain ⟨hx, hb, hml, hown, htl⟩ := id C0
  subst hsz
  have hD := hD.self (sz := s.heap.size)
  generalize hAe : va_A [(a0, .inl (G.2 0, n0, .inl f0))] s.heap.size = A at hD ⊢
  have hA : ∀ q : Nat, s.heap.size ≤ q → A q := fun q h => by rw [← hAe]; exact Or.inr h
  have hS : va_S A s.heap s.heap [] := va_S.rf
  have hl : lv_has ls 3 [(0, .ref a0), (1, .int p0), (2, .int p1)] := hl
  refine lv_iload_n hx hb dX8_put_0 rfl (lv_at hl 1 rfl) ?_
  refine lv_if_lt (tgt := 14) hx hb dX8_put_1 (by decide) (fun c_1 => ?_) (fun c_1 => ?_)
  · have hP9 := hP.sub (ws' := [(a0, .inl (G.2 0, n0, .inl f0))]) [0] rfl
    have hD9 := hD.sub (ws' := [(a0, .inl (G.2 0, n0, .inl f0))]) [0] (by decide) rfl
    exact W.vret hx hb hr (fun t ht hW => ⟨⟨f0, rfl, (if_pos c_1).symm, by rw [ht]; exact hP9, hD9⟩, hS.F ht⟩) hS.2.2 dX8_put_14
  · refine lv_iload_n hx hb dX8_put_4 rfl (lv_at hl 1 rfl) ?_
    refine lv_aload_n hx hb dX8_put_5 rfl (lv_at hl 0 rfl) ?_
    refine va_alen (v := nI n0) hx hb hK hP 0 0 rfl rfl rfl dX8_put_6 ?_
    refine lv_icmp_ge (tgt := 14) hx hb dX8_put_7 (by decide) (fun c_2 => ?_) (fun c_2 => ?_)
    · have hP9 := hP.sub (ws' := [(a0, .inl (G.2 0, n0, .inl f0))]) [0] rfl
      have hD9 := hD.sub (ws' := [(a0, .inl (G.2 0, n0, .inl f0))]) [0] (by decide) rfl
      exact W.vret hx hb hr (fun t ht hW => ⟨⟨f0, rfl, ((if_neg c_1).trans (if_pos c_2)).symm, by rw [ht]; exact hP9, hD9⟩, hS.F ht⟩) hS.2.2 dX8_put_14
    · refine lv_aload_n hx hb dX8_put_10 rfl (lv_at hl 0 rfl) ?_
      refine lv_iload_n hx hb dX8_put_11 rfl (lv_at hl 1 rfl) ?_
      refine lv_iload_n hx hb dX8_put_12 rfl (lv_at hl 2 rfl) ?_
      refine va_iast hx hb hK hP hD hS 0 0 rfl rfl (xin c_1 c_2 hn0) dX8_put_13 (fun H locs hP hD hS => ?_)
      obtain ⟨g_3, eg_3⟩ : ∃ z : Nat → Int32, z = (upd f0 (p0 : Int32).toNatClampNeg p1) := ⟨_, rfl⟩
      have hP : va_P G.1 xcl [(a0, .inl (G.2 0, n0, .inl g_3))] H := by rw [eg_3]; exact hP
      have hD : va_D A [(a0, .inl (G.2 0, n0, .inl g_3))] := by rw [eg_3]; exact hD
      have hP9 := hP.sub (ws' := [(a0, .inl (G.2 0, n0, .inl g_3))]) [0] rfl
      have hD9 := hD.sub (ws' := [(a0, .inl (G.2 0, n0, .inl g_3))]) [0] (by decide) rfl
      exact W.vret hx hb hr (fun t ht hW => ⟨⟨g_3, rfl, (by rw [eg_3]; exact ((if_neg c_1).trans (if_neg c_2)).symm), by rw [ht]; exact hP9, hD9⟩, hS.F ht⟩) hS.2.2 dX8_put_14
