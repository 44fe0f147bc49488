theorem dX8_isTerm_0 : decode cX8_isTerm 0 = .ok (.iload_n 0, 1) := by decide +kernel
theorem dX8_isTerm_1 : decode cX8_isTerm 1 = .ok (.iconst 0, 1) := by decide +kernel
theorem dX8_isTerm_2 : decode cX8_isTerm 2 = .ok (.iconst 4, 1) := by decide +kernel
theorem dX8_isTerm_3 : decode cX8_isTerm 3 = .ok (.invokestatic 71, 3) := by decide +kernel
theorem dX8_isTerm_6 : decode cX8_isTerm 6 = .ok (.ifCond .ne 5, 3) := by decide +kernel
theorem dX8_isTerm_9 : decode cX8_isTerm 9 = .ok (.iconst 0, 1) := by decide +kernel
theorem dX8_isTerm_10 : decode cX8_isTerm 10 = .ok (.ireturn, 1) := by decide +kernel
theorem dX8_isTerm_11 : decode cX8_isTerm 11 = .ok (.iload_n 1, 1) := by decide +kernel
theorem dX8_isTerm_12 : decode cX8_isTerm 12 = .ok (.tableswitch 101 0 4 #[36, 38, 66, 68, 75], 36) := by decide +kernel
theorem dX8_isTerm_48 : decode cX8_isTerm 48 = .ok (.iconst 1, 1) := by decide +kernel
theorem dX8_isTerm_49 : decode cX8_isTerm 49 = .ok (.ireturn, 1) := by decide +kernel
theorem dX8_isTerm_50 : decode cX8_isTerm 50 = .ok (.iload_n 2, 1) := by decide +kernel
theorem dX8_isTerm_51 : decode cX8_isTerm 51 = .ok (.iconst 0, 1) := by decide +kernel
theorem dX8_isTerm_52 : decode cX8_isTerm 52 = .ok (.sipush 1440, 3) := by decide +kernel
theorem dX8_isTerm_55 : decode cX8_isTerm 55 = .ok (.invokestatic 71, 3) := by decide +kernel
theorem dX8_isTerm_58 : decode cX8_isTerm 58 = .ok (.ifCond .eq 18, 3) := by decide +kernel
theorem dX8_isTerm_61 : decode cX8_isTerm 61 = .ok (.iload_n 3, 1) := by decide +kernel
theorem dX8_isTerm_62 : decode cX8_isTerm 62 = .ok (.iconst 0, 1) := by decide +kernel
theorem dX8_isTerm_63 : decode cX8_isTerm 63 = .ok (.sipush 1440, 3) := by decide +kernel
theorem dX8_isTerm_66 : decode cX8_isTerm 66 = .ok (.invokestatic 71, 3) := by decide +kernel
theorem dX8_isTerm_69 : decode cX8_isTerm 69 = .ok (.ifCond .eq 7, 3) := by decide +kernel
theorem dX8_isTerm_72 : decode cX8_isTerm 72 = .ok (.iconst 1, 1) := by decide +kernel
theorem dX8_isTerm_73 : decode cX8_isTerm 73 = .ok (.goto 4, 3) := by decide +kernel
theorem dX8_isTerm_76 : decode cX8_isTerm 76 = .ok (.iconst 0, 1) := by decide +kernel
theorem dX8_isTerm_77 : decode cX8_isTerm 77 = .ok (.ireturn, 1) := by decide +kernel
theorem dX8_isTerm_78 : decode cX8_isTerm 78 = .ok (.iconst 1, 1) := by decide +kernel
theorem dX8_isTerm_79 : decode cX8_isTerm 79 = .ok (.ireturn, 1) := by decide +kernel
theorem dX8_isTerm_80 : decode cX8_isTerm 80 = .ok (.iload_n 2, 1) := by decide +kernel
theorem dX8_isTerm_81 : decode cX8_isTerm 81 = .ok (.iconst 0, 1) := by decide +kernel
theorem dX8_isTerm_82 : decode cX8_isTerm 82 = .ok (.iconst 4, 1) := by decide +kernel
theorem dX8_isTerm_83 : decode cX8_isTerm 83 = .ok (.invokestatic 71, 3) := by decide +kernel
theorem dX8_isTerm_86 : decode cX8_isTerm 86 = .ok (.ireturn, 1) := by decide +kernel
theorem dX8_isTerm_87 : decode cX8_isTerm 87 = .ok (.iload_n 2, 1) := by decide +kernel
theorem dX8_isTerm_88 : decode cX8_isTerm 88 = .ok (.iconst 0, 1) := by decide +kernel
theorem dX8_isTerm_89 : decode cX8_isTerm 89 = .ok (.ldc 240, 2) := by decide +kernel
theorem dX8_isTerm_91 : decode cX8_isTerm 91 = .ok (.invokestatic 71, 3) := by decide +kernel
theorem dX8_isTerm_94 : decode cX8_isTerm 94 = .ok (.ifCond .eq 17, 3) := by decide +kernel
theorem dX8_isTerm_97 : decode cX8_isTerm 97 = .ok (.iload_n 3, 1) := by decide +kernel
theorem dX8_isTerm_98 : decode cX8_isTerm 98 = .ok (.iconst 0, 1) := by decide +kernel
theorem dX8_isTerm_99 : decode cX8_isTerm 99 = .ok (.ldc 240, 2) := by decide +kernel
theorem dX8_isTerm_101 : decode cX8_isTerm 101 = .ok (.invokestatic 71, 3) := by decide +kernel
theorem dX8_isTerm_104 : decode cX8_isTerm 104 = .ok (.ifCond .eq 7, 3) := by decide +kernel
theorem dX8_isTerm_107 : decode cX8_isTerm 107 = .ok (.iconst 1, 1) := by decide +kernel
theorem dX8_isTerm_108 : decode cX8_isTerm 108 = .ok (.goto 4, 3) := by decide +kernel
theorem dX8_isTerm_111 : decode cX8_isTerm 111 = .ok (.iconst 0, 1) := by decide +kernel
theorem dX8_isTerm_112 : decode cX8_isTerm 112 = .ok (.ireturn, 1) := by decide +kernel
theorem dX8_isTerm_113 : decode cX8_isTerm 113 = .ok (.iconst 0, 1) := by decide +kernel
theorem dX8_isTerm_114 : decode cX8_isTerm 114 = .ok (.ireturn, 1) := by decide +kernel
set_option maxHeartbeats 4000000 in
set_option maxRecDepth 100000 in
theorem g_X8_isTerm (l : Launch) (G : xG) (S : yS) (d : yD) (p0 : Int32) (p1 : Int32) (p2 : Int32) (p3 : Int32) : xRi l G yX8_isTerm cX8_isTerm 4 (some .boolean) 1 22 [.int p0, .int p1, .int p2, .int p3] (yW G S d) (fun r => (r = 0 ∨ r = 1) ∧ ((r.toInt = 1 ∧ (0 ≤ p0.toInt ∧ p0.toInt ≤ 4 ∧ 0 ≤ p1.toInt ∧ p1.toInt ≤ 4 ∧ (p1.toInt = 1 → 0 ≤ p2.toInt ∧ p2.toInt ≤ 1440 ∧ 0 ≤ p3.toInt ∧ p3.toInt ≤ 1440) ∧ (p1.toInt = 3 → 0 ≤ p2.toInt ∧ p2.toInt ≤ 4) ∧ (p1.toInt = 4 → 0 ≤ p2.toInt ∧ p2.toInt ≤ 129600 ∧ 0 ≤ p3.toInt ∧ p3.toInt ≤ 129600))) ∨ (r.toInt = 0 ∧ ¬ (0 ≤ p0.toInt ∧ p0.toInt ≤ 4 ∧ 0 ≤ p1.toInt ∧ p1.toInt ≤ 4 ∧ (p1.toInt = 1 → 0 ≤ p2.toInt ∧ p2.toInt ≤ 1440 ∧ 0 ≤ p3.toInt ∧ p3.toInt ≤ 1440) ∧ (p1.toInt = 3 → 0 ≤ p2.toInt ∧ p2.toInt ≤ 4) ∧ (p1.toInt = 4 → 0 ≤ p2.toInt ∧ p2.toInt ≤ 129600 ∧ 0 ≤ p3.toInt ∧ p3.toInt ≤ 129600))))) := by
  intro sz
  refine xstart (by decide) (Nat.le_of_ble_eq_true rfl) (fun p e s m args below meth c ls C0 hr hlocks hin hsz hP hK hD hN hl => ?_)
  obtain ⟨hx, hb, hml, hown, htl⟩ := id C0
  have hl : lv_has ls 4 [(0, .int p0), (1, .int p1), (2, .int p2), (3, .int p3)] := hl
  refine lv_iload_n hx hb dX8_isTerm_0 rfl (lv_at hl 0 rfl) ?_
  refine lv_iconst (v := 0) hx hb dX8_isTerm_1 (by decide) ?_
  refine lv_iconst (v := 4) hx hb dX8_isTerm_2 (by decide) ?_
  refine ySri (As := [.int p0, .int 0, .int 4]) (rest := []) C0 (g_X8_within l G S d p0 0 4 ) ok_X8_within (mW193 : Cond.methodLink RX8 71 yX8_within ∈ wsT) ⟨Nat.le_of_ble_eq_true rfl, Nat.le_of_ble_eq_true rfl⟩ hP hD hK hN rfl hl.1 rfl (Nat.le_of_ble_eq_true rfl) ⟨Nat.le_of_ble_eq_true rfl, Nat.le_of_ble_eq_true rfl⟩ dX8_isTerm_3 (fun r_1 hr_1 => ?_)
  have hL_2 : (0 : Int32).toInt = 0 := by decide +kernel
  have hL_3 : (4 : Int32).toInt = 4 := by decide +kernel
  have tr_1 := tw_ hr_1
  refine lv_if_ne (tgt := 11) hx hb dX8_isTerm_6 (by decide) (fun c_4 => ?_) (fun c_4 => ?_)
  · refine lv_iload_n hx hb dX8_isTerm_11 rfl (lv_at hl 1 rfl) ?_
    rcases xtab p1 5 (by decide) with hsw_5 | ⟨k_6, hk_6, hsw_5⟩
    · refine lv_tableOut (tgt := 113) hx hb dX8_isTerm_12 (by omega) (by decide) ?_
      refine lv_iconst (v := 0) hx hb dX8_isTerm_113 (by decide) ?_
      have F_7 := fne (rfl : (r_1 : Int32).toInt = (r_1 : Int32).toInt) (by decide +kernel : (0 : Int32).toInt = 0) c_4
      exact W.zret (v := 0) (ty := .boolean) hx hb hr rfl (fun t ht hW => ⟨0, rfl, ⟨Or.inl rfl, by have h0_ : (0 : Int32).toInt = 0 := (by decide +kernel); omega⟩, ht⟩) (fun q hq => by cases hq) dX8_isTerm_114
    · obtain rfl | rfl | rfl | rfl | rfl : k_6 = 0 ∨ k_6 = 1 ∨ k_6 = 2 ∨ k_6 = 3 ∨ k_6 = 4 := by omega
      · subst hsw_5
        refine lv_tableIn (tgt := 48) (off := 36) hx hb dX8_isTerm_12 (by decide +kernel) (by decide +kernel) (by decide +kernel) (by decide) ?_
        refine lv_iconst (v := 1) hx hb dX8_isTerm_48 (by decide) ?_
        have hn_ : (nI 0 : Int32).toInt = 0 := by decide +kernel
        have F_8 := fne (rfl : (r_1 : Int32).toInt = (r_1 : Int32).toInt) (by decide +kernel : (0 : Int32).toInt = 0) c_4
        exact W.zret (v := 1) (ty := .boolean) hx hb hr rfl (fun t ht hW => ⟨1, rfl, ⟨Or.inr rfl, by have h0_ : (1 : Int32).toInt = 1 := (by decide +kernel); omega⟩, ht⟩) (fun q hq => by cases hq) dX8_isTerm_49
      · subst hsw_5
        refine lv_tableIn (tgt := 50) (off := 38) hx hb dX8_isTerm_12 (by decide +kernel) (by decide +kernel) (by decide +kernel) (by decide) ?_
        refine lv_iload_n hx hb dX8_isTerm_50 rfl (lv_at hl 2 rfl) ?_
        refine lv_iconst (v := 0) hx hb dX8_isTerm_51 (by decide) ?_
        refine lv_sipush (v := 1440) hx hb dX8_isTerm_52 (by decide) ?_
        refine ySri (As := [.int p2, .int 0, .int 1440]) (rest := []) C0 (g_X8_within l G S d p2 0 1440 ) ok_X8_within (mW193 : Cond.methodLink RX8 71 yX8_within ∈ wsT) ⟨Nat.le_of_ble_eq_true rfl, Nat.le_of_ble_eq_true rfl⟩ hP hD hK hN rfl hl.1 rfl (Nat.le_of_ble_eq_true rfl) ⟨Nat.le_of_ble_eq_true rfl, Nat.le_of_ble_eq_true rfl⟩ dX8_isTerm_55 (fun r_9 hr_9 => ?_)
        have hL_10 : (1440 : Int32).toInt = 1440 := by decide +kernel
        have tr_9 := tw_ hr_9
        refine lv_if_eq (tgt := 76) hx hb dX8_isTerm_58 (by decide) (fun c_11 => ?_) (fun c_11 => ?_)
        · refine lv_iconst (v := 0) hx hb dX8_isTerm_76 (by decide) ?_
          have hn_ : (nI 1 : Int32).toInt = 1 := by decide +kernel
          have F_12 := fne (rfl : (r_1 : Int32).toInt = (r_1 : Int32).toInt) (by decide +kernel : (0 : Int32).toInt = 0) c_4
          have F_13 := feq (rfl : (r_9 : Int32).toInt = (r_9 : Int32).toInt) (by decide +kernel : (0 : Int32).toInt = 0) c_11
          exact W.zret (v := 0) (ty := .boolean) hx hb hr rfl (fun t ht hW => ⟨0, rfl, ⟨Or.inl rfl, by have h0_ : (0 : Int32).toInt = 0 := (by decide +kernel); omega⟩, ht⟩) (fun q hq => by cases hq) dX8_isTerm_77
        · refine lv_iload_n hx hb dX8_isTerm_61 rfl (lv_at hl 3 rfl) ?_
          refine lv_iconst (v := 0) hx hb dX8_isTerm_62 (by decide) ?_
          refine lv_sipush (v := 1440) hx hb dX8_isTerm_63 (by decide) ?_
          refine ySri (As := [.int p3, .int 0, .int 1440]) (rest := []) C0 (g_X8_within l G S d p3 0 1440 ) ok_X8_within (mW193 : Cond.methodLink RX8 71 yX8_within ∈ wsT) ⟨Nat.le_of_ble_eq_true rfl, Nat.le_of_ble_eq_true rfl⟩ hP hD hK hN rfl hl.1 rfl (Nat.le_of_ble_eq_true rfl) ⟨Nat.le_of_ble_eq_true rfl, Nat.le_of_ble_eq_true rfl⟩ dX8_isTerm_66 (fun r_14 hr_14 => ?_)
          have tr_14 := tw_ hr_14
          refine lv_if_eq (tgt := 76) hx hb dX8_isTerm_69 (by decide) (fun c_15 => ?_) (fun c_15 => ?_)
          · refine lv_iconst (v := 0) hx hb dX8_isTerm_76 (by decide) ?_
            have hn_ : (nI 1 : Int32).toInt = 1 := by decide +kernel
            have F_16 := fne (rfl : (r_1 : Int32).toInt = (r_1 : Int32).toInt) (by decide +kernel : (0 : Int32).toInt = 0) c_4
            have F_17 := fne (rfl : (r_9 : Int32).toInt = (r_9 : Int32).toInt) (by decide +kernel : (0 : Int32).toInt = 0) c_11
            have F_18 := feq (rfl : (r_14 : Int32).toInt = (r_14 : Int32).toInt) (by decide +kernel : (0 : Int32).toInt = 0) c_15
            exact W.zret (v := 0) (ty := .boolean) hx hb hr rfl (fun t ht hW => ⟨0, rfl, ⟨Or.inl rfl, by have h0_ : (0 : Int32).toInt = 0 := (by decide +kernel); omega⟩, ht⟩) (fun q hq => by cases hq) dX8_isTerm_77
          · refine lv_iconst (v := 1) hx hb dX8_isTerm_72 (by decide) ?_
            refine lv_goto (tgt := 77) hx hb dX8_isTerm_73 (by decide) ?_
            have hn_ : (nI 1 : Int32).toInt = 1 := by decide +kernel
            have F_19 := fne (rfl : (r_1 : Int32).toInt = (r_1 : Int32).toInt) (by decide +kernel : (0 : Int32).toInt = 0) c_4
            have F_20 := fne (rfl : (r_9 : Int32).toInt = (r_9 : Int32).toInt) (by decide +kernel : (0 : Int32).toInt = 0) c_11
            have F_21 := fne (rfl : (r_14 : Int32).toInt = (r_14 : Int32).toInt) (by decide +kernel : (0 : Int32).toInt = 0) c_15
            exact W.zret (v := 1) (ty := .boolean) hx hb hr rfl (fun t ht hW => ⟨1, rfl, ⟨Or.inr rfl, by have h0_ : (1 : Int32).toInt = 1 := (by decide +kernel); omega⟩, ht⟩) (fun q hq => by cases hq) dX8_isTerm_77
      · subst hsw_5
        refine lv_tableIn (tgt := 78) (off := 66) hx hb dX8_isTerm_12 (by decide +kernel) (by decide +kernel) (by decide +kernel) (by decide) ?_
        refine lv_iconst (v := 1) hx hb dX8_isTerm_78 (by decide) ?_
        have hn_ : (nI 2 : Int32).toInt = 2 := by decide +kernel
        have F_22 := fne (rfl : (r_1 : Int32).toInt = (r_1 : Int32).toInt) (by decide +kernel : (0 : Int32).toInt = 0) c_4
        exact W.zret (v := 1) (ty := .boolean) hx hb hr rfl (fun t ht hW => ⟨1, rfl, ⟨Or.inr rfl, by have h0_ : (1 : Int32).toInt = 1 := (by decide +kernel); omega⟩, ht⟩) (fun q hq => by cases hq) dX8_isTerm_79
      · subst hsw_5
        refine lv_tableIn (tgt := 80) (off := 68) hx hb dX8_isTerm_12 (by decide +kernel) (by decide +kernel) (by decide +kernel) (by decide) ?_
        refine lv_iload_n hx hb dX8_isTerm_80 rfl (lv_at hl 2 rfl) ?_
        refine lv_iconst (v := 0) hx hb dX8_isTerm_81 (by decide) ?_
        refine lv_iconst (v := 4) hx hb dX8_isTerm_82 (by decide) ?_
        refine ySri (As := [.int p2, .int 0, .int 4]) (rest := []) C0 (g_X8_within l G S d p2 0 4 ) ok_X8_within (mW193 : Cond.methodLink RX8 71 yX8_within ∈ wsT) ⟨Nat.le_of_ble_eq_true rfl, Nat.le_of_ble_eq_true rfl⟩ hP hD hK hN rfl hl.1 rfl (Nat.le_of_ble_eq_true rfl) ⟨Nat.le_of_ble_eq_true rfl, Nat.le_of_ble_eq_true rfl⟩ dX8_isTerm_83 (fun r_23 hr_23 => ?_)
        have tr_23 := tw_ hr_23
        have hn_ : (nI 3 : Int32).toInt = 3 := by decide +kernel
        have F_24 := fne (rfl : (r_1 : Int32).toInt = (r_1 : Int32).toInt) (by decide +kernel : (0 : Int32).toInt = 0) c_4
        exact W.zret (v := r_23) (ty := .boolean) hx hb hr (znb (xwb hr_23)).1 (fun t ht hW => ⟨r_23, rfl, ⟨(xwb hr_23), by omega⟩, ht⟩) (fun q hq => by cases hq) dX8_isTerm_86
      · subst hsw_5
        refine lv_tableIn (tgt := 87) (off := 75) hx hb dX8_isTerm_12 (by decide +kernel) (by decide +kernel) (by decide +kernel) (by decide) ?_
        refine lv_iload_n hx hb dX8_isTerm_87 rfl (lv_at hl 2 rfl) ?_
        refine lv_iconst (v := 0) hx hb dX8_isTerm_88 (by decide) ?_
        refine lv_ldc (v := 129600) hx hb hown (htl (.constant RX8 240 (129600)) mW209) dX8_isTerm_89 ?_
        refine ySri (As := [.int p2, .int 0, .int 129600]) (rest := []) C0 (g_X8_within l G S d p2 0 129600 ) ok_X8_within (mW193 : Cond.methodLink RX8 71 yX8_within ∈ wsT) ⟨Nat.le_of_ble_eq_true rfl, Nat.le_of_ble_eq_true rfl⟩ hP hD hK hN rfl hl.1 rfl (Nat.le_of_ble_eq_true rfl) ⟨Nat.le_of_ble_eq_true rfl, Nat.le_of_ble_eq_true rfl⟩ dX8_isTerm_91 (fun r_25 hr_25 => ?_)
        have hL_26 : (129600 : Int32).toInt = 129600 := by decide +kernel
        have tr_25 := tw_ hr_25
        refine lv_if_eq (tgt := 111) hx hb dX8_isTerm_94 (by decide) (fun c_27 => ?_) (fun c_27 => ?_)
        · refine lv_iconst (v := 0) hx hb dX8_isTerm_111 (by decide) ?_
          have hn_ : (nI 4 : Int32).toInt = 4 := by decide +kernel
          have F_28 := fne (rfl : (r_1 : Int32).toInt = (r_1 : Int32).toInt) (by decide +kernel : (0 : Int32).toInt = 0) c_4
          have F_29 := feq (rfl : (r_25 : Int32).toInt = (r_25 : Int32).toInt) (by decide +kernel : (0 : Int32).toInt = 0) c_27
          exact W.zret (v := 0) (ty := .boolean) hx hb hr rfl (fun t ht hW => ⟨0, rfl, ⟨Or.inl rfl, by have h0_ : (0 : Int32).toInt = 0 := (by decide +kernel); omega⟩, ht⟩) (fun q hq => by cases hq) dX8_isTerm_112
        · refine lv_iload_n hx hb dX8_isTerm_97 rfl (lv_at hl 3 rfl) ?_
          refine lv_iconst (v := 0) hx hb dX8_isTerm_98 (by decide) ?_
          refine lv_ldc (v := 129600) hx hb hown (htl (.constant RX8 240 (129600)) mW209) dX8_isTerm_99 ?_
          refine ySri (As := [.int p3, .int 0, .int 129600]) (rest := []) C0 (g_X8_within l G S d p3 0 129600 ) ok_X8_within (mW193 : Cond.methodLink RX8 71 yX8_within ∈ wsT) ⟨Nat.le_of_ble_eq_true rfl, Nat.le_of_ble_eq_true rfl⟩ hP hD hK hN rfl hl.1 rfl (Nat.le_of_ble_eq_true rfl) ⟨Nat.le_of_ble_eq_true rfl, Nat.le_of_ble_eq_true rfl⟩ dX8_isTerm_101 (fun r_30 hr_30 => ?_)
          have tr_30 := tw_ hr_30
          refine lv_if_eq (tgt := 111) hx hb dX8_isTerm_104 (by decide) (fun c_31 => ?_) (fun c_31 => ?_)
          · refine lv_iconst (v := 0) hx hb dX8_isTerm_111 (by decide) ?_
            have hn_ : (nI 4 : Int32).toInt = 4 := by decide +kernel
            have F_32 := fne (rfl : (r_1 : Int32).toInt = (r_1 : Int32).toInt) (by decide +kernel : (0 : Int32).toInt = 0) c_4
            have F_33 := fne (rfl : (r_25 : Int32).toInt = (r_25 : Int32).toInt) (by decide +kernel : (0 : Int32).toInt = 0) c_27
            have F_34 := feq (rfl : (r_30 : Int32).toInt = (r_30 : Int32).toInt) (by decide +kernel : (0 : Int32).toInt = 0) c_31
            exact W.zret (v := 0) (ty := .boolean) hx hb hr rfl (fun t ht hW => ⟨0, rfl, ⟨Or.inl rfl, by have h0_ : (0 : Int32).toInt = 0 := (by decide +kernel); omega⟩, ht⟩) (fun q hq => by cases hq) dX8_isTerm_112
          · refine lv_iconst (v := 1) hx hb dX8_isTerm_107 (by decide) ?_
            refine lv_goto (tgt := 112) hx hb dX8_isTerm_108 (by decide) ?_
            have hn_ : (nI 4 : Int32).toInt = 4 := by decide +kernel
            have F_35 := fne (rfl : (r_1 : Int32).toInt = (r_1 : Int32).toInt) (by decide +kernel : (0 : Int32).toInt = 0) c_4
            have F_36 := fne (rfl : (r_25 : Int32).toInt = (r_25 : Int32).toInt) (by decide +kernel : (0 : Int32).toInt = 0) c_27
            have F_37 := fne (rfl : (r_30 : Int32).toInt = (r_30 : Int32).toInt) (by decide +kernel : (0 : Int32).toInt = 0) c_31
            exact W.zret (v := 1) (ty := .boolean) hx hb hr rfl (fun t ht hW => ⟨1, rfl, ⟨Or.inr rfl, by have h0_ : (1 : Int32).toInt = 1 := (by decide +kernel); omega⟩, ht⟩) (fun q hq => by cases hq) dX8_isTerm_112
  · refine lv_iconst (v := 0) hx hb dX8_isTerm_9 (by decide) ?_
    have F_38 := feq (rfl : (r_1 : Int32).toInt = (r_1 : Int32).toInt) (by decide +kernel : (0 : Int32).toInt = 0) c_4
    exact W.zret (v := 0) (ty := .boolean) hx hb hr rfl (fun t ht hW => ⟨0, rfl, ⟨Or.inl rfl, by have h0_ : (0 : Int32).toInt = 0 := (by decide +kernel); omega⟩, ht⟩) (fun q hq => by cases hq) dX8_isTerm_10
theorem dX8_isWhy_0 : decode cX8_isWhy 0 = .ok (.iload_n 0, 1) := by decide +kernel
theorem dX8_isWhy_1 : decode cX8_isWhy 1 = .ok (.bipush (-2), 2) := by decide +kernel
theorem dX8_isWhy_3 : decode cX8_isWhy 3 = .ok (.if_icmp .eq 19, 3) := by decide +kernel
theorem dX8_isWhy_6 : decode cX8_isWhy 6 = .ok (.iload_n 0, 1) := by decide +kernel
theorem dX8_isWhy_7 : decode cX8_isWhy 7 = .ok (.bipush (-3), 2) := by decide +kernel
theorem dX8_isWhy_9 : decode cX8_isWhy 9 = .ok (.if_icmp .eq 13, 3) := by decide +kernel
theorem dX8_isWhy_12 : decode cX8_isWhy 12 = .ok (.iload_n 0, 1) := by decide +kernel
theorem dX8_isWhy_13 : decode cX8_isWhy 13 = .ok (.iconst 0, 1) := by decide +kernel
theorem dX8_isWhy_14 : decode cX8_isWhy 14 = .ok (.bipush 59, 2) := by decide +kernel
theorem dX8_isWhy_16 : decode cX8_isWhy 16 = .ok (.invokestatic 71, 3) := by decide +kernel
theorem dX8_isWhy_19 : decode cX8_isWhy 19 = .ok (.ifCond .eq 7, 3) := by decide +kernel
theorem dX8_isWhy_22 : decode cX8_isWhy 22 = .ok (.iconst 1, 1) := by decide +kernel
theorem dX8_isWhy_23 : decode cX8_isWhy 23 = .ok (.goto 4, 3) := by decide +kernel
theorem dX8_isWhy_26 : decode cX8_isWhy 26 = .ok (.iconst 0, 1) := by decide +kernel
theorem dX8_isWhy_27 : decode cX8_isWhy 27 = .ok (.ireturn, 1) := by decide +kernel
set_option maxHeartbeats 4000000 in
set_option maxRecDepth 100000 in
theorem g_X8_isWhy (l : Launch) (G : xG) (S : yS) (d : yD) (p0 : Int32) : xRi l G yX8_isWhy cX8_isWhy 1 (some .boolean) 1 22 [.int p0] (yW G S d) (fun r => (r = 0 ∨ r = 1) ∧ ((r.toInt = 1 ∧ (p0.toInt = -2 ∨ p0.toInt = -3 ∨ (0 ≤ p0.toInt ∧ p0.toInt ≤ 59))) ∨ (r.toInt = 0 ∧ ¬ (p0.toInt = -2 ∨ p0.toInt = -3 ∨ (0 ≤ p0.toInt ∧ p0.toInt ≤ 59))))) := by
  intro sz
  refine xstart (by decide) (Nat.le_of_ble_eq_true rfl) (fun p e s m args below meth c ls C0 hr hlocks hin hsz hP hK hD hN hl => ?_)
  obtain ⟨hx, hb, hml, hown, htl⟩ := id C0
  have hl : lv_has ls 1 [(0, .int p0)] := hl
  refine lv_iload_n hx hb dX8_isWhy_0 rfl (lv_at hl 0 rfl) ?_
  refine lv_bipush (v := (-2)) hx hb dX8_isWhy_1 (by decide) ?_
  refine lv_icmp_eq (tgt := 22) hx hb dX8_isWhy_3 (by decide) (fun c_1 => ?_) (fun c_1 => ?_)
  · refine lv_iconst (v := 1) hx hb dX8_isWhy_22 (by decide) ?_
    refine lv_goto (tgt := 27) hx hb dX8_isWhy_23 (by decide) ?_
    have F_2 := feq (rfl : (p0 : Int32).toInt = (p0 : Int32).toInt) (by decide +kernel : ((-2) : Int32).toInt = (-2)) c_1
    have hL_3 : ((-2) : Int32).toInt = (-2) := by decide +kernel
    have hL_4 : ((-3) : Int32).toInt = (-3) := by decide +kernel
    exact W.zret (v := 1) (ty := .boolean) hx hb hr rfl (fun t ht hW => ⟨1, rfl, ⟨Or.inr rfl, by have h0_ : (1 : Int32).toInt = 1 := (by decide +kernel); omega⟩, ht⟩) (fun q hq => by cases hq) dX8_isWhy_27
  · refine lv_iload_n hx hb dX8_isWhy_6 rfl (lv_at hl 0 rfl) ?_
    refine lv_bipush (v := (-3)) hx hb dX8_isWhy_7 (by decide) ?_
    refine lv_icmp_eq (tgt := 22) hx hb dX8_isWhy_9 (by decide) (fun c_5 => ?_) (fun c_5 => ?_)
    · refine lv_iconst (v := 1) hx hb dX8_isWhy_22 (by decide) ?_
      refine lv_goto (tgt := 27) hx hb dX8_isWhy_23 (by decide) ?_
      have F_6 := fne (rfl : (p0 : Int32).toInt = (p0 : Int32).toInt) (by decide +kernel : ((-2) : Int32).toInt = (-2)) c_1
      have F_7 := feq (rfl : (p0 : Int32).toInt = (p0 : Int32).toInt) (by decide +kernel : ((-3) : Int32).toInt = (-3)) c_5
      have hL_8 : ((-2) : Int32).toInt = (-2) := by decide +kernel
      have hL_9 : ((-3) : Int32).toInt = (-3) := by decide +kernel
      exact W.zret (v := 1) (ty := .boolean) hx hb hr rfl (fun t ht hW => ⟨1, rfl, ⟨Or.inr rfl, by have h0_ : (1 : Int32).toInt = 1 := (by decide +kernel); omega⟩, ht⟩) (fun q hq => by cases hq) dX8_isWhy_27
    · refine lv_iload_n hx hb dX8_isWhy_12 rfl (lv_at hl 0 rfl) ?_
      refine lv_iconst (v := 0) hx hb dX8_isWhy_13 (by decide) ?_
      refine lv_bipush (v := 59) hx hb dX8_isWhy_14 (by decide) ?_
      refine ySri (As := [.int p0, .int 0, .int 59]) (rest := []) C0 (g_X8_within l G S d p0 0 59 ) ok_X8_within (mW193 : Cond.methodLink RX8 71 yX8_within ∈ wsT) ⟨Nat.le_of_ble_eq_true rfl, Nat.le_of_ble_eq_true rfl⟩ hP hD hK hN rfl hl.1 rfl (Nat.le_of_ble_eq_true rfl) ⟨Nat.le_of_ble_eq_true rfl, Nat.le_of_ble_eq_true rfl⟩ dX8_isWhy_16 (fun r_10 hr_10 => ?_)
      have hL_11 : (0 : Int32).toInt = 0 := by decide +kernel
      have hL_12 : (59 : Int32).toInt = 59 := by decide +kernel
      have tr_10 := tw_ hr_10
      refine lv_if_eq (tgt := 26) hx hb dX8_isWhy_19 (by decide) (fun c_13 => ?_) (fun c_13 => ?_)
      · refine lv_iconst (v := 0) hx hb dX8_isWhy_26 (by decide) ?_
        have F_14 := fne (rfl : (p0 : Int32).toInt = (p0 : Int32).toInt) (by decide +kernel : ((-2) : Int32).toInt = (-2)) c_1
        have F_15 := fne (rfl : (p0 : Int32).toInt = (p0 : Int32).toInt) (by decide +kernel : ((-3) : Int32).toInt = (-3)) c_5
        have F_16 := feq (rfl : (r_10 : Int32).toInt = (r_10 : Int32).toInt) (by decide +kernel : (0 : Int32).toInt = 0) c_13
        have hL_17 : ((-2) : Int32).toInt = (-2) := by decide +kernel
        have hL_18 : ((-3) : Int32).toInt = (-3) := by decide +kernel
        exact W.zret (v := 0) (ty := .boolean) hx hb hr rfl (fun t ht hW => ⟨0, rfl, ⟨Or.inl rfl, by have h0_ : (0 : Int32).toInt = 0 := (by decide +kernel); omega⟩, ht⟩) (fun q hq => by cases hq) dX8_isWhy_27
      · refine lv_iconst (v := 1) hx hb dX8_isWhy_22 (by decide) ?_
        refine lv_goto (tgt := 27) hx hb dX8_isWhy_23 (by decide) ?_
        have F_19 := fne (rfl : (p0 : Int32).toInt = (p0 : Int32).toInt) (by decide +kernel : ((-2) : Int32).toInt = (-2)) c_1
        have F_20 := fne (rfl : (p0 : Int32).toInt = (p0 : Int32).toInt) (by decide +kernel : ((-3) : Int32).toInt = (-3)) c_5
        have F_21 := fne (rfl : (r_10 : Int32).toInt = (r_10 : Int32).toInt) (by decide +kernel : (0 : Int32).toInt = 0) c_13
        have hL_22 : ((-2) : Int32).toInt = (-2) := by decide +kernel
        have hL_23 : ((-3) : Int32).toInt = (-3) := by decide +kernel
        exact W.zret (v := 1) (ty := .boolean) hx hb hr rfl (fun t ht hW => ⟨1, rfl, ⟨Or.inr rfl, by have h0_ : (1 : Int32).toInt = 1 := (by decide +kernel); omega⟩, ht⟩) (fun q hq => by cases hq) dX8_isWhy_27
theorem dX8_daysThatFit_0 : decode cX8_daysThatFit 0 = .ok (.aload_n 0, 1) := by decide +kernel
theorem dX8_daysThatFit_1 : decode cX8_daysThatFit 1 = .ok (.getfield 12, 3) := by decide +kernel
theorem dX8_daysThatFit_4 : decode cX8_daysThatFit 4 = .ok (.getfield 136, 3) := by decide +kernel
theorem dX8_daysThatFit_7 : decode cX8_daysThatFit 7 = .ok (.getfield 140, 3) := by decide +kernel
theorem dX8_daysThatFit_10 : decode cX8_daysThatFit 10 = .ok (.istore 6, 2) := by decide +kernel
theorem dX8_daysThatFit_12 : decode cX8_daysThatFit 12 = .ok (.iconst 0, 1) := by decide +kernel
theorem dX8_daysThatFit_13 : decode cX8_daysThatFit 13 = .ok (.istore 7, 2) := by decide +kernel
theorem dX8_daysThatFit_15 : decode cX8_daysThatFit 15 = .ok (.iload 7, 2) := by decide +kernel
theorem dX8_daysThatFit_17 : decode cX8_daysThatFit 17 = .ok (.iload 5, 2) := by decide +kernel
theorem dX8_daysThatFit_19 : decode cX8_daysThatFit 19 = .ok (.if_icmp .ge 75, 3) := by decide +kernel
theorem dX8_daysThatFit_22 : decode cX8_daysThatFit 22 = .ok (.iload 6, 2) := by decide +kernel
theorem dX8_daysThatFit_24 : decode cX8_daysThatFit 24 = .ok (.aload_n 0, 1) := by decide +kernel
theorem dX8_daysThatFit_25 : decode cX8_daysThatFit 25 = .ok (.getfield 12, 3) := by decide +kernel
theorem dX8_daysThatFit_28 : decode cX8_daysThatFit 28 = .ok (.getfield 136, 3) := by decide +kernel
theorem dX8_daysThatFit_31 : decode cX8_daysThatFit 31 = .ok (.iload_n 1, 1) := by decide +kernel
theorem dX8_daysThatFit_32 : decode cX8_daysThatFit 32 = .ok (.iload_n 2, 1) := by decide +kernel
theorem dX8_daysThatFit_33 : decode cX8_daysThatFit 33 = .ok (.iload 7, 2) := by decide +kernel
theorem dX8_daysThatFit_35 : decode cX8_daysThatFit 35 = .ok (.iadd, 1) := by decide +kernel
theorem dX8_daysThatFit_36 : decode cX8_daysThatFit 36 = .ok (.sipush 1440, 3) := by decide +kernel
theorem dX8_daysThatFit_39 : decode cX8_daysThatFit 39 = .ok (.imul, 1) := by decide +kernel
theorem dX8_daysThatFit_40 : decode cX8_daysThatFit 40 = .ok (.sipush 1440, 3) := by decide +kernel
theorem dX8_daysThatFit_43 : decode cX8_daysThatFit 43 = .ok (.invokevirtual 241, 3) := by decide +kernel
theorem dX8_daysThatFit_46 : decode cX8_daysThatFit 46 = .ok (.isub, 1) := by decide +kernel
theorem dX8_daysThatFit_47 : decode cX8_daysThatFit 47 = .ok (.istore 6, 2) := by decide +kernel
theorem dX8_daysThatFit_49 : decode cX8_daysThatFit 49 = .ok (.iload 6, 2) := by decide +kernel
theorem dX8_daysThatFit_51 : decode cX8_daysThatFit 51 = .ok (.aload_n 0, 1) := by decide +kernel
theorem dX8_daysThatFit_52 : decode cX8_daysThatFit 52 = .ok (.getfield 12, 3) := by decide +kernel
theorem dX8_daysThatFit_55 : decode cX8_daysThatFit 55 = .ok (.getfield 136, 3) := by decide +kernel
theorem dX8_daysThatFit_58 : decode cX8_daysThatFit 58 = .ok (.iload_n 3, 1) := by decide +kernel
theorem dX8_daysThatFit_59 : decode cX8_daysThatFit 59 = .ok (.iload 4, 2) := by decide +kernel
theorem dX8_daysThatFit_61 : decode cX8_daysThatFit 61 = .ok (.iload 7, 2) := by decide +kernel
theorem dX8_daysThatFit_63 : decode cX8_daysThatFit 63 = .ok (.iadd, 1) := by decide +kernel
theorem dX8_daysThatFit_64 : decode cX8_daysThatFit 64 = .ok (.sipush 1440, 3) := by decide +kernel
theorem dX8_daysThatFit_67 : decode cX8_daysThatFit 67 = .ok (.imul, 1) := by decide +kernel
theorem dX8_daysThatFit_68 : decode cX8_daysThatFit 68 = .ok (.sipush 1440, 3) := by decide +kernel
theorem dX8_daysThatFit_71 : decode cX8_daysThatFit 71 = .ok (.invokevirtual 241, 3) := by decide +kernel
theorem dX8_daysThatFit_74 : decode cX8_daysThatFit 74 = .ok (.iadd, 1) := by decide +kernel
theorem dX8_daysThatFit_75 : decode cX8_daysThatFit 75 = .ok (.istore 6, 2) := by decide +kernel
theorem dX8_daysThatFit_77 : decode cX8_daysThatFit 77 = .ok (.iload 6, 2) := by decide +kernel
theorem dX8_daysThatFit_79 : decode cX8_daysThatFit 79 = .ok (.sipush 5000, 3) := by decide +kernel
theorem dX8_daysThatFit_82 : decode cX8_daysThatFit 82 = .ok (.if_icmp .le 6, 3) := by decide +kernel
theorem dX8_daysThatFit_85 : decode cX8_daysThatFit 85 = .ok (.iload 7, 2) := by decide +kernel
theorem dX8_daysThatFit_87 : decode cX8_daysThatFit 87 = .ok (.ireturn, 1) := by decide +kernel
theorem dX8_daysThatFit_88 : decode cX8_daysThatFit 88 = .ok (.iinc 7 1, 3) := by decide +kernel
theorem dX8_daysThatFit_91 : decode cX8_daysThatFit 91 = .ok (.goto (-76), 3) := by decide +kernel
theorem dX8_daysThatFit_94 : decode cX8_daysThatFit 94 = .ok (.iload 5, 2) := by decide +kernel
theorem dX8_daysThatFit_96 : decode cX8_daysThatFit 96 = .ok (.ireturn, 1) := by decide +kernel
set_option maxHeartbeats 4000000 in
set_option maxRecDepth 100000 in
theorem g_X8_daysThatFit (l : Launch) (G : xG) (S : yS) (d : yD) (q0 : Nat) (p0 : Int32) (p1 : Int32) (p2 : Int32) (p3 : Int32) (p4 : Int32) (hSh : ySh S) (hm_q0 : q0 ∈ S.1) (hk_q0 : S.2.1 q0 = 8) : xRi l G yX8_daysThatFit cX8_daysThatFit 8 (some .int) 3 72 [.ref q0, .int p0, .int p1, .int p2, .int p3, .int p4] (yW G S d) (fun r => True) := by
  intro sz
  refine xstart (by decide) (Nat.le_of_ble_eq_true rfl) (fun p e s m args below meth c ls C0 hr hlocks hin hsz hP hK hD hN hl => ?_)
  obtain ⟨hx, hb, hml, hown, htl⟩ := id C0
  have hl : lv_has ls 8 [(0, .ref q0), (1, .int p0), (2, .int p1), (3, .int p2), (4, .int p3), (5, .int p4)] := hl
  refine lv_aload_n hx hb dX8_daysThatFit_0 rfl (lv_at hl 0 rfl) ?_
  refine yget (ci := 8) (k := 0) (v := .ref (S.2.2.1 q0 0)) (C := RX8) (T := TX8) (N := 6) C0 hK hP hm_q0 hk_q0 (by decide) rfl inlX8 (by decide) mW16 (fun _ h9 => h9) rfl dX8_daysThatFit_1 ?_
  obtain ⟨hmy_1, hky_1⟩ := ySh.f8_0 hSh _ hm_q0 hk_q0
  refine yget (ci := 0) (k := 1) (v := .ref (S.2.2.1 (S.2.2.1 q0 0) 1)) (C := RX0) (T := TX0) (N := 6) C0 hK hP hmy_1 hky_1 (by decide) rfl inlX0 (by decide) mW316 (fun _ h9 => h9) rfl dX8_daysThatFit_4 ?_
  obtain ⟨hmy_2, hky_2⟩ := ySh.f0_1 hSh _ hmy_1 hky_1
  refine yget (ci := 2) (k := 2) (v := .int (d.1 (S.2.2.1 (S.2.2.1 q0 0) 1) 2)) (C := RX2) (T := TX2) (N := 3) C0 hK hP hmy_2 hky_2 (by decide) rfl inlX2 (by decide) mW399 (fun _ h9 => h9) rfl dX8_daysThatFit_7 ?_
  refine lv_topi (fun z_3 ez_3 => ?_)
  refine lv_istore (lv' := [(6, .int z_3), (0, .ref q0), (1, .int p0), (2, .int p1), (3, .int p2), (4, .int p3), (5, .int p4)]) hx hb dX8_daysThatFit_10 hl (by decide) rfl (fun ls hl => ?_)
  refine lv_iconst (v := 0) hx hb dX8_daysThatFit_12 (by decide) ?_
  refine lv_istore (lv' := [(7, .int 0), (6, .int z_3), (0, .ref q0), (1, .int p0), (2, .int p1), (3, .int p2), (4, .int p3), (5, .int p4)]) hx hb dX8_daysThatFit_13 hl (by decide) rfl (fun ls hl => ?_)
  refine yloopR (σ := Int32 × Int32) (fun x => (2147483647 - (x.2 : Int32).toInt).toNat) 15 (fun x ls => lv_has ls 8 [(7, .int x.2), (6, .int x.1), (0, .ref q0), (1, .int p0), (2, .int p1), (3, .int p2), (4, .int p3), (5, .int p4)]) (fun x ls hl hnext_6 => ?_) (z_3, 0) (lv_sub hl [0, 1, 2, 3, 4, 5, 6, 7] rfl)
  obtain ⟨v_4, v_5⟩ := x
  have hl : lv_has ls 8 [(7, .int v_5), (6, .int v_4), (0, .ref q0), (1, .int p0), (2, .int p1), (3, .int p2), (4, .int p3), (5, .int p4)] := hl
  refine lv_iload hx hb dX8_daysThatFit_15 (lv_at hl 0 rfl) ?_
  refine lv_iload hx hb dX8_daysThatFit_17 (lv_at hl 7 rfl) ?_
  refine lv_icmp_ge (tgt := 94) hx hb dX8_daysThatFit_19 (by decide) (fun c_8 => ?_) (fun c_8 => ?_)
  · refine lv_iload hx hb dX8_daysThatFit_94 (lv_at hl 7 rfl) ?_
    exact W.iret (v := p4) hx hb hr (fun t ht hW => ⟨p4, rfl, trivial, ht⟩) (fun q hq => by cases hq) dX8_daysThatFit_96
  · refine lv_iload hx hb dX8_daysThatFit_22 (lv_at hl 1 rfl) ?_
    refine lv_aload_n hx hb dX8_daysThatFit_24 rfl (lv_at hl 2 rfl) ?_
    refine yget (ci := 8) (k := 0) (v := .ref (S.2.2.1 q0 0)) (C := RX8) (T := TX8) (N := 6) C0 hK hP hm_q0 hk_q0 (by decide) rfl inlX8 (by decide) mW16 (fun _ h9 => h9) rfl dX8_daysThatFit_25 ?_
    refine yget (ci := 0) (k := 1) (v := .ref (S.2.2.1 (S.2.2.1 q0 0) 1)) (C := RX0) (T := TX0) (N := 6) C0 hK hP hmy_1 hky_1 (by decide) rfl inlX0 (by decide) mW316 (fun _ h9 => h9) rfl dX8_daysThatFit_28 ?_
    refine lv_iload_n hx hb dX8_daysThatFit_31 rfl (lv_at hl 3 rfl) ?_
    refine lv_iload_n hx hb dX8_daysThatFit_32 rfl (lv_at hl 4 rfl) ?_
    refine lv_iload hx hb dX8_daysThatFit_33 (lv_at hl 0 rfl) ?_
    refine lv_iadd hx hb dX8_daysThatFit_35 ?_
    refine lv_topi (fun z_9 ez_9 => ?_)
    refine lv_sipush (v := 1440) hx hb dX8_daysThatFit_36 (by decide) ?_
    refine lv_imul hx hb dX8_daysThatFit_39 ?_
    refine lv_topi (fun z_10 ez_10 => ?_)
    refine lv_sipush (v := 1440) hx hb dX8_daysThatFit_40 (by decide) ?_
    refine yVri (As := [.int p0, .int z_10, .int 1440]) (rest := [.int v_4]) C0 (g_X2_manyIn l G S d (S.2.2.1 (S.2.2.1 q0 0) 1) p0 z_10 1440 hSh hmy_2 hky_2) ok_X2_manyIn (mW474 : Cond.methodLink RX8 241 yX2_manyIn ∈ wsT) ⟨Nat.le_of_ble_eq_true rfl, Nat.le_of_ble_eq_true rfl⟩ hP hD hK hN hmy_2 hky_2 (by decide) rfl rfl rfl hl.1 rfl (Nat.le_of_ble_eq_true rfl) ⟨Nat.le_of_ble_eq_true rfl, Nat.le_of_ble_eq_true rfl⟩ dX8_daysThatFit_43 (fun r_11 hr_11 => ?_)
    refine lv_isub hx hb dX8_daysThatFit_46 ?_
    refine lv_topi (fun z_12 ez_12 => ?_)
    refine lv_istore (lv' := [(6, .int z_12), (7, .int v_5), (0, .ref q0), (1, .int p0), (2, .int p1), (3, .int p2), (4, .int p3), (5, .int p4)]) hx hb dX8_daysThatFit_47 hl (by decide) rfl (fun ls hl => ?_)
    refine lv_iload hx hb dX8_daysThatFit_49 (lv_at hl 0 rfl) ?_
    refine lv_aload_n hx hb dX8_daysThatFit_51 rfl (lv_at hl 2 rfl) ?_
    refine yget (ci := 8) (k := 0) (v := .ref (S.2.2.1 q0 0)) (C := RX8) (T := TX8) (N := 6) C0 hK hP hm_q0 hk_q0 (by decide) rfl inlX8 (by decide) mW16 (fun _ h9 => h9) rfl dX8_daysThatFit_52 ?_
    refine yget (ci := 0) (k := 1) (v := .ref (S.2.2.1 (S.2.2.1 q0 0) 1)) (C := RX0) (T := TX0) (N := 6) C0 hK hP hmy_1 hky_1 (by decide) rfl inlX0 (by decide) mW316 (fun _ h9 => h9) rfl dX8_daysThatFit_55 ?_
    refine lv_iload_n hx hb dX8_daysThatFit_58 rfl (lv_at hl 5 rfl) ?_
    refine lv_iload hx hb dX8_daysThatFit_59 (lv_at hl 6 rfl) ?_
    refine lv_iload hx hb dX8_daysThatFit_61 (lv_at hl 1 rfl) ?_
    refine lv_iadd hx hb dX8_daysThatFit_63 ?_
    refine lv_topi (fun z_13 ez_13 => ?_)
    refine lv_sipush (v := 1440) hx hb dX8_daysThatFit_64 (by decide) ?_
    refine lv_imul hx hb dX8_daysThatFit_67 ?_
    refine lv_topi (fun z_14 ez_14 => ?_)
    refine lv_sipush (v := 1440) hx hb dX8_daysThatFit_68 (by decide) ?_
    refine yVri (As := [.int p2, .int z_14, .int 1440]) (rest := [.int z_12]) C0 (g_X2_manyIn l G S d (S.2.2.1 (S.2.2.1 q0 0) 1) p2 z_14 1440 hSh hmy_2 hky_2) ok_X2_manyIn (mW474 : Cond.methodLink RX8 241 yX2_manyIn ∈ wsT) ⟨Nat.le_of_ble_eq_true rfl, Nat.le_of_ble_eq_true rfl⟩ hP hD hK hN hmy_2 hky_2 (by decide) rfl rfl rfl hl.1 rfl (Nat.le_of_ble_eq_true rfl) ⟨Nat.le_of_ble_eq_true rfl, Nat.le_of_ble_eq_true rfl⟩ dX8_daysThatFit_71 (fun r_15 hr_15 => ?_)
    refine lv_iadd hx hb dX8_daysThatFit_74 ?_
    refine lv_topi (fun z_16 ez_16 => ?_)
    refine lv_istore (lv' := [(6, .int z_16), (7, .int v_5), (0, .ref q0), (1, .int p0), (2, .int p1), (3, .int p2), (4, .int p3), (5, .int p4)]) hx hb dX8_daysThatFit_75 hl (by decide) rfl (fun ls hl => ?_)
    refine lv_iload hx hb dX8_daysThatFit_77 (lv_at hl 0 rfl) ?_
    refine lv_sipush (v := 5000) hx hb dX8_daysThatFit_79 (by decide) ?_
    refine lv_icmp_le (tgt := 88) hx hb dX8_daysThatFit_82 (by decide) (fun c_17 => ?_) (fun c_17 => ?_)
    · refine lv_iinc (v := v_5 + 1) (lv' := [(7, .int (v_5 + 1)), (6, .int z_16), (0, .ref q0), (1, .int p0), (2, .int p1), (3, .int p2), (4, .int p3), (5, .int p4)]) hx hb dX8_daysThatFit_88 hl (k := 1) rfl rfl (by decide) rfl (fun ls hl => ?_)
      refine lv_goto (tgt := 15) hx hb dX8_daysThatFit_91 (by decide) ?_
      exact hnext_6 (z_16, v_5 + 1) ls (xup c_8) (lv_sub hl [0, 1, 2, 3, 4, 5, 6, 7] rfl)
    · refine lv_iload hx hb dX8_daysThatFit_85 (lv_at hl 1 rfl) ?_
      exact W.iret (v := v_5) hx hb hr (fun t ht hW => ⟨v_5, rfl, trivial, ht⟩) (fun q hq => by cases hq) dX8_daysThatFit_87
theorem dX8_leave_0 : decode cX8_leave 0 = .ok (.aload_n 0, 1) := by decide +kernel
theorem dX8_leave_1 : decode cX8_leave 1 = .ok (.getfield 12, 3) := by decide +kernel
theorem dX8_leave_4 : decode cX8_leave 4 = .ok (.getfield 136, 3) := by decide +kernel
theorem dX8_leave_7 : decode cX8_leave 7 = .ok (.iload_n 1, 1) := by decide +kernel
theorem dX8_leave_8 : decode cX8_leave 8 = .ok (.iconst 0, 1) := by decide +kernel
theorem dX8_leave_9 : decode cX8_leave 9 = .ok (.ldc 240, 2) := by decide +kernel
theorem dX8_leave_11 : decode cX8_leave 11 = .ok (.invokevirtual 155, 3) := by decide +kernel
theorem dX8_leave_14 : decode cX8_leave 14 = .ok (.pop, 1) := by decide +kernel
theorem dX8_leave_15 : decode cX8_leave 15 = .ok (.aload_n 0, 1) := by decide +kernel
theorem dX8_leave_16 : decode cX8_leave 16 = .ok (.getfield 12, 3) := by decide +kernel
theorem dX8_leave_19 : decode cX8_leave 19 = .ok (.dup, 1) := by decide +kernel
theorem dX8_leave_20 : decode cX8_leave 20 = .ok (.getfield 211, 3) := by decide +kernel
theorem dX8_leave_23 : decode cX8_leave 23 = .ok (.iconst 1, 1) := by decide +kernel
theorem dX8_leave_24 : decode cX8_leave 24 = .ok (.iload_n 1, 1) := by decide +kernel
theorem dX8_leave_25 : decode cX8_leave 25 = .ok (.ishl, 1) := by decide +kernel
theorem dX8_leave_26 : decode cX8_leave 26 = .ok (.iconst (-1), 1) := by decide +kernel
theorem dX8_leave_27 : decode cX8_leave 27 = .ok (.ixor, 1) := by decide +kernel
theorem dX8_leave_28 : decode cX8_leave 28 = .ok (.iand, 1) := by decide +kernel
theorem dX8_leave_29 : decode cX8_leave 29 = .ok (.putfield 211, 3) := by decide +kernel
theorem dX8_leave_32 : decode cX8_leave 32 = .ok (.return_, 1) := by decide +kernel
set_option maxHeartbeats 4000000 in
set_option maxRecDepth 100000 in
theorem g_X8_leave (l : Launch) (G : xG) (S : yS) (d : yD) (q0 : Nat) (p0 : Int32) (hSh : ySh S) (hPo : yPo S d) (hm_q0 : q0 ∈ S.1) (hk_q0 : S.2.1 q0 = 8) : xWv l G yX8_leave cX8_leave 2 none 3 74 0 0 [.ref q0, .int p0] (yW G S d) (fun u : yD => yAg S [0, 2, 16] d u ∧ (yPo S d → yPo S u) ∧ (True)) (fun u => yW G S u) := by
  intro sz
  refine xstart (by decide) (Nat.le_of_ble_eq_true rfl) (fun p e s m args below meth c ls C0 hr hlocks hin hsz hP hK hD hN hl => ?_)
  obtain ⟨hx, hb, hml, hown, htl⟩ := id C0
  subst hsz
  have hD := hD.self (sz := s.heap.size)
  generalize hAe : va_A (yW G S d) s.heap.size = A at hD ⊢
  have hA : ∀ q : Nat, s.heap.size ≤ q → A q := fun q h => by rw [← hAe]; exact Or.inr h
  have hS : va_S A s.heap s.heap [] := va_S.rf
  have hg0 : yAg S [0, 2, 16] d d := yAg.rf
  have hl : lv_has ls 2 [(0, .ref q0), (1, .int p0)] := hl
  refine lv_aload_n hx hb dX8_leave_0 rfl (lv_at hl 0 rfl) ?_
  refine yget (ci := 8) (k := 0) (v := .ref (S.2.2.1 q0 0)) (C := RX8) (T := TX8) (N := 6) C0 hK hP hm_q0 hk_q0 (by decide) rfl inlX8 (by decide) mW16 (fun _ h9 => h9) rfl dX8_leave_1 ?_
  obtain ⟨hmy_1, hky_1⟩ := ySh.f8_0 hSh _ hm_q0 hk_q0
  refine yget (ci := 0) (k := 1) (v := .ref (S.2.2.1 (S.2.2.1 q0 0) 1)) (C := RX0) (T := TX0) (N := 6) C0 hK hP hmy_1 hky_1 (by decide) rfl inlX0 (by decide) mW316 (fun _ h9 => h9) rfl dX8_leave_4 ?_
  obtain ⟨hmy_2, hky_2⟩ := ySh.f0_1 hSh _ hmy_1 hky_1
  refine lv_iload_n hx hb dX8_leave_7 rfl (lv_at hl 1 rfl) ?_
  refine lv_iconst (v := 0) hx hb dX8_leave_8 (by decide) ?_
  refine lv_ldc (v := 129600) hx hb hown (htl (.constant RX8 240 (129600)) mW209) dX8_leave_9 ?_
  refine yVwi (As := [.int p0, .int 0, .int 129600]) (rest := []) C0 (g_X2_remove l G S d (S.2.2.1 (S.2.2.1 q0 0) 1) p0 0 129600 hSh hPo hmy_2 hky_2) ok_X2_remove (mW318 : Cond.methodLink RX8 155 yX2_remove ∈ wsT) ⟨Nat.le_of_ble_eq_true rfl, Nat.le_of_ble_eq_true rfl⟩ hP hD hS hA hK hN hmy_2 hky_2 (by decide) rfl rfl rfl hl.1 rfl (Nat.le_of_ble_eq_true rfl) ⟨Nat.le_of_ble_eq_true rfl, Nat.le_of_ble_eq_true rfl⟩ dX8_leave_11 (fun r_3 d_4 H locs hr_3 hP hD hS => ?_)
  obtain ⟨hgad_4, hpad_4, hxd_4⟩ := hr_3
  have hgd_4 : yAg S [0, 2, 16] d d_4 := yAg.tr hg0 hgad_4 (by first | decide | exact fun _ h => h)
  have hPod_4 : yPo S d_4 := hpad_4 hPo
  refine lv_pop hx hb dX8_leave_14 rfl ?_
  refine lv_aload_n hx hb dX8_leave_15 rfl (lv_at hl 0 rfl) ?_
  refine yget (ci := 8) (k := 0) (v := .ref (S.2.2.1 q0 0)) (C := RX8) (T := TX8) (N := 6) C0 hK hP hm_q0 hk_q0 (by decide) rfl inlX8 (by decide) mW16 (fun _ h9 => h9) rfl dX8_leave_16 ?_
  refine lv_dup hx hb dX8_leave_19 rfl ?_
  refine yget (ci := 0) (k := 5) (v := .int (d_4.1 (S.2.2.1 q0 0) 5)) (C := RX0) (T := TX0) (N := 6) C0 hK hP hmy_1 hky_1 (by decide) rfl inlX0 (by decide) mW317 (fun _ h9 => h9) rfl dX8_leave_20 ?_
  refine lv_topi (fun z_5 ez_5 => ?_)
  refine lv_iconst (v := 1) hx hb dX8_leave_23 (by decide) ?_
  refine lv_iload_n hx hb dX8_leave_24 rfl (lv_at hl 1 rfl) ?_
  refine lv_ishl hx hb dX8_leave_25 ?_
  refine lv_topi (fun z_6 ez_6 => ?_)
  refine lv_iconst (v := (-1)) hx hb dX8_leave_26 (by decide) ?_
  refine lv_ixor hx hb dX8_leave_27 ?_
  refine lv_topi (fun z_7 ez_7 => ?_)
  refine lv_iand hx hb dX8_leave_28 ?_
  refine lv_topi (fun z_8 ez_8 => ?_)
  refine yputI (ci := 0) (k := 5) (ty := .int) (C := RX0) (T := TX0) (N := 6) C0 hK hP hD hS hmy_1 hky_1 (by decide) rfl inlX0 tyX0 tyX0_ok nmX0 (by decide) mW317 (fun _ h9 => h9) rfl (by decide +kernel) rfl rfl (Nat.le_of_ble_eq_true rfl) ysi_0_5 dX8_leave_29 (fun H locs hP hD hS => ?_)
  obtain ⟨d_9, ed_9⟩ : ∃ z : yD, z = yi d_4 (S.2.2.1 q0 0) 5 z_8 := ⟨_, rfl⟩
  rw [← ed_9] at hP hD
  have hgd_9 : yAg S [0, 2, 16] d d_9 := by rw [ed_9]; exact yAg.i hgd_4 (by rw [hky_1]; decide)
  have hPod_9 : yPo S d_9 := by rw [ed_9]; exact yPo.i hPod_4 hky_1 (Or.inl rfl)
  exact W.vret hx hb hr (fun t ht hW => ⟨⟨d_9, rfl, ⟨hgd_9, (fun _ => hPod_9), trivial⟩, by rw [ht]; exact hP, hD⟩, hS.F ht⟩) hS.2.2 dX8_leave_32
theorem dX8_term_0 : decode cX8_term 0 = .ok (.aload_n 0, 1) := by decide +kernel
theorem dX8_term_1 : decode cX8_term 1 = .ok (.aload_n 0, 1) := by decide +kernel
theorem dX8_term_2 : decode cX8_term 2 = .ok (.iload_n 1, 1) := by decide +kernel
theorem dX8_term_3 : decode cX8_term 3 = .ok (.iload_n 2, 1) := by decide +kernel
theorem dX8_term_4 : decode cX8_term 4 = .ok (.invokevirtual 46, 3) := by decide +kernel
theorem dX8_term_7 : decode cX8_term 7 = .ok (.iload_n 3, 1) := by decide +kernel
theorem dX8_term_8 : decode cX8_term 8 = .ok (.iload 4, 2) := by decide +kernel
theorem dX8_term_10 : decode cX8_term 10 = .ok (.iload 5, 2) := by decide +kernel
theorem dX8_term_12 : decode cX8_term 12 = .ok (.iload 6, 2) := by decide +kernel
theorem dX8_term_14 : decode cX8_term 14 = .ok (.invokestatic 50, 3) := by decide +kernel
theorem dX8_term_17 : decode cX8_term 17 = .ok (.invokestatic 54, 3) := by decide +kernel
theorem dX8_term_20 : decode cX8_term 20 = .ok (.invokestatic 58, 3) := by decide +kernel
theorem dX8_term_23 : decode cX8_term 23 = .ok (.invokevirtual 42, 3) := by decide +kernel
theorem dX8_term_26 : decode cX8_term 26 = .ok (.ifCond .eq 5, 3) := by decide +kernel
theorem dX8_term_29 : decode cX8_term 29 = .ok (.iconst 0, 1) := by decide +kernel
theorem dX8_term_30 : decode cX8_term 30 = .ok (.ireturn, 1) := by decide +kernel
theorem dX8_term_31 : decode cX8_term 31 = .ok (.aload_n 0, 1) := by decide +kernel
theorem dX8_term_32 : decode cX8_term 32 = .ok (.getfield 12, 3) := by decide +kernel
theorem dX8_term_35 : decode cX8_term 35 = .ok (.getfield 32, 3) := by decide +kernel
theorem dX8_term_38 : decode cX8_term 38 = .ok (.iload_n 1, 1) := by decide +kernel
theorem dX8_term_39 : decode cX8_term 39 = .ok (.iload_n 2, 1) := by decide +kernel
theorem dX8_term_40 : decode cX8_term 40 = .ok (.invokestatic 61, 3) := by decide +kernel
theorem dX8_term_43 : decode cX8_term 43 = .ok (.iload_n 3, 1) := by decide +kernel
theorem dX8_term_44 : decode cX8_term 44 = .ok (.iload 4, 2) := by decide +kernel
theorem dX8_term_46 : decode cX8_term 46 = .ok (.iload 5, 2) := by decide +kernel
theorem dX8_term_48 : decode cX8_term 48 = .ok (.iload 6, 2) := by decide +kernel
theorem dX8_term_50 : decode cX8_term 50 = .ok (.invokevirtual 64, 3) := by decide +kernel
theorem dX8_term_53 : decode cX8_term 53 = .ok (.iconst 1, 1) := by decide +kernel
theorem dX8_term_54 : decode cX8_term 54 = .ok (.ireturn, 1) := by decide +kernel
set_option maxHeartbeats 4000000 in
set_option maxRecDepth 100000 in
theorem g_X8_term (l : Launch) (G : xG) (S : yS) (d : yD) (q0 : Nat) (p0 : Int32) (p1 : Int32) (p2 : Int32) (p3 : Int32) (p4 : Int32) (p5 : Int32) (hSh : ySh S) (hPo : yPo S d) (hm_q0 : q0 ∈ S.1) (hk_q0 : S.2.1 q0 = 8) : xWi l G yX8_term cX8_term 7 (some .boolean) 3 65 0 0 [.ref q0, .int p0, .int p1, .int p2, .int p3, .int p4, .int p5] (yW G S d) (fun r (u : yD) => yAg S [8, 10, 11, 12, 13, 14, 15, 24] d u ∧ (yPo S d → yPo S u) ∧ (((r.toInt = 0 ∧ ¬ (((0 ≤ p0.toInt ∧ p0.toInt ≤ 39 ∧ p0.toInt < (d.1 (S.2.2.1 (S.2.2.1 q0 0) 0) 6).toInt) ∧ 0 ≤ p1.toInt ∧ p1.toInt ≤ 59) ∧ (0 ≤ p2.toInt ∧ p2.toInt ≤ 4 ∧ 0 ≤ p3.toInt ∧ p3.toInt ≤ 4 ∧ (p3.toInt = 1 → 0 ≤ p4.toInt ∧ p4.toInt ≤ 1440 ∧ 0 ≤ p5.toInt ∧ p5.toInt ≤ 1440) ∧ (p3.toInt = 3 → 0 ≤ p4.toInt ∧ p4.toInt ≤ 4) ∧ (p3.toInt = 4 → 0 ≤ p4.toInt ∧ p4.toInt ≤ 129600 ∧ 0 ≤ p5.toInt ∧ p5.toInt ≤ 129600))) ∧ zTm S d u (S.2.2.1 (S.2.2.1 q0 0) 0) (fun i => d.2.2.2.1 (S.2.2.1 (S.2.2.1 (S.2.2.1 q0 0) 0) i))) ∨ (r.toInt = 1 ∧ (((0 ≤ p0.toInt ∧ p0.toInt ≤ 39 ∧ p0.toInt < (d.1 (S.2.2.1 (S.2.2.1 q0 0) 0) 6).toInt) ∧ 0 ≤ p1.toInt ∧ p1.toInt ≤ 59) ∧ (0 ≤ p2.toInt ∧ p2.toInt ≤ 4 ∧ 0 ≤ p3.toInt ∧ p3.toInt ≤ 4 ∧ (p3.toInt = 1 → 0 ≤ p4.toInt ∧ p4.toInt ≤ 1440 ∧ 0 ≤ p5.toInt ∧ p5.toInt ≤ 1440) ∧ (p3.toInt = 3 → 0 ≤ p4.toInt ∧ p4.toInt ≤ 4) ∧ (p3.toInt = 4 → 0 ≤ p4.toInt ∧ p4.toInt ≤ 129600 ∧ 0 ≤ p5.toInt ∧ p5.toInt ≤ 129600))) ∧ zTm S d u (S.2.2.1 (S.2.2.1 q0 0) 0) (fun i => xput 2402 (d.2.2.2.1 (S.2.2.1 (S.2.2.1 (S.2.2.1 q0 0) 0) i)) (p0 * 60 + p1) (([p2, p3, p4, p5, 0, 0] : List Int32).getD i 0)))) ∧ u.1 q0 4 = d.1 q0 4)) (fun u => yW G S u) := by
  intro sz
  refine xstart (by decide) (Nat.le_of_ble_eq_true rfl) (fun p e s m args below meth c ls C0 hr hlocks hin hsz hP hK hD hN hl => ?_)
  obtain ⟨hx, hb, hml, hown, htl⟩ := id C0
  subst hsz
  have hD := hD.self (sz := s.heap.size)
  generalize hAe : va_A (yW G S d) s.heap.size = A at hD ⊢
  have hA : ∀ q : Nat, s.heap.size ≤ q → A q := fun q h => by rw [← hAe]; exact Or.inr h
  have hS : va_S A s.heap s.heap [] := va_S.rf
  have hg0 : yAg S [8, 10, 11, 12, 13, 14, 15, 24] d d := yAg.rf
  have hl : lv_has ls 7 [(0, .ref q0), (1, .int p0), (2, .int p1), (3, .int p2), (4, .int p3), (5, .int p4), (6, .int p5)] := hl
  refine lv_aload_n hx hb dX8_term_0 rfl (lv_at hl 0 rfl) ?_
  refine lv_aload_n hx hb dX8_term_1 rfl (lv_at hl 0 rfl) ?_
  refine lv_iload_n hx hb dX8_term_2 rfl (lv_at hl 1 rfl) ?_
  refine lv_iload_n hx hb dX8_term_3 rfl (lv_at hl 2 rfl) ?_
  refine yVri (As := [.int p0, .int p1]) (rest := [.ref q0]) C0 (g_X8_placeReason l G S d q0 p0 p1 hSh hm_q0 hk_q0) ok_X8_placeReason (mW185 : Cond.methodLink RX8 46 yX8_placeReason ∈ wsT) ⟨Nat.le_of_ble_eq_true rfl, Nat.le_of_ble_eq_true rfl⟩ hP hD hK hN hm_q0 hk_q0 (by decide) rfl rfl rfl hl.1 rfl (Nat.le_of_ble_eq_true rfl) ⟨Nat.le_of_ble_eq_true rfl, Nat.le_of_ble_eq_true rfl⟩ dX8_term_4 (fun r_1 hr_1 => ?_)
  have tr_1 := txr_ hr_1
  refine lv_iload_n hx hb dX8_term_7 rfl (lv_at hl 3 rfl) ?_
  refine lv_iload hx hb dX8_term_8 (lv_at hl 4 rfl) ?_
  refine lv_iload hx hb dX8_term_10 (lv_at hl 5 rfl) ?_
  refine lv_iload hx hb dX8_term_12 (lv_at hl 6 rfl) ?_
  refine ySri (As := [.int p2, .int p3, .int p4, .int p5]) (rest := [.int r_1, .ref q0]) C0 (g_X8_isTerm l G S d p2 p3 p4 p5 ) ok_X8_isTerm (mW206 : Cond.methodLink RX8 50 yX8_isTerm ∈ wsT) ⟨Nat.le_of_ble_eq_true rfl, Nat.le_of_ble_eq_true rfl⟩ hP hD hK hN rfl hl.1 rfl (Nat.le_of_ble_eq_true rfl) ⟨Nat.le_of_ble_eq_true rfl, Nat.le_of_ble_eq_true rfl⟩ dX8_term_14 (fun r_2 hr_2 => ?_)
  refine ySri (As := [.int r_2]) (rest := [.int r_1, .ref q0]) C0 (g_X8_number l G S d r_2 ) ok_X8_number (mW196 : Cond.methodLink RX8 54 yX8_number ∈ wsT) ⟨Nat.le_of_ble_eq_true rfl, Nat.le_of_ble_eq_true rfl⟩ hP hD hK hN rfl hl.1 rfl (Nat.le_of_ble_eq_true rfl) ⟨Nat.le_of_ble_eq_true rfl, Nat.le_of_ble_eq_true rfl⟩ dX8_term_17 (fun r_3 hr_3 => ?_)
  have tr_3 := tn_ hr_3
  refine ySri (As := [.int r_1, .int r_3]) (rest := [.ref q0]) C0 (g_X8_least l G S d r_1 r_3 ) ok_X8_least (mW199 : Cond.methodLink RX8 58 yX8_least ∈ wsT) ⟨Nat.le_of_ble_eq_true rfl, Nat.le_of_ble_eq_true rfl⟩ hP hD hK hN rfl hl.1 rfl (Nat.le_of_ble_eq_true rfl) ⟨Nat.le_of_ble_eq_true rfl, Nat.le_of_ble_eq_true rfl⟩ dX8_term_20 (fun r_4 hr_4 => ?_)
  have tr_4 := tl_ hr_4
  refine yVwi (As := [.int r_4]) (rest := []) C0 (g_X8_refused l G S d q0 r_4 hSh hPo hm_q0 hk_q0) ok_X8_refused (mW160 : Cond.methodLink RX8 42 yX8_refused ∈ wsT) ⟨Nat.le_of_ble_eq_true rfl, Nat.le_of_ble_eq_true rfl⟩ hP hD hS hA hK hN hm_q0 hk_q0 (by decide) rfl rfl rfl hl.1 rfl (Nat.le_of_ble_eq_true rfl) ⟨Nat.le_of_ble_eq_true rfl, Nat.le_of_ble_eq_true rfl⟩ dX8_term_23 (fun r_5 d_6 H locs hr_5 hP hD hS => ?_)
  obtain ⟨hgad_6, hpad_6, hxd_6⟩ := hr_5
  have hgd_6 : yAg S [8, 10, 11, 12, 13, 14, 15, 24] d d_6 := yAg.tr hg0 hgad_6 (by first | decide | exact fun _ h => h)
  have hPod_6 : yPo S d_6 := hpad_6 hPo
  have tr_5 := tr_ hxd_6.1
  refine lv_if_eq (tgt := 31) hx hb dX8_term_26 (by decide) (fun c_7 => ?_) (fun c_7 => ?_)
  · refine lv_aload_n hx hb dX8_term_31 rfl (lv_at hl 0 rfl) ?_
    refine yget (ci := 8) (k := 0) (v := .ref (S.2.2.1 q0 0)) (C := RX8) (T := TX8) (N := 6) C0 hK hP hm_q0 hk_q0 (by decide) rfl inlX8 (by decide) mW16 (fun _ h9 => h9) rfl dX8_term_32 ?_
    obtain ⟨hmy_8, hky_8⟩ := ySh.f8_0 hSh _ hm_q0 hk_q0
    refine yget (ci := 0) (k := 0) (v := .ref (S.2.2.1 (S.2.2.1 q0 0) 0)) (C := RX0) (T := TX0) (N := 6) C0 hK hP hmy_8 hky_8 (by decide) rfl inlX0 (by decide) mW158 (fun _ h9 => h9) rfl dX8_term_35 ?_
    obtain ⟨hmy_9, hky_9⟩ := ySh.f0_0 hSh _ hmy_8 hky_8
    refine lv_iload_n hx hb dX8_term_38 rfl (lv_at hl 1 rfl) ?_
    refine lv_iload_n hx hb dX8_term_39 rfl (lv_at hl 2 rfl) ?_
    refine ySri (As := [.int p0, .int p1]) (rest := [.ref (S.2.2.1 (S.2.2.1 q0 0) 0)]) C0 (g_X8_rowOf l G S d_6 p0 p1 ) ok_X8_rowOf (mW210 : Cond.methodLink RX8 61 yX8_rowOf ∈ wsT) ⟨Nat.le_of_ble_eq_true rfl, Nat.le_of_ble_eq_true rfl⟩ hP hD hK hN rfl hl.1 rfl (Nat.le_of_ble_eq_true rfl) ⟨Nat.le_of_ble_eq_true rfl, Nat.le_of_ble_eq_true rfl⟩ dX8_term_40 (fun r_10 hr_10 => ?_)
    refine lv_iload_n hx hb dX8_term_43 rfl (lv_at hl 3 rfl) ?_
    refine lv_iload hx hb dX8_term_44 (lv_at hl 4 rfl) ?_
    refine lv_iload hx hb dX8_term_46 (lv_at hl 5 rfl) ?_
    refine lv_iload hx hb dX8_term_48 (lv_at hl 6 rfl) ?_
    refine yVwv (As := [.int r_10, .int p2, .int p3, .int p4, .int p5]) (rest := []) C0 (g_X6_write l G S d_6 (S.2.2.1 (S.2.2.1 q0 0) 0) r_10 p2 p3 p4 p5 hSh hPod_6 hmy_9 hky_9) ok_X6_write (mW213 : Cond.methodLink RX8 64 yX6_write ∈ wsT) ⟨Nat.le_of_ble_eq_true rfl, Nat.le_of_ble_eq_true rfl⟩ hP hD hS hA hK hN hmy_9 hky_9 (by decide) rfl rfl rfl hl.1 rfl (Nat.le_of_ble_eq_true rfl) ⟨Nat.le_of_ble_eq_true rfl, Nat.le_of_ble_eq_true rfl⟩ dX8_term_50 (fun d_12 H locs hr_11 hP hD hS => ?_)
    obtain ⟨hgad_12, hpad_12, hxd_12⟩ := hr_11
    have hgd_12 : yAg S [8, 10, 11, 12, 13, 14, 15, 24] d d_12 := yAg.tr hgd_6 hgad_12 (by first | decide | exact fun _ h => h)
    have hPod_12 : yPo S d_12 := hpad_12 hPod_6
    refine lv_iconst (v := 1) hx hb dX8_term_53 (by decide) ?_
    have F_13 := feq (rfl : (r_5 : Int32).toInt = (r_5 : Int32).toInt) (by decide +kernel : (0 : Int32).toInt = 0) c_7
    exact W.zret (v := 1) (ty := .boolean) hx hb hr rfl (fun t ht hW => ⟨⟨1, d_12, rfl, ⟨hgd_12, (fun _ => hPod_12), ⟨Or.inr ⟨by have h0_ : (1 : Int32).toInt = 1 := (by decide +kernel); omega, by omega, (zTm.cg (zTm.tr (zTm.ag zTm.rf hSh hmy_9 hky_9 hgad_6 (by decide)) hxd_12) (fun i hi => by rw [((zTm.ag zTm.rf hSh hmy_9 hky_9 hgad_6 (by decide))).1 i hi, hr_10]))⟩, ((congrFun (hgad_12 q0 (by rw [hk_q0]; decide)).1 4).trans (hxd_6.2))⟩⟩, by rw [ht]; exact hP, hD⟩, hS.F ht⟩) hS.2.2 dX8_term_54
  · refine lv_iconst (v := 0) hx hb dX8_term_29 (by decide) ?_
    have F_14 := fne (rfl : (r_5 : Int32).toInt = (r_5 : Int32).toInt) (by decide +kernel : (0 : Int32).toInt = 0) c_7
    obtain ⟨hmy_15, hky_15⟩ := ySh.f8_0 hSh _ hm_q0 hk_q0
    obtain ⟨hmy_16, hky_16⟩ := ySh.f0_0 hSh _ hmy_15 hky_15
    exact W.zret (v := 0) (ty := .boolean) hx hb hr rfl (fun t ht hW => ⟨⟨0, d_6, rfl, ⟨hgd_6, (fun _ => hPod_6), ⟨Or.inl ⟨by have h0_ : (0 : Int32).toInt = 0 := (by decide +kernel); omega, by omega, (zTm.ag zTm.rf hSh hmy_16 hky_16 hgad_6 (by decide))⟩, (hxd_6.2)⟩⟩, by rw [ht]; exact hP, hD⟩, hS.F ht⟩) hS.2.2 dX8_term_30
theorem dX8_yields_0 : decode cX8_yields 0 = .ok (.aload_n 0, 1) := by decide +kernel
theorem dX8_yields_1 : decode cX8_yields 1 = .ok (.aload_n 0, 1) := by decide +kernel
theorem dX8_yields_2 : decode cX8_yields 2 = .ok (.iload_n 1, 1) := by decide +kernel
theorem dX8_yields_3 : decode cX8_yields 3 = .ok (.iload_n 2, 1) := by decide +kernel
theorem dX8_yields_4 : decode cX8_yields 4 = .ok (.invokevirtual 68, 3) := by decide +kernel
theorem dX8_yields_7 : decode cX8_yields 7 = .ok (.iload_n 3, 1) := by decide +kernel
theorem dX8_yields_8 : decode cX8_yields 8 = .ok (.iconst 0, 1) := by decide +kernel
theorem dX8_yields_9 : decode cX8_yields 9 = .ok (.bipush 31, 2) := by decide +kernel
theorem dX8_yields_11 : decode cX8_yields 11 = .ok (.invokestatic 71, 3) := by decide +kernel
theorem dX8_yields_14 : decode cX8_yields 14 = .ok (.invokestatic 54, 3) := by decide +kernel
theorem dX8_yields_17 : decode cX8_yields 17 = .ok (.invokestatic 58, 3) := by decide +kernel
theorem dX8_yields_20 : decode cX8_yields 20 = .ok (.invokevirtual 42, 3) := by decide +kernel
theorem dX8_yields_23 : decode cX8_yields 23 = .ok (.ifCond .eq 5, 3) := by decide +kernel
theorem dX8_yields_26 : decode cX8_yields 26 = .ok (.iconst (-1), 1) := by decide +kernel
theorem dX8_yields_27 : decode cX8_yields 27 = .ok (.ireturn, 1) := by decide +kernel
theorem dX8_yields_28 : decode cX8_yields 28 = .ok (.aload_n 0, 1) := by decide +kernel
theorem dX8_yields_29 : decode cX8_yields 29 = .ok (.getfield 12, 3) := by decide +kernel
theorem dX8_yields_32 : decode cX8_yields 32 = .ok (.getfield 32, 3) := by decide +kernel
theorem dX8_yields_35 : decode cX8_yields 35 = .ok (.getfield 75, 3) := by decide +kernel
theorem dX8_yields_38 : decode cX8_yields 38 = .ok (.iload_n 1, 1) := by decide +kernel
theorem dX8_yields_39 : decode cX8_yields 39 = .ok (.iload_n 2, 1) := by decide +kernel
theorem dX8_yields_40 : decode cX8_yields 40 = .ok (.invokestatic 61, 3) := by decide +kernel
theorem dX8_yields_43 : decode cX8_yields 43 = .ok (.invokestatic 78, 3) := by decide +kernel
theorem dX8_yields_46 : decode cX8_yields 46 = .ok (.istore 4, 2) := by decide +kernel
theorem dX8_yields_48 : decode cX8_yields 48 = .ok (.aload_n 0, 1) := by decide +kernel
theorem dX8_yields_49 : decode cX8_yields 49 = .ok (.getfield 12, 3) := by decide +kernel
theorem dX8_yields_52 : decode cX8_yields 52 = .ok (.getfield 32, 3) := by decide +kernel
theorem dX8_yields_55 : decode cX8_yields 55 = .ok (.getfield 75, 3) := by decide +kernel
theorem dX8_yields_58 : decode cX8_yields 58 = .ok (.iload_n 1, 1) := by decide +kernel
theorem dX8_yields_59 : decode cX8_yields 59 = .ok (.iload_n 2, 1) := by decide +kernel
theorem dX8_yields_60 : decode cX8_yields 60 = .ok (.invokestatic 61, 3) := by decide +kernel
theorem dX8_yields_63 : decode cX8_yields 63 = .ok (.iload_n 3, 1) := by decide +kernel
theorem dX8_yields_64 : decode cX8_yields 64 = .ok (.invokestatic 82, 3) := by decide +kernel
theorem dX8_yields_67 : decode cX8_yields 67 = .ok (.iload 4, 2) := by decide +kernel
theorem dX8_yields_69 : decode cX8_yields 69 = .ok (.ireturn, 1) := by decide +kernel
set_option maxHeartbeats 4000000 in
set_option maxRecDepth 100000 in
theorem g_X8_yields (l : Launch) (G : xG) (S : yS) (d : yD) (q0 : Nat) (p0 : Int32) (p1 : Int32) (p2 : Int32) (hSh : ySh S) (hPo : yPo S d) (hm_q0 : q0 ∈ S.1) (hk_q0 : S.2.1 q0 = 8) : xWi l G yX8_yields cX8_yields 5 (some .int) 5 111 0 0 [.ref q0, .int p0, .int p1, .int p2] (yW G S d) (fun r (u : yD) => yAg S [8, 14, 24] d u ∧ (yPo S d → yPo S u) ∧ (((r.toInt = -1 ∧ ¬ ((((0 ≤ p0.toInt ∧ p0.toInt ≤ 39 ∧ p0.toInt < (d.1 (S.2.2.1 (S.2.2.1 q0 0) 0) 6).toInt) ∧ 0 ≤ p1.toInt ∧ p1.toInt ≤ 59) ∧ (xat 2402 (d.2.2.2.1 (S.2.2.1 (S.2.2.1 (S.2.2.1 q0 0) 0) 0)) (p0 * 60 + p1)).toInt ≠ 6 ∧ (xat 2402 (d.2.2.2.1 (S.2.2.1 (S.2.2.1 (S.2.2.1 q0 0) 0) 0)) (p0 * 60 + p1)).toInt ≠ 5) ∧ 0 ≤ p2.toInt ∧ p2.toInt ≤ 31) ∧ zTm S d u (S.2.2.1 (S.2.2.1 q0 0) 0) (fun i => d.2.2.2.1 (S.2.2.1 (S.2.2.1 (S.2.2.1 q0 0) 0) i))) ∨ (((((0 ≤ p0.toInt ∧ p0.toInt ≤ 39 ∧ p0.toInt < (d.1 (S.2.2.1 (S.2.2.1 q0 0) 0) 6).toInt) ∧ 0 ≤ p1.toInt ∧ p1.toInt ≤ 59) ∧ (xat 2402 (d.2.2.2.1 (S.2.2.1 (S.2.2.1 (S.2.2.1 q0 0) 0) 0)) (p0 * 60 + p1)).toInt ≠ 6 ∧ (xat 2402 (d.2.2.2.1 (S.2.2.1 (S.2.2.1 (S.2.2.1 q0 0) 0) 0)) (p0 * 60 + p1)).toInt ≠ 5) ∧ 0 ≤ p2.toInt ∧ p2.toInt ≤ 31) ∧ r = xat 2402 (d.2.2.2.1 (S.2.2.1 (S.2.2.1 (S.2.2.1 q0 0) 0) 4)) (p0 * 60 + p1) ∧ zTm S d u (S.2.2.1 (S.2.2.1 q0 0) 0) (fun i => if i = 4 then xput 2402 (d.2.2.2.1 (S.2.2.1 (S.2.2.1 (S.2.2.1 q0 0) 0) 4)) (p0 * 60 + p1) p2 else d.2.2.2.1 (S.2.2.1 (S.2.2.1 (S.2.2.1 q0 0) 0) i)))) ∧ u.1 q0 4 = d.1 q0 4)) (fun u => yW G S u) := by
  intro sz
  refine xstart (by decide) (Nat.le_of_ble_eq_true rfl) (fun p e s m args below meth c ls C0 hr hlocks hin hsz hP hK hD hN hl => ?_)
  obtain ⟨hx, hb, hml, hown, htl⟩ := id C0
  subst hsz
  have hD := hD.self (sz := s.heap.size)
  generalize hAe : va_A (yW G S d) s.heap.size = A at hD ⊢
  have hA : ∀ q : Nat, s.heap.size ≤ q → A q := fun q h => by rw [← hAe]; exact Or.inr h
  have hS : va_S A s.heap s.heap [] := va_S.rf
  have hg0 : yAg S [8, 14, 24] d d := yAg.rf
  have hl : lv_has ls 5 [(0, .ref q0), (1, .int p0), (2, .int p1), (3, .int p2)] := hl
  refine lv_aload_n hx hb dX8_yields_0 rfl (lv_at hl 0 rfl) ?_
  refine lv_aload_n hx hb dX8_yields_1 rfl (lv_at hl 0 rfl) ?_
  refine lv_iload_n hx hb dX8_yields_2 rfl (lv_at hl 1 rfl) ?_
  refine lv_iload_n hx hb dX8_yields_3 rfl (lv_at hl 2 rfl) ?_
  refine yVri (As := [.int p0, .int p1]) (rest := [.ref q0]) C0 (g_X8_termReason l G S d q0 p0 p1 hSh hm_q0 hk_q0) ok_X8_termReason (mW235 : Cond.methodLink RX8 68 yX8_termReason ∈ wsT) ⟨Nat.le_of_ble_eq_true rfl, Nat.le_of_ble_eq_true rfl⟩ hP hD hK hN hm_q0 hk_q0 (by decide) rfl rfl rfl hl.1 rfl (Nat.le_of_ble_eq_true rfl) ⟨Nat.le_of_ble_eq_true rfl, Nat.le_of_ble_eq_true rfl⟩ dX8_yields_4 (fun r_1 hr_1 => ?_)
  have tr_1 := txt_ hr_1
  refine lv_iload_n hx hb dX8_yields_7 rfl (lv_at hl 3 rfl) ?_
  refine lv_iconst (v := 0) hx hb dX8_yields_8 (by decide) ?_
  refine lv_bipush (v := 31) hx hb dX8_yields_9 (by decide) ?_
  refine ySri (As := [.int p2, .int 0, .int 31]) (rest := [.int r_1, .ref q0]) C0 (g_X8_within l G S d p2 0 31 ) ok_X8_within (mW193 : Cond.methodLink RX8 71 yX8_within ∈ wsT) ⟨Nat.le_of_ble_eq_true rfl, Nat.le_of_ble_eq_true rfl⟩ hP hD hK hN rfl hl.1 rfl (Nat.le_of_ble_eq_true rfl) ⟨Nat.le_of_ble_eq_true rfl, Nat.le_of_ble_eq_true rfl⟩ dX8_yields_11 (fun r_2 hr_2 => ?_)
  have hL_3 : (0 : Int32).toInt = 0 := by decide +kernel
  have hL_4 : (31 : Int32).toInt = 31 := by decide +kernel
  have tr_2 := tw_ hr_2
  refine ySri (As := [.int r_2]) (rest := [.int r_1, .ref q0]) C0 (g_X8_number l G S d r_2 ) ok_X8_number (mW196 : Cond.methodLink RX8 54 yX8_number ∈ wsT) ⟨Nat.le_of_ble_eq_true rfl, Nat.le_of_ble_eq_true rfl⟩ hP hD hK hN rfl hl.1 rfl (Nat.le_of_ble_eq_true rfl) ⟨Nat.le_of_ble_eq_true rfl, Nat.le_of_ble_eq_true rfl⟩ dX8_yields_14 (fun r_5 hr_5 => ?_)
  have tr_5 := tn_ hr_5
  refine ySri (As := [.int r_1, .int r_5]) (rest := [.ref q0]) C0 (g_X8_least l G S d r_1 r_5 ) ok_X8_least (mW199 : Cond.methodLink RX8 58 yX8_least ∈ wsT) ⟨Nat.le_of_ble_eq_true rfl, Nat.le_of_ble_eq_true rfl⟩ hP hD hK hN rfl hl.1 rfl (Nat.le_of_ble_eq_true rfl) ⟨Nat.le_of_ble_eq_true rfl, Nat.le_of_ble_eq_true rfl⟩ dX8_yields_17 (fun r_6 hr_6 => ?_)
  have tr_6 := tl_ hr_6
  refine yVwi (As := [.int r_6]) (rest := []) C0 (g_X8_refused l G S d q0 r_6 hSh hPo hm_q0 hk_q0) ok_X8_refused (mW160 : Cond.methodLink RX8 42 yX8_refused ∈ wsT) ⟨Nat.le_of_ble_eq_true rfl, Nat.le_of_ble_eq_true rfl⟩ hP hD hS hA hK hN hm_q0 hk_q0 (by decide) rfl rfl rfl hl.1 rfl (Nat.le_of_ble_eq_true rfl) ⟨Nat.le_of_ble_eq_true rfl, Nat.le_of_ble_eq_true rfl⟩ dX8_yields_20 (fun r_7 d_8 H locs hr_7 hP hD hS => ?_)
  obtain ⟨hgad_8, hpad_8, hxd_8⟩ := hr_7
  have hgd_8 : yAg S [8, 14, 24] d d_8 := yAg.tr hg0 hgad_8 (by first | decide | exact fun _ h => h)
  have hPod_8 : yPo S d_8 := hpad_8 hPo
  have tr_7 := tr_ hxd_8.1
  refine lv_if_eq (tgt := 28) hx hb dX8_yields_23 (by decide) (fun c_9 => ?_) (fun c_9 => ?_)
  · refine lv_aload_n hx hb dX8_yields_28 rfl (lv_at hl 0 rfl) ?_
    refine yget (ci := 8) (k := 0) (v := .ref (S.2.2.1 q0 0)) (C := RX8) (T := TX8) (N := 6) C0 hK hP hm_q0 hk_q0 (by decide) rfl inlX8 (by decide) mW16 (fun _ h9 => h9) rfl dX8_yields_29 ?_
    obtain ⟨hmy_10, hky_10⟩ := ySh.f8_0 hSh _ hm_q0 hk_q0
    refine yget (ci := 0) (k := 0) (v := .ref (S.2.2.1 (S.2.2.1 q0 0) 0)) (C := RX0) (T := TX0) (N := 6) C0 hK hP hmy_10 hky_10 (by decide) rfl inlX0 (by decide) mW158 (fun _ h9 => h9) rfl dX8_yields_32 ?_
    obtain ⟨hmy_11, hky_11⟩ := ySh.f0_0 hSh _ hmy_10 hky_10
    refine yget (ci := 6) (k := 4) (v := .ref (S.2.2.1 (S.2.2.1 (S.2.2.1 q0 0) 0) 4)) (C := RX6) (T := TX6) (N := 7) C0 hK hP hmy_11 hky_11 (by decide) rfl inlX6 (by decide) mW234 (fun _ h9 => h9) rfl dX8_yields_35 ?_
    obtain ⟨hmy_12, hky_12⟩ := ySh.f6_4 hSh _ hmy_11 hky_11
    refine lv_iload_n hx hb dX8_yields_38 rfl (lv_at hl 1 rfl) ?_
    refine lv_iload_n hx hb dX8_yields_39 rfl (lv_at hl 2 rfl) ?_
    refine ySri (As := [.int p0, .int p1]) (rest := [.ref (S.2.2.1 (S.2.2.1 (S.2.2.1 q0 0) 0) 4)]) C0 (g_X8_rowOf l G S d_8 p0 p1 ) ok_X8_rowOf (mW210 : Cond.methodLink RX8 61 yX8_rowOf ∈ wsT) ⟨Nat.le_of_ble_eq_true rfl, Nat.le_of_ble_eq_true rfl⟩ hP hD hK hN rfl hl.1 rfl (Nat.le_of_ble_eq_true rfl) ⟨Nat.le_of_ble_eq_true rfl, Nat.le_of_ble_eq_true rfl⟩ dX8_yields_40 (fun r_13 hr_13 => ?_)
    refine ySri (As := [.ref (S.2.2.1 (S.2.2.1 (S.2.2.1 q0 0) 0) 4), .int r_13]) (rest := []) C0 (g_X8_at l G S d_8 (S.2.2.1 (S.2.2.1 (S.2.2.1 q0 0) 0) 4) 14 r_13 hmy_12 hky_12 (by decide) rfl rfl (by decide)) ok_X8_at (mW165 : Cond.methodLink RX8 78 yX8_at ∈ wsT) ⟨Nat.le_of_ble_eq_true rfl, Nat.le_of_ble_eq_true rfl⟩ hP hD hK hN rfl hl.1 rfl (Nat.le_of_ble_eq_true rfl) ⟨Nat.le_of_ble_eq_true rfl, Nat.le_of_ble_eq_true rfl⟩ dX8_yields_43 (fun r_14 hr_14 => ?_)
    refine lv_istore (lv' := [(4, .int r_14), (0, .ref q0), (1, .int p0), (2, .int p1), (3, .int p2)]) hx hb dX8_yields_46 hl (by decide) rfl (fun ls hl => ?_)
    refine lv_aload_n hx hb dX8_yields_48 rfl (lv_at hl 1 rfl) ?_
    refine yget (ci := 8) (k := 0) (v := .ref (S.2.2.1 q0 0)) (C := RX8) (T := TX8) (N := 6) C0 hK hP hm_q0 hk_q0 (by decide) rfl inlX8 (by decide) mW16 (fun _ h9 => h9) rfl dX8_yields_49 ?_
    refine yget (ci := 0) (k := 0) (v := .ref (S.2.2.1 (S.2.2.1 q0 0) 0)) (C := RX0) (T := TX0) (N := 6) C0 hK hP hmy_10 hky_10 (by decide) rfl inlX0 (by decide) mW158 (fun _ h9 => h9) rfl dX8_yields_52 ?_
    refine yget (ci := 6) (k := 4) (v := .ref (S.2.2.1 (S.2.2.1 (S.2.2.1 q0 0) 0) 4)) (C := RX6) (T := TX6) (N := 7) C0 hK hP hmy_11 hky_11 (by decide) rfl inlX6 (by decide) mW234 (fun _ h9 => h9) rfl dX8_yields_55 ?_
    refine lv_iload_n hx hb dX8_yields_58 rfl (lv_at hl 2 rfl) ?_
    refine lv_iload_n hx hb dX8_yields_59 rfl (lv_at hl 3 rfl) ?_
    refine ySri (As := [.int p0, .int p1]) (rest := [.ref (S.2.2.1 (S.2.2.1 (S.2.2.1 q0 0) 0) 4)]) C0 (g_X8_rowOf l G S d_8 p0 p1 ) ok_X8_rowOf (mW210 : Cond.methodLink RX8 61 yX8_rowOf ∈ wsT) ⟨Nat.le_of_ble_eq_true rfl, Nat.le_of_ble_eq_true rfl⟩ hP hD hK hN rfl hl.1 rfl (Nat.le_of_ble_eq_true rfl) ⟨Nat.le_of_ble_eq_true rfl, Nat.le_of_ble_eq_true rfl⟩ dX8_yields_60 (fun r_15 hr_15 => ?_)
    refine lv_iload_n hx hb dX8_yields_63 rfl (lv_at hl 4 rfl) ?_
    refine ySwv (As := [.ref (S.2.2.1 (S.2.2.1 (S.2.2.1 q0 0) 0) 4), .int r_15, .int p2]) (rest := []) C0 (g_X8_put l G S d_8 (S.2.2.1 (S.2.2.1 (S.2.2.1 q0 0) 0) 4) 14 r_15 p2 hPod_8 hmy_12 hky_12 (by decide) rfl rfl (by decide)) ok_X8_put (mW168 : Cond.methodLink RX8 82 yX8_put ∈ wsT) ⟨Nat.le_of_ble_eq_true rfl, Nat.le_of_ble_eq_true rfl⟩ hP hD hS hA hK hN rfl hl.1 rfl (Nat.le_of_ble_eq_true rfl) ⟨Nat.le_of_ble_eq_true rfl, Nat.le_of_ble_eq_true rfl⟩ dX8_yields_64 (fun d_17 H locs hr_16 hP hD hS => ?_)
    obtain ⟨hgad_17, hpad_17, hxd_17⟩ := hr_16
    have hgd_17 : yAg S [8, 14, 24] d d_17 := yAg.tr hgd_8 hgad_17 (by first | decide | exact fun _ h => h)
    have hPod_17 : yPo S d_17 := hpad_17 hPod_8
    refine lv_iload hx hb dX8_yields_67 (lv_at hl 0 rfl) ?_
    have F_18 := feq (rfl : (r_7 : Int32).toInt = (r_7 : Int32).toInt) (by decide +kernel : (0 : Int32).toInt = 0) c_9
    exact W.iret (v := r_14) hx hb hr (fun t ht hW => ⟨⟨r_14, d_17, rfl, ⟨hgd_17, (fun _ => hPod_17), ⟨Or.inr ⟨by omega, (hr_14.trans (by rw [show d_8.2.2.2.1 (S.2.2.1 (S.2.2.1 (S.2.2.1 q0 0) 0) 4) = d.2.2.2.1 (S.2.2.1 (S.2.2.1 (S.2.2.1 q0 0) 0) 4) from ((zTm.ag zTm.rf hSh hmy_11 hky_11 hgad_8 (by decide))).1 4 (by decide), hr_13]; rfl)), (zTm.cg (zTm.put (zTm.ag zTm.rf hSh hmy_11 hky_11 hgad_8 (by decide)) hSh hmy_11 hky_11 (by decide) hxd_17) (fun i hi => by rw [show d_8.2.2.2.1 (S.2.2.1 (S.2.2.1 (S.2.2.1 q0 0) 0) 4) = d.2.2.2.1 (S.2.2.1 (S.2.2.1 (S.2.2.1 q0 0) 0) 4) from ((zTm.ag zTm.rf hSh hmy_11 hky_11 hgad_8 (by decide))).1 4 (by decide), hr_15] <;> rfl))⟩, ((congrFun (hgad_17 q0 (by rw [hk_q0]; decide)).1 4).trans (hxd_8.2))⟩⟩, by rw [ht]; exact hP, hD⟩, hS.F ht⟩) hS.2.2 dX8_yields_69
  · refine lv_iconst (v := (-1)) hx hb dX8_yields_26 (by decide) ?_
    have F_19 := fne (rfl : (r_7 : Int32).toInt = (r_7 : Int32).toInt) (by decide +kernel : (0 : Int32).toInt = 0) c_9
    obtain ⟨hmy_20, hky_20⟩ := ySh.f8_0 hSh _ hm_q0 hk_q0
    obtain ⟨hmy_21, hky_21⟩ := ySh.f0_0 hSh _ hmy_20 hky_20
    exact W.iret (v := (-1)) hx hb hr (fun t ht hW => ⟨⟨(-1), d_8, rfl, ⟨hgd_8, (fun _ => hPod_8), ⟨Or.inl ⟨by have h0_ : ((-1) : Int32).toInt = (-1) := (by decide +kernel); omega, by omega, (zTm.ag zTm.rf hSh hmy_21 hky_21 hgad_8 (by decide))⟩, (hxd_8.2)⟩⟩, by rw [ht]; exact hP, hD⟩, hS.F ht⟩) hS.2.2 dX8_yields_27
theorem dX8_amount_0 : decode cX8_amount 0 = .ok (.aload_n 0, 1) := by decide +kernel
theorem dX8_amount_1 : decode cX8_amount 1 = .ok (.aload_n 0, 1) := by decide +kernel
theorem dX8_amount_2 : decode cX8_amount 2 = .ok (.iload_n 1, 1) := by decide +kernel
theorem dX8_amount_3 : decode cX8_amount 3 = .ok (.iload_n 2, 1) := by decide +kernel
theorem dX8_amount_4 : decode cX8_amount 4 = .ok (.invokevirtual 68, 3) := by decide +kernel
theorem dX8_amount_7 : decode cX8_amount 7 = .ok (.iload_n 3, 1) := by decide +kernel
theorem dX8_amount_8 : decode cX8_amount 8 = .ok (.ldc 86, 2) := by decide +kernel
theorem dX8_amount_10 : decode cX8_amount 10 = .ok (.ldc 87, 2) := by decide +kernel
theorem dX8_amount_12 : decode cX8_amount 12 = .ok (.invokestatic 71, 3) := by decide +kernel
theorem dX8_amount_15 : decode cX8_amount 15 = .ok (.invokestatic 54, 3) := by decide +kernel
theorem dX8_amount_18 : decode cX8_amount 18 = .ok (.invokestatic 58, 3) := by decide +kernel
theorem dX8_amount_21 : decode cX8_amount 21 = .ok (.invokevirtual 42, 3) := by decide +kernel
theorem dX8_amount_24 : decode cX8_amount 24 = .ok (.ifCond .eq 5, 3) := by decide +kernel
theorem dX8_amount_27 : decode cX8_amount 27 = .ok (.iconst 0, 1) := by decide +kernel
theorem dX8_amount_28 : decode cX8_amount 28 = .ok (.ireturn, 1) := by decide +kernel
theorem dX8_amount_29 : decode cX8_amount 29 = .ok (.aload_n 0, 1) := by decide +kernel
theorem dX8_amount_30 : decode cX8_amount 30 = .ok (.getfield 12, 3) := by decide +kernel
theorem dX8_amount_33 : decode cX8_amount 33 = .ok (.getfield 32, 3) := by decide +kernel
theorem dX8_amount_36 : decode cX8_amount 36 = .ok (.getfield 88, 3) := by decide +kernel
theorem dX8_amount_39 : decode cX8_amount 39 = .ok (.iload_n 1, 1) := by decide +kernel
theorem dX8_amount_40 : decode cX8_amount 40 = .ok (.iload_n 2, 1) := by decide +kernel
theorem dX8_amount_41 : decode cX8_amount 41 = .ok (.invokestatic 61, 3) := by decide +kernel
theorem dX8_amount_44 : decode cX8_amount 44 = .ok (.iload_n 3, 1) := by decide +kernel
theorem dX8_amount_45 : decode cX8_amount 45 = .ok (.invokestatic 82, 3) := by decide +kernel
theorem dX8_amount_48 : decode cX8_amount 48 = .ok (.iconst 1, 1) := by decide +kernel
theorem dX8_amount_49 : decode cX8_amount 49 = .ok (.ireturn, 1) := by decide +kernel
set_option maxHeartbeats 4000000 in
set_option maxRecDepth 100000 in
theorem g_X8_amount (l : Launch) (G : xG) (S : yS) (d : yD) (q0 : Nat) (p0 : Int32) (p1 : Int32) (p2 : Int32) (hSh : ySh S) (hPo : yPo S d) (hm_q0 : q0 ∈ S.1) (hk_q0 : S.2.1 q0 = 8) : xWi l G yX8_amount cX8_amount 4 (some .boolean) 5 111 0 0 [.ref q0, .int p0, .int p1, .int p2] (yW G S d) (fun r (u : yD) => yAg S [8, 15, 24] d u ∧ (yPo S d → yPo S u) ∧ (((r.toInt = 0 ∧ ¬ ((((0 ≤ p0.toInt ∧ p0.toInt ≤ 39 ∧ p0.toInt < (d.1 (S.2.2.1 (S.2.2.1 q0 0) 0) 6).toInt) ∧ 0 ≤ p1.toInt ∧ p1.toInt ≤ 59) ∧ (xat 2402 (d.2.2.2.1 (S.2.2.1 (S.2.2.1 (S.2.2.1 q0 0) 0) 0)) (p0 * 60 + p1)).toInt ≠ 6 ∧ (xat 2402 (d.2.2.2.1 (S.2.2.1 (S.2.2.1 (S.2.2.1 q0 0) 0) 0)) (p0 * 60 + p1)).toInt ≠ 5) ∧ -1000000 ≤ p2.toInt ∧ p2.toInt ≤ 1000000) ∧ zTm S d u (S.2.2.1 (S.2.2.1 q0 0) 0) (fun i => d.2.2.2.1 (S.2.2.1 (S.2.2.1 (S.2.2.1 q0 0) 0) i))) ∨ (r.toInt = 1 ∧ ((((0 ≤ p0.toInt ∧ p0.toInt ≤ 39 ∧ p0.toInt < (d.1 (S.2.2.1 (S.2.2.1 q0 0) 0) 6).toInt) ∧ 0 ≤ p1.toInt ∧ p1.toInt ≤ 59) ∧ (xat 2402 (d.2.2.2.1 (S.2.2.1 (S.2.2.1 (S.2.2.1 q0 0) 0) 0)) (p0 * 60 + p1)).toInt ≠ 6 ∧ (xat 2402 (d.2.2.2.1 (S.2.2.1 (S.2.2.1 (S.2.2.1 q0 0) 0) 0)) (p0 * 60 + p1)).toInt ≠ 5) ∧ -1000000 ≤ p2.toInt ∧ p2.toInt ≤ 1000000) ∧ zTm S d u (S.2.2.1 (S.2.2.1 q0 0) 0) (fun i => if i = 5 then xput 2402 (d.2.2.2.1 (S.2.2.1 (S.2.2.1 (S.2.2.1 q0 0) 0) 5)) (p0 * 60 + p1) p2 else d.2.2.2.1 (S.2.2.1 (S.2.2.1 (S.2.2.1 q0 0) 0) i)))) ∧ u.1 q0 4 = d.1 q0 4)) (fun u => yW G S u) := by
  intro sz
  refine xstart (by decide) (Nat.le_of_ble_eq_true rfl) (fun p e s m args below meth c ls C0 hr hlocks hin hsz hP hK hD hN hl => ?_)
  obtain ⟨hx, hb, hml, hown, htl⟩ := id C0
  subst hsz
  have hD := hD.self (sz := s.heap.size)
  generalize hAe : va_A (yW G S d) s.heap.size = A at hD ⊢
  have hA : ∀ q : Nat, s.heap.size ≤ q → A q := fun q h => by rw [← hAe]; exact Or.inr h
  have hS : va_S A s.heap s.heap [] := va_S.rf
  have hg0 : yAg S [8, 15, 24] d d := yAg.rf
  have hl : lv_has ls 4 [(0, .ref q0), (1, .int p0), (2, .int p1), (3, .int p2)] := hl
  refine lv_aload_n hx hb dX8_amount_0 rfl (lv_at hl 0 rfl) ?_
  refine lv_aload_n hx hb dX8_amount_1 rfl (lv_at hl 0 rfl) ?_
  refine lv_iload_n hx hb dX8_amount_2 rfl (lv_at hl 1 rfl) ?_
  refine lv_iload_n hx hb dX8_amount_3 rfl (lv_at hl 2 rfl) ?_
  refine yVri (As := [.int p0, .int p1]) (rest := [.ref q0]) C0 (g_X8_termReason l G S d q0 p0 p1 hSh hm_q0 hk_q0) ok_X8_termReason (mW235 : Cond.methodLink RX8 68 yX8_termReason ∈ wsT) ⟨Nat.le_of_ble_eq_true rfl, Nat.le_of_ble_eq_true rfl⟩ hP hD hK hN hm_q0 hk_q0 (by decide) rfl rfl rfl hl.1 rfl (Nat.le_of_ble_eq_true rfl) ⟨Nat.le_of_ble_eq_true rfl, Nat.le_of_ble_eq_true rfl⟩ dX8_amount_4 (fun r_1 hr_1 => ?_)
  have tr_1 := txt_ hr_1
  refine lv_iload_n hx hb dX8_amount_7 rfl (lv_at hl 3 rfl) ?_
  refine lv_ldc (v := (-1000000)) hx hb hown (htl (.constant RX8 86 (-1000000)) mW256) dX8_amount_8 ?_
  refine lv_ldc (v := 1000000) hx hb hown (htl (.constant RX8 87 (1000000)) mW257) dX8_amount_10 ?_
  refine ySri (As := [.int p2, .int (-1000000), .int 1000000]) (rest := [.int r_1, .ref q0]) C0 (g_X8_within l G S d p2 (-1000000) 1000000 ) ok_X8_within (mW193 : Cond.methodLink RX8 71 yX8_within ∈ wsT) ⟨Nat.le_of_ble_eq_true rfl, Nat.le_of_ble_eq_true rfl⟩ hP hD hK hN rfl hl.1 rfl (Nat.le_of_ble_eq_true rfl) ⟨Nat.le_of_ble_eq_true rfl, Nat.le_of_ble_eq_true rfl⟩ dX8_amount_12 (fun r_2 hr_2 => ?_)
  have hL_3 : ((-1000000) : Int32).toInt = (-1000000) := by decide +kernel
  have hL_4 : (1000000 : Int32).toInt = 1000000 := by decide +kernel
  have tr_2 := tw_ hr_2
  refine ySri (As := [.int r_2]) (rest := [.int r_1, .ref q0]) C0 (g_X8_number l G S d r_2 ) ok_X8_number (mW196 : Cond.methodLink RX8 54 yX8_number ∈ wsT) ⟨Nat.le_of_ble_eq_true rfl, Nat.le_of_ble_eq_true rfl⟩ hP hD hK hN rfl hl.1 rfl (Nat.le_of_ble_eq_true rfl) ⟨Nat.le_of_ble_eq_true rfl, Nat.le_of_ble_eq_true rfl⟩ dX8_amount_15 (fun r_5 hr_5 => ?_)
  have tr_5 := tn_ hr_5
  refine ySri (As := [.int r_1, .int r_5]) (rest := [.ref q0]) C0 (g_X8_least l G S d r_1 r_5 ) ok_X8_least (mW199 : Cond.methodLink RX8 58 yX8_least ∈ wsT) ⟨Nat.le_of_ble_eq_true rfl, Nat.le_of_ble_eq_true rfl⟩ hP hD hK hN rfl hl.1 rfl (Nat.le_of_ble_eq_true rfl) ⟨Nat.le_of_ble_eq_true rfl, Nat.le_of_ble_eq_true rfl⟩ dX8_amount_18 (fun r_6 hr_6 => ?_)
  have tr_6 := tl_ hr_6
  refine yVwi (As := [.int r_6]) (rest := []) C0 (g_X8_refused l G S d q0 r_6 hSh hPo hm_q0 hk_q0) ok_X8_refused (mW160 : Cond.methodLink RX8 42 yX8_refused ∈ wsT) ⟨Nat.le_of_ble_eq_true rfl, Nat.le_of_ble_eq_true rfl⟩ hP hD hS hA hK hN hm_q0 hk_q0 (by decide) rfl rfl rfl hl.1 rfl (Nat.le_of_ble_eq_true rfl) ⟨Nat.le_of_ble_eq_true rfl, Nat.le_of_ble_eq_true rfl⟩ dX8_amount_21 (fun r_7 d_8 H locs hr_7 hP hD hS => ?_)
  obtain ⟨hgad_8, hpad_8, hxd_8⟩ := hr_7
  have hgd_8 : yAg S [8, 15, 24] d d_8 := yAg.tr hg0 hgad_8 (by first | decide | exact fun _ h => h)
  have hPod_8 : yPo S d_8 := hpad_8 hPo
  have tr_7 := tr_ hxd_8.1
  refine lv_if_eq (tgt := 29) hx hb dX8_amount_24 (by decide) (fun c_9 => ?_) (fun c_9 => ?_)
  · refine lv_aload_n hx hb dX8_amount_29 rfl (lv_at hl 0 rfl) ?_
    refine yget (ci := 8) (k := 0) (v := .ref (S.2.2.1 q0 0)) (C := RX8) (T := TX8) (N := 6) C0 hK hP hm_q0 hk_q0 (by decide) rfl inlX8 (by decide) mW16 (fun _ h9 => h9) rfl dX8_amount_30 ?_
    obtain ⟨hmy_10, hky_10⟩ := ySh.f8_0 hSh _ hm_q0 hk_q0
    refine yget (ci := 0) (k := 0) (v := .ref (S.2.2.1 (S.2.2.1 q0 0) 0)) (C := RX0) (T := TX0) (N := 6) C0 hK hP hmy_10 hky_10 (by decide) rfl inlX0 (by decide) mW158 (fun _ h9 => h9) rfl dX8_amount_33 ?_
    obtain ⟨hmy_11, hky_11⟩ := ySh.f0_0 hSh _ hmy_10 hky_10
    refine yget (ci := 6) (k := 5) (v := .ref (S.2.2.1 (S.2.2.1 (S.2.2.1 q0 0) 0) 5)) (C := RX6) (T := TX6) (N := 7) C0 hK hP hmy_11 hky_11 (by decide) rfl inlX6 (by decide) mW258 (fun _ h9 => h9) rfl dX8_amount_36 ?_
    obtain ⟨hmy_12, hky_12⟩ := ySh.f6_5 hSh _ hmy_11 hky_11
    refine lv_iload_n hx hb dX8_amount_39 rfl (lv_at hl 1 rfl) ?_
    refine lv_iload_n hx hb dX8_amount_40 rfl (lv_at hl 2 rfl) ?_
    refine ySri (As := [.int p0, .int p1]) (rest := [.ref (S.2.2.1 (S.2.2.1 (S.2.2.1 q0 0) 0) 5)]) C0 (g_X8_rowOf l G S d_8 p0 p1 ) ok_X8_rowOf (mW210 : Cond.methodLink RX8 61 yX8_rowOf ∈ wsT) ⟨Nat.le_of_ble_eq_true rfl, Nat.le_of_ble_eq_true rfl⟩ hP hD hK hN rfl hl.1 rfl (Nat.le_of_ble_eq_true rfl) ⟨Nat.le_of_ble_eq_true rfl, Nat.le_of_ble_eq_true rfl⟩ dX8_amount_41 (fun r_13 hr_13 => ?_)
    refine lv_iload_n hx hb dX8_amount_44 rfl (lv_at hl 3 rfl) ?_
    refine ySwv (As := [.ref (S.2.2.1 (S.2.2.1 (S.2.2.1 q0 0) 0) 5), .int r_13, .int p2]) (rest := []) C0 (g_X8_put l G S d_8 (S.2.2.1 (S.2.2.1 (S.2.2.1 q0 0) 0) 5) 15 r_13 p2 hPod_8 hmy_12 hky_12 (by decide) rfl rfl (by decide)) ok_X8_put (mW168 : Cond.methodLink RX8 82 yX8_put ∈ wsT) ⟨Nat.le_of_ble_eq_true rfl, Nat.le_of_ble_eq_true rfl⟩ hP hD hS hA hK hN rfl hl.1 rfl (Nat.le_of_ble_eq_true rfl) ⟨Nat.le_of_ble_eq_true rfl, Nat.le_of_ble_eq_true rfl⟩ dX8_amount_45 (fun d_15 H locs hr_14 hP hD hS => ?_)
    obtain ⟨hgad_15, hpad_15, hxd_15⟩ := hr_14
    have hgd_15 : yAg S [8, 15, 24] d d_15 := yAg.tr hgd_8 hgad_15 (by first | decide | exact fun _ h => h)
    have hPod_15 : yPo S d_15 := hpad_15 hPod_8
    refine lv_iconst (v := 1) hx hb dX8_amount_48 (by decide) ?_
    have F_16 := feq (rfl : (r_7 : Int32).toInt = (r_7 : Int32).toInt) (by decide +kernel : (0 : Int32).toInt = 0) c_9
    exact W.zret (v := 1) (ty := .boolean) hx hb hr rfl (fun t ht hW => ⟨⟨1, d_15, rfl, ⟨hgd_15, (fun _ => hPod_15), ⟨Or.inr ⟨by have h0_ : (1 : Int32).toInt = 1 := (by decide +kernel); omega, by omega, (zTm.cg (zTm.put (zTm.ag zTm.rf hSh hmy_11 hky_11 hgad_8 (by decide)) hSh hmy_11 hky_11 (by decide) hxd_15) (fun i hi => by rw [show d_8.2.2.2.1 (S.2.2.1 (S.2.2.1 (S.2.2.1 q0 0) 0) 5) = d.2.2.2.1 (S.2.2.1 (S.2.2.1 (S.2.2.1 q0 0) 0) 5) from ((zTm.ag zTm.rf hSh hmy_11 hky_11 hgad_8 (by decide))).1 5 (by decide), hr_13] <;> rfl))⟩, ((congrFun (hgad_15 q0 (by rw [hk_q0]; decide)).1 4).trans (hxd_8.2))⟩⟩, by rw [ht]; exact hP, hD⟩, hS.F ht⟩) hS.2.2 dX8_amount_49
  · refine lv_iconst (v := 0) hx hb dX8_amount_27 (by decide) ?_
    have F_17 := fne (rfl : (r_7 : Int32).toInt = (r_7 : Int32).toInt) (by decide +kernel : (0 : Int32).toInt = 0) c_9
    obtain ⟨hmy_18, hky_18⟩ := ySh.f8_0 hSh _ hm_q0 hk_q0
    obtain ⟨hmy_19, hky_19⟩ := ySh.f0_0 hSh _ hmy_18 hky_18
    exact W.zret (v := 0) (ty := .boolean) hx hb hr rfl (fun t ht hW => ⟨⟨0, d_8, rfl, ⟨hgd_8, (fun _ => hPod_8), ⟨Or.inl ⟨by have h0_ : (0 : Int32).toInt = 0 := (by decide +kernel); omega, by omega, (zTm.ag zTm.rf hSh hmy_19 hky_19 hgad_8 (by decide))⟩, (hxd_8.2)⟩⟩, by rw [ht]; exact hP, hD⟩, hS.F ht⟩) hS.2.2 dX8_amount_28
theorem dX8_heading_0 : decode cX8_heading 0 = .ok (.aload_n 0, 1) := by decide +kernel
theorem dX8_heading_1 : decode cX8_heading 1 = .ok (.aload_n 0, 1) := by decide +kernel
theorem dX8_heading_2 : decode cX8_heading 2 = .ok (.iload_n 1, 1) := by decide +kernel
theorem dX8_heading_3 : decode cX8_heading 3 = .ok (.iload_n 2, 1) := by decide +kernel
theorem dX8_heading_4 : decode cX8_heading 4 = .ok (.invokevirtual 46, 3) := by decide +kernel
theorem dX8_heading_7 : decode cX8_heading 7 = .ok (.invokevirtual 42, 3) := by decide +kernel
theorem dX8_heading_10 : decode cX8_heading 10 = .ok (.ifCond .eq 5, 3) := by decide +kernel
theorem dX8_heading_13 : decode cX8_heading 13 = .ok (.iconst 0, 1) := by decide +kernel
theorem dX8_heading_14 : decode cX8_heading 14 = .ok (.ireturn, 1) := by decide +kernel
theorem dX8_heading_15 : decode cX8_heading 15 = .ok (.aload_n 0, 1) := by decide +kernel
theorem dX8_heading_16 : decode cX8_heading 16 = .ok (.getfield 12, 3) := by decide +kernel
theorem dX8_heading_19 : decode cX8_heading 19 = .ok (.getfield 32, 3) := by decide +kernel
theorem dX8_heading_22 : decode cX8_heading 22 = .ok (.iload_n 1, 1) := by decide +kernel
theorem dX8_heading_23 : decode cX8_heading 23 = .ok (.iload_n 2, 1) := by decide +kernel
theorem dX8_heading_24 : decode cX8_heading 24 = .ok (.invokestatic 61, 3) := by decide +kernel
theorem dX8_heading_27 : decode cX8_heading 27 = .ok (.iconst 5, 1) := by decide +kernel
theorem dX8_heading_28 : decode cX8_heading 28 = .ok (.iconst 0, 1) := by decide +kernel
theorem dX8_heading_29 : decode cX8_heading 29 = .ok (.iload_n 3, 1) := by decide +kernel
theorem dX8_heading_30 : decode cX8_heading 30 = .ok (.iconst 0, 1) := by decide +kernel
theorem dX8_heading_31 : decode cX8_heading 31 = .ok (.invokevirtual 64, 3) := by decide +kernel
theorem dX8_heading_34 : decode cX8_heading 34 = .ok (.iconst 1, 1) := by decide +kernel
theorem dX8_heading_35 : decode cX8_heading 35 = .ok (.ireturn, 1) := by decide +kernel
set_option maxHeartbeats 4000000 in
set_option maxRecDepth 100000 in
theorem g_X8_heading (l : Launch) (G : xG) (S : yS) (d : yD) (q0 : Nat) (p0 : Int32) (p1 : Int32) (p2 : Int32) (hSh : ySh S) (hPo : yPo S d) (hm_q0 : q0 ∈ S.1) (hk_q0 : S.2.1 q0 = 8) : xWi l G yX8_heading cX8_heading 4 (some .boolean) 3 65 0 0 [.ref q0, .int p0, .int p1, .int p2] (yW G S d) (fun r (u : yD) => yAg S [8, 10, 11, 12, 13, 14, 15, 24] d u ∧ (yPo S d → yPo S u) ∧ (((r.toInt = 0 ∧ ¬ ((0 ≤ p0.toInt ∧ p0.toInt ≤ 39 ∧ p0.toInt < (d.1 (S.2.2.1 (S.2.2.1 q0 0) 0) 6).toInt) ∧ 0 ≤ p1.toInt ∧ p1.toInt ≤ 59) ∧ zTm S d u (S.2.2.1 (S.2.2.1 q0 0) 0) (fun i => d.2.2.2.1 (S.2.2.1 (S.2.2.1 (S.2.2.1 q0 0) 0) i))) ∨ (r.toInt = 1 ∧ ((0 ≤ p0.toInt ∧ p0.toInt ≤ 39 ∧ p0.toInt < (d.1 (S.2.2.1 (S.2.2.1 q0 0) 0) 6).toInt) ∧ 0 ≤ p1.toInt ∧ p1.toInt ≤ 59) ∧ zTm S d u (S.2.2.1 (S.2.2.1 q0 0) 0) (fun i => xput 2402 (d.2.2.2.1 (S.2.2.1 (S.2.2.1 (S.2.2.1 q0 0) 0) i)) (p0 * 60 + p1) (([5, 0, p2, 0, 0, 0] : List Int32).getD i 0)))) ∧ u.1 q0 4 = d.1 q0 4)) (fun u => yW G S u) := by
  intro sz
  refine xstart (by decide) (Nat.le_of_ble_eq_true rfl) (fun p e s m args below meth c ls C0 hr hlocks hin hsz hP hK hD hN hl => ?_)
  obtain ⟨hx, hb, hml, hown, htl⟩ := id C0
  subst hsz
  have hD := hD.self (sz := s.heap.size)
  generalize hAe : va_A (yW G S d) s.heap.size = A at hD ⊢
  have hA : ∀ q : Nat, s.heap.size ≤ q → A q := fun q h => by rw [← hAe]; exact Or.inr h
  have hS : va_S A s.heap s.heap [] := va_S.rf
  have hg0 : yAg S [8, 10, 11, 12, 13, 14, 15, 24] d d := yAg.rf
  have hl : lv_has ls 4 [(0, .ref q0), (1, .int p0), (2, .int p1), (3, .int p2)] := hl
  refine lv_aload_n hx hb dX8_heading_0 rfl (lv_at hl 0 rfl) ?_
  refine lv_aload_n hx hb dX8_heading_1 rfl (lv_at hl 0 rfl) ?_
  refine lv_iload_n hx hb dX8_heading_2 rfl (lv_at hl 1 rfl) ?_
  refine lv_iload_n hx hb dX8_heading_3 rfl (lv_at hl 2 rfl) ?_
  refine yVri (As := [.int p0, .int p1]) (rest := [.ref q0]) C0 (g_X8_placeReason l G S d q0 p0 p1 hSh hm_q0 hk_q0) ok_X8_placeReason (mW185 : Cond.methodLink RX8 46 yX8_placeReason ∈ wsT) ⟨Nat.le_of_ble_eq_true rfl, Nat.le_of_ble_eq_true rfl⟩ hP hD hK hN hm_q0 hk_q0 (by decide) rfl rfl rfl hl.1 rfl (Nat.le_of_ble_eq_true rfl) ⟨Nat.le_of_ble_eq_true rfl, Nat.le_of_ble_eq_true rfl⟩ dX8_heading_4 (fun r_1 hr_1 => ?_)
  have tr_1 := txr_ hr_1
  refine yVwi (As := [.int r_1]) (rest := []) C0 (g_X8_refused l G S d q0 r_1 hSh hPo hm_q0 hk_q0) ok_X8_refused (mW160 : Cond.methodLink RX8 42 yX8_refused ∈ wsT) ⟨Nat.le_of_ble_eq_true rfl, Nat.le_of_ble_eq_true rfl⟩ hP hD hS hA hK hN hm_q0 hk_q0 (by decide) rfl rfl rfl hl.1 rfl (Nat.le_of_ble_eq_true rfl) ⟨Nat.le_of_ble_eq_true rfl, Nat.le_of_ble_eq_true rfl⟩ dX8_heading_7 (fun r_2 d_3 H locs hr_2 hP hD hS => ?_)
  obtain ⟨hgad_3, hpad_3, hxd_3⟩ := hr_2
  have hgd_3 : yAg S [8, 10, 11, 12, 13, 14, 15, 24] d d_3 := yAg.tr hg0 hgad_3 (by first | decide | exact fun _ h => h)
  have hPod_3 : yPo S d_3 := hpad_3 hPo
  have tr_2 := tr_ hxd_3.1
  refine lv_if_eq (tgt := 15) hx hb dX8_heading_10 (by decide) (fun c_4 => ?_) (fun c_4 => ?_)
  · refine lv_aload_n hx hb dX8_heading_15 rfl (lv_at hl 0 rfl) ?_
    refine yget (ci := 8) (k := 0) (v := .ref (S.2.2.1 q0 0)) (C := RX8) (T := TX8) (N := 6) C0 hK hP hm_q0 hk_q0 (by decide) rfl inlX8 (by decide) mW16 (fun _ h9 => h9) rfl dX8_heading_16 ?_
    obtain ⟨hmy_5, hky_5⟩ := ySh.f8_0 hSh _ hm_q0 hk_q0
    refine yget (ci := 0) (k := 0) (v := .ref (S.2.2.1 (S.2.2.1 q0 0) 0)) (C := RX0) (T := TX0) (N := 6) C0 hK hP hmy_5 hky_5 (by decide) rfl inlX0 (by decide) mW158 (fun _ h9 => h9) rfl dX8_heading_19 ?_
    obtain ⟨hmy_6, hky_6⟩ := ySh.f0_0 hSh _ hmy_5 hky_5
    refine lv_iload_n hx hb dX8_heading_22 rfl (lv_at hl 1 rfl) ?_
    refine lv_iload_n hx hb dX8_heading_23 rfl (lv_at hl 2 rfl) ?_
    refine ySri (As := [.int p0, .int p1]) (rest := [.ref (S.2.2.1 (S.2.2.1 q0 0) 0)]) C0 (g_X8_rowOf l G S d_3 p0 p1 ) ok_X8_rowOf (mW210 : Cond.methodLink RX8 61 yX8_rowOf ∈ wsT) ⟨Nat.le_of_ble_eq_true rfl, Nat.le_of_ble_eq_true rfl⟩ hP hD hK hN rfl hl.1 rfl (Nat.le_of_ble_eq_true rfl) ⟨Nat.le_of_ble_eq_true rfl, Nat.le_of_ble_eq_true rfl⟩ dX8_heading_24 (fun r_7 hr_7 => ?_)
    refine lv_iconst (v := 5) hx hb dX8_heading_27 (by decide) ?_
    refine lv_iconst (v := 0) hx hb dX8_heading_28 (by decide) ?_
    refine lv_iload_n hx hb dX8_heading_29 rfl (lv_at hl 3 rfl) ?_
    refine lv_iconst (v := 0) hx hb dX8_heading_30 (by decide) ?_
    refine yVwv (As := [.int r_7, .int 5, .int 0, .int p2, .int 0]) (rest := []) C0 (g_X6_write l G S d_3 (S.2.2.1 (S.2.2.1 q0 0) 0) r_7 5 0 p2 0 hSh hPod_3 hmy_6 hky_6) ok_X6_write (mW213 : Cond.methodLink RX8 64 yX6_write ∈ wsT) ⟨Nat.le_of_ble_eq_true rfl, Nat.le_of_ble_eq_true rfl⟩ hP hD hS hA hK hN hmy_6 hky_6 (by decide) rfl rfl rfl hl.1 rfl (Nat.le_of_ble_eq_true rfl) ⟨Nat.le_of_ble_eq_true rfl, Nat.le_of_ble_eq_true rfl⟩ dX8_heading_31 (fun d_9 H locs hr_8 hP hD hS => ?_)
    obtain ⟨hgad_9, hpad_9, hxd_9⟩ := hr_8
    have hgd_9 : yAg S [8, 10, 11, 12, 13, 14, 15, 24] d d_9 := yAg.tr hgd_3 hgad_9 (by first | decide | exact fun _ h => h)
    have hPod_9 : yPo S d_9 := hpad_9 hPod_3
    refine lv_iconst (v := 1) hx hb dX8_heading_34 (by decide) ?_
    have F_10 := feq (rfl : (r_2 : Int32).toInt = (r_2 : Int32).toInt) (by decide +kernel : (0 : Int32).toInt = 0) c_4
    exact W.zret (v := 1) (ty := .boolean) hx hb hr rfl (fun t ht hW => ⟨⟨1, d_9, rfl, ⟨hgd_9, (fun _ => hPod_9), ⟨Or.inr ⟨by have h0_ : (1 : Int32).toInt = 1 := (by decide +kernel); omega, by omega, (zTm.cg (zTm.tr (zTm.ag zTm.rf hSh hmy_6 hky_6 hgad_3 (by decide)) hxd_9) (fun i hi => by rw [((zTm.ag zTm.rf hSh hmy_6 hky_6 hgad_3 (by decide))).1 i hi, hr_7]))⟩, ((congrFun (hgad_9 q0 (by rw [hk_q0]; decide)).1 4).trans (hxd_3.2))⟩⟩, by rw [ht]; exact hP, hD⟩, hS.F ht⟩) hS.2.2 dX8_heading_35
  · refine lv_iconst (v := 0) hx hb dX8_heading_13 (by decide) ?_
    have F_11 := fne (rfl : (r_2 : Int32).toInt = (r_2 : Int32).toInt) (by decide +kernel : (0 : Int32).toInt = 0) c_4
    obtain ⟨hmy_12, hky_12⟩ := ySh.f8_0 hSh _ hm_q0 hk_q0
    obtain ⟨hmy_13, hky_13⟩ := ySh.f0_0 hSh _ hmy_12 hky_12
    exact W.zret (v := 0) (ty := .boolean) hx hb hr rfl (fun t ht hW => ⟨⟨0, d_3, rfl, ⟨hgd_3, (fun _ => hPod_3), ⟨Or.inl ⟨by have h0_ : (0 : Int32).toInt = 0 := (by decide +kernel); omega, by omega, (zTm.ag zTm.rf hSh hmy_13 hky_13 hgad_3 (by decide))⟩, (hxd_3.2)⟩⟩, by rw [ht]; exact hP, hD⟩, hS.F ht⟩) hS.2.2 dX8_heading_14
theorem dX8_strike_0 : decode cX8_strike 0 = .ok (.aload_n 0, 1) := by decide +kernel
theorem dX8_strike_1 : decode cX8_strike 1 = .ok (.aload_n 0, 1) := by decide +kernel
theorem dX8_strike_2 : decode cX8_strike 2 = .ok (.iload_n 1, 1) := by decide +kernel
theorem dX8_strike_3 : decode cX8_strike 3 = .ok (.iload_n 2, 1) := by decide +kernel
theorem dX8_strike_4 : decode cX8_strike 4 = .ok (.invokevirtual 91, 3) := by decide +kernel
theorem dX8_strike_7 : decode cX8_strike 7 = .ok (.invokevirtual 42, 3) := by decide +kernel
theorem dX8_strike_10 : decode cX8_strike 10 = .ok (.ifCond .eq 5, 3) := by decide +kernel
theorem dX8_strike_13 : decode cX8_strike 13 = .ok (.iconst 0, 1) := by decide +kernel
theorem dX8_strike_14 : decode cX8_strike 14 = .ok (.ireturn, 1) := by decide +kernel
theorem dX8_strike_15 : decode cX8_strike 15 = .ok (.aload_n 0, 1) := by decide +kernel
theorem dX8_strike_16 : decode cX8_strike 16 = .ok (.getfield 12, 3) := by decide +kernel
theorem dX8_strike_19 : decode cX8_strike 19 = .ok (.getfield 32, 3) := by decide +kernel
theorem dX8_strike_22 : decode cX8_strike 22 = .ok (.iload_n 1, 1) := by decide +kernel
theorem dX8_strike_23 : decode cX8_strike 23 = .ok (.iload_n 2, 1) := by decide +kernel
theorem dX8_strike_24 : decode cX8_strike 24 = .ok (.invokestatic 61, 3) := by decide +kernel
theorem dX8_strike_27 : decode cX8_strike 27 = .ok (.bipush 6, 2) := by decide +kernel
theorem dX8_strike_29 : decode cX8_strike 29 = .ok (.iconst 0, 1) := by decide +kernel
theorem dX8_strike_30 : decode cX8_strike 30 = .ok (.iconst 0, 1) := by decide +kernel
theorem dX8_strike_31 : decode cX8_strike 31 = .ok (.iconst 0, 1) := by decide +kernel
theorem dX8_strike_32 : decode cX8_strike 32 = .ok (.invokevirtual 64, 3) := by decide +kernel
theorem dX8_strike_35 : decode cX8_strike 35 = .ok (.iconst 1, 1) := by decide +kernel
theorem dX8_strike_36 : decode cX8_strike 36 = .ok (.ireturn, 1) := by decide +kernel
set_option maxHeartbeats 4000000 in
set_option maxRecDepth 100000 in
theorem g_X8_strike (l : Launch) (G : xG) (S : yS) (d : yD) (q0 : Nat) (p0 : Int32) (p1 : Int32) (hSh : ySh S) (hPo : yPo S d) (hm_q0 : q0 ∈ S.1) (hk_q0 : S.2.1 q0 = 8) : xWi l G yX8_strike cX8_strike 3 (some .boolean) 4 88 0 0 [.ref q0, .int p0, .int p1] (yW G S d) (fun r (u : yD) => yAg S [8, 10, 11, 12, 13, 14, 15, 24] d u ∧ (yPo S d → yPo S u) ∧ (((r.toInt = 0 ∧ ¬ (((0 ≤ p0.toInt ∧ p0.toInt ≤ 39 ∧ p0.toInt < (d.1 (S.2.2.1 (S.2.2.1 q0 0) 0) 6).toInt) ∧ 0 ≤ p1.toInt ∧ p1.toInt ≤ 59) ∧ (xat 2402 (d.2.2.2.1 (S.2.2.1 (S.2.2.1 (S.2.2.1 q0 0) 0) 0)) (p0 * 60 + p1)).toInt ≠ 6) ∧ zTm S d u (S.2.2.1 (S.2.2.1 q0 0) 0) (fun i => d.2.2.2.1 (S.2.2.1 (S.2.2.1 (S.2.2.1 q0 0) 0) i))) ∨ (r.toInt = 1 ∧ (((0 ≤ p0.toInt ∧ p0.toInt ≤ 39 ∧ p0.toInt < (d.1 (S.2.2.1 (S.2.2.1 q0 0) 0) 6).toInt) ∧ 0 ≤ p1.toInt ∧ p1.toInt ≤ 59) ∧ (xat 2402 (d.2.2.2.1 (S.2.2.1 (S.2.2.1 (S.2.2.1 q0 0) 0) 0)) (p0 * 60 + p1)).toInt ≠ 6) ∧ zTm S d u (S.2.2.1 (S.2.2.1 q0 0) 0) (fun i => xput 2402 (d.2.2.2.1 (S.2.2.1 (S.2.2.1 (S.2.2.1 q0 0) 0) i)) (p0 * 60 + p1) (([6, 0, 0, 0, 0, 0] : List Int32).getD i 0)))) ∧ u.1 q0 4 = d.1 q0 4)) (fun u => yW G S u) := by
  intro sz
  refine xstart (by decide) (Nat.le_of_ble_eq_true rfl) (fun p e s m args below meth c ls C0 hr hlocks hin hsz hP hK hD hN hl => ?_)
  obtain ⟨hx, hb, hml, hown, htl⟩ := id C0
  subst hsz
  have hD := hD.self (sz := s.heap.size)
  generalize hAe : va_A (yW G S d) s.heap.size = A at hD ⊢
  have hA : ∀ q : Nat, s.heap.size ≤ q → A q := fun q h => by rw [← hAe]; exact Or.inr h
  have hS : va_S A s.heap s.heap [] := va_S.rf
  have hg0 : yAg S [8, 10, 11, 12, 13, 14, 15, 24] d d := yAg.rf
  have hl : lv_has ls 3 [(0, .ref q0), (1, .int p0), (2, .int p1)] := hl
  refine lv_aload_n hx hb dX8_strike_0 rfl (lv_at hl 0 rfl) ?_
  refine lv_aload_n hx hb dX8_strike_1 rfl (lv_at hl 0 rfl) ?_
  refine lv_iload_n hx hb dX8_strike_2 rfl (lv_at hl 1 rfl) ?_
  refine lv_iload_n hx hb dX8_strike_3 rfl (lv_at hl 2 rfl) ?_
  refine yVri (As := [.int p0, .int p1]) (rest := [.ref q0]) C0 (g_X8_thingReason l G S d q0 p0 p1 hSh hm_q0 hk_q0) ok_X8_thingReason (mW240 : Cond.methodLink RX8 91 yX8_thingReason ∈ wsT) ⟨Nat.le_of_ble_eq_true rfl, Nat.le_of_ble_eq_true rfl⟩ hP hD hK hN hm_q0 hk_q0 (by decide) rfl rfl rfl hl.1 rfl (Nat.le_of_ble_eq_true rfl) ⟨Nat.le_of_ble_eq_true rfl, Nat.le_of_ble_eq_true rfl⟩ dX8_strike_4 (fun r_1 hr_1 => ?_)
  have tr_1 := txh_ hr_1
  refine yVwi (As := [.int r_1]) (rest := []) C0 (g_X8_refused l G S d q0 r_1 hSh hPo hm_q0 hk_q0) ok_X8_refused (mW160 : Cond.methodLink RX8 42 yX8_refused ∈ wsT) ⟨Nat.le_of_ble_eq_true rfl, Nat.le_of_ble_eq_true rfl⟩ hP hD hS hA hK hN hm_q0 hk_q0 (by decide) rfl rfl rfl hl.1 rfl (Nat.le_of_ble_eq_true rfl) ⟨Nat.le_of_ble_eq_true rfl, Nat.le_of_ble_eq_true rfl⟩ dX8_strike_7 (fun r_2 d_3 H locs hr_2 hP hD hS => ?_)
  obtain ⟨hgad_3, hpad_3, hxd_3⟩ := hr_2
  have hgd_3 : yAg S [8, 10, 11, 12, 13, 14, 15, 24] d d_3 := yAg.tr hg0 hgad_3 (by first | decide | exact fun _ h => h)
  have hPod_3 : yPo S d_3 := hpad_3 hPo
  have tr_2 := tr_ hxd_3.1
  refine lv_if_eq (tgt := 15) hx hb dX8_strike_10 (by decide) (fun c_4 => ?_) (fun c_4 => ?_)
  · refine lv_aload_n hx hb dX8_strike_15 rfl (lv_at hl 0 rfl) ?_
    refine yget (ci := 8) (k := 0) (v := .ref (S.2.2.1 q0 0)) (C := RX8) (T := TX8) (N := 6) C0 hK hP hm_q0 hk_q0 (by decide) rfl inlX8 (by decide) mW16 (fun _ h9 => h9) rfl dX8_strike_16 ?_
    obtain ⟨hmy_5, hky_5⟩ := ySh.f8_0 hSh _ hm_q0 hk_q0
    refine yget (ci := 0) (k := 0) (v := .ref (S.2.2.1 (S.2.2.1 q0 0) 0)) (C := RX0) (T := TX0) (N := 6) C0 hK hP hmy_5 hky_5 (by decide) rfl inlX0 (by decide) mW158 (fun _ h9 => h9) rfl dX8_strike_19 ?_
    obtain ⟨hmy_6, hky_6⟩ := ySh.f0_0 hSh _ hmy_5 hky_5
    refine lv_iload_n hx hb dX8_strike_22 rfl (lv_at hl 1 rfl) ?_
    refine lv_iload_n hx hb dX8_strike_23 rfl (lv_at hl 2 rfl) ?_
    refine ySri (As := [.int p0, .int p1]) (rest := [.ref (S.2.2.1 (S.2.2.1 q0 0) 0)]) C0 (g_X8_rowOf l G S d_3 p0 p1 ) ok_X8_rowOf (mW210 : Cond.methodLink RX8 61 yX8_rowOf ∈ wsT) ⟨Nat.le_of_ble_eq_true rfl, Nat.le_of_ble_eq_true rfl⟩ hP hD hK hN rfl hl.1 rfl (Nat.le_of_ble_eq_true rfl) ⟨Nat.le_of_ble_eq_true rfl, Nat.le_of_ble_eq_true rfl⟩ dX8_strike_24 (fun r_7 hr_7 => ?_)
    refine lv_bipush (v := 6) hx hb dX8_strike_27 (by decide) ?_
    refine lv_iconst (v := 0) hx hb dX8_strike_29 (by decide) ?_
    refine lv_iconst (v := 0) hx hb dX8_strike_30 (by decide) ?_
    refine lv_iconst (v := 0) hx hb dX8_strike_31 (by decide) ?_
    refine yVwv (As := [.int r_7, .int 6, .int 0, .int 0, .int 0]) (rest := []) C0 (g_X6_write l G S d_3 (S.2.2.1 (S.2.2.1 q0 0) 0) r_7 6 0 0 0 hSh hPod_3 hmy_6 hky_6) ok_X6_write (mW213 : Cond.methodLink RX8 64 yX6_write ∈ wsT) ⟨Nat.le_of_ble_eq_true rfl, Nat.le_of_ble_eq_true rfl⟩ hP hD hS hA hK hN hmy_6 hky_6 (by decide) rfl rfl rfl hl.1 rfl (Nat.le_of_ble_eq_true rfl) ⟨Nat.le_of_ble_eq_true rfl, Nat.le_of_ble_eq_true rfl⟩ dX8_strike_32 (fun d_9 H locs hr_8 hP hD hS => ?_)
    obtain ⟨hgad_9, hpad_9, hxd_9⟩ := hr_8
    have hgd_9 : yAg S [8, 10, 11, 12, 13, 14, 15, 24] d d_9 := yAg.tr hgd_3 hgad_9 (by first | decide | exact fun _ h => h)
    have hPod_9 : yPo S d_9 := hpad_9 hPod_3
    refine lv_iconst (v := 1) hx hb dX8_strike_35 (by decide) ?_
    have F_10 := feq (rfl : (r_2 : Int32).toInt = (r_2 : Int32).toInt) (by decide +kernel : (0 : Int32).toInt = 0) c_4
    exact W.zret (v := 1) (ty := .boolean) hx hb hr rfl (fun t ht hW => ⟨⟨1, d_9, rfl, ⟨hgd_9, (fun _ => hPod_9), ⟨Or.inr ⟨by have h0_ : (1 : Int32).toInt = 1 := (by decide +kernel); omega, by omega, (zTm.cg (zTm.tr (zTm.ag zTm.rf hSh hmy_6 hky_6 hgad_3 (by decide)) hxd_9) (fun i hi => by rw [((zTm.ag zTm.rf hSh hmy_6 hky_6 hgad_3 (by decide))).1 i hi, hr_7]))⟩, ((congrFun (hgad_9 q0 (by rw [hk_q0]; decide)).1 4).trans (hxd_3.2))⟩⟩, by rw [ht]; exact hP, hD⟩, hS.F ht⟩) hS.2.2 dX8_strike_36
  · refine lv_iconst (v := 0) hx hb dX8_strike_13 (by decide) ?_
    have F_11 := fne (rfl : (r_2 : Int32).toInt = (r_2 : Int32).toInt) (by decide +kernel : (0 : Int32).toInt = 0) c_4
    obtain ⟨hmy_12, hky_12⟩ := ySh.f8_0 hSh _ hm_q0 hk_q0
    obtain ⟨hmy_13, hky_13⟩ := ySh.f0_0 hSh _ hmy_12 hky_12
    exact W.zret (v := 0) (ty := .boolean) hx hb hr rfl (fun t ht hW => ⟨⟨0, d_3, rfl, ⟨hgd_3, (fun _ => hPod_3), ⟨Or.inl ⟨by have h0_ : (0 : Int32).toInt = 0 := (by decide +kernel); omega, by omega, (zTm.ag zTm.rf hSh hmy_13 hky_13 hgad_3 (by decide))⟩, (hxd_3.2)⟩⟩, by rw [ht]; exact hP, hD⟩, hS.F ht⟩) hS.2.2 dX8_strike_14
theorem dX8_kind_0 : decode cX8_kind 0 = .ok (.aload_n 0, 1) := by decide +kernel
theorem dX8_kind_1 : decode cX8_kind 1 = .ok (.aload_n 0, 1) := by decide +kernel
theorem dX8_kind_2 : decode cX8_kind 2 = .ok (.iload_n 1, 1) := by decide +kernel
theorem dX8_kind_3 : decode cX8_kind 3 = .ok (.iload_n 2, 1) := by decide +kernel
theorem dX8_kind_4 : decode cX8_kind 4 = .ok (.invokevirtual 46, 3) := by decide +kernel
theorem dX8_kind_7 : decode cX8_kind 7 = .ok (.invokevirtual 42, 3) := by decide +kernel
theorem dX8_kind_10 : decode cX8_kind 10 = .ok (.ifCond .eq 5, 3) := by decide +kernel
theorem dX8_kind_13 : decode cX8_kind 13 = .ok (.iconst (-1), 1) := by decide +kernel
theorem dX8_kind_14 : decode cX8_kind 14 = .ok (.ireturn, 1) := by decide +kernel
theorem dX8_kind_15 : decode cX8_kind 15 = .ok (.aload_n 0, 1) := by decide +kernel
theorem dX8_kind_16 : decode cX8_kind 16 = .ok (.getfield 12, 3) := by decide +kernel
theorem dX8_kind_19 : decode cX8_kind 19 = .ok (.getfield 32, 3) := by decide +kernel
theorem dX8_kind_22 : decode cX8_kind 22 = .ok (.getfield 94, 3) := by decide +kernel
theorem dX8_kind_25 : decode cX8_kind 25 = .ok (.iload_n 1, 1) := by decide +kernel
theorem dX8_kind_26 : decode cX8_kind 26 = .ok (.iload_n 2, 1) := by decide +kernel
theorem dX8_kind_27 : decode cX8_kind 27 = .ok (.invokestatic 61, 3) := by decide +kernel
theorem dX8_kind_30 : decode cX8_kind 30 = .ok (.invokestatic 78, 3) := by decide +kernel
theorem dX8_kind_33 : decode cX8_kind 33 = .ok (.ireturn, 1) := by decide +kernel
set_option maxHeartbeats 4000000 in
set_option maxRecDepth 100000 in
theorem g_X8_kind (l : Launch) (G : xG) (S : yS) (d : yD) (q0 : Nat) (p0 : Int32) (p1 : Int32) (hSh : ySh S) (hPo : yPo S d) (hm_q0 : q0 ∈ S.1) (hk_q0 : S.2.1 q0 = 8) : xWi l G yX8_kind cX8_kind 3 (some .int) 3 65 0 0 [.ref q0, .int p0, .int p1] (yW G S d) (fun r (u : yD) => yAg S [8, 24] d u ∧ (yPo S d → yPo S u) ∧ (((r.toInt = -1 ∧ ¬ ((0 ≤ p0.toInt ∧ p0.toInt ≤ 39 ∧ p0.toInt < (d.1 (S.2.2.1 (S.2.2.1 q0 0) 0) 6).toInt) ∧ 0 ≤ p1.toInt ∧ p1.toInt ≤ 59) ∧ zTm S d u (S.2.2.1 (S.2.2.1 q0 0) 0) (fun i => d.2.2.2.1 (S.2.2.1 (S.2.2.1 (S.2.2.1 q0 0) 0) i))) ∨ (((0 ≤ p0.toInt ∧ p0.toInt ≤ 39 ∧ p0.toInt < (d.1 (S.2.2.1 (S.2.2.1 q0 0) 0) 6).toInt) ∧ 0 ≤ p1.toInt ∧ p1.toInt ≤ 59) ∧ r = xat 2402 (d.2.2.2.1 (S.2.2.1 (S.2.2.1 (S.2.2.1 q0 0) 0) 0)) (p0 * 60 + p1) ∧ zTm S d u (S.2.2.1 (S.2.2.1 q0 0) 0) (fun i => d.2.2.2.1 (S.2.2.1 (S.2.2.1 (S.2.2.1 q0 0) 0) i)))) ∧ u.1 q0 4 = d.1 q0 4)) (fun u => yW G S u) := by
  intro sz
  refine xstart (by decide) (Nat.le_of_ble_eq_true rfl) (fun p e s m args below meth c ls C0 hr hlocks hin hsz hP hK hD hN hl => ?_)
  obtain ⟨hx, hb, hml, hown, htl⟩ := id C0
  subst hsz
  have hD := hD.self (sz := s.heap.size)
  generalize hAe : va_A (yW G S d) s.heap.size = A at hD ⊢
  have hA : ∀ q : Nat, s.heap.size ≤ q → A q := fun q h => by rw [← hAe]; exact Or.inr h
  have hS : va_S A s.heap s.heap [] := va_S.rf
  have hg0 : yAg S [8, 24] d d := yAg.rf
  have hl : lv_has ls 3 [(0, .ref q0), (1, .int p0), (2, .int p1)] := hl
  refine lv_aload_n hx hb dX8_kind_0 rfl (lv_at hl 0 rfl) ?_
  refine lv_aload_n hx hb dX8_kind_1 rfl (lv_at hl 0 rfl) ?_
  refine lv_iload_n hx hb dX8_kind_2 rfl (lv_at hl 1 rfl) ?_
  refine lv_iload_n hx hb dX8_kind_3 rfl (lv_at hl 2 rfl) ?_
  refine yVri (As := [.int p0, .int p1]) (rest := [.ref q0]) C0 (g_X8_placeReason l G S d q0 p0 p1 hSh hm_q0 hk_q0) ok_X8_placeReason (mW185 : Cond.methodLink RX8 46 yX8_placeReason ∈ wsT) ⟨Nat.le_of_ble_eq_true rfl, Nat.le_of_ble_eq_true rfl⟩ hP hD hK hN hm_q0 hk_q0 (by decide) rfl rfl rfl hl.1 rfl (Nat.le_of_ble_eq_true rfl) ⟨Nat.le_of_ble_eq_true rfl, Nat.le_of_ble_eq_true rfl⟩ dX8_kind_4 (fun r_1 hr_1 => ?_)
  have tr_1 := txr_ hr_1
  refine yVwi (As := [.int r_1]) (rest := []) C0 (g_X8_refused l G S d q0 r_1 hSh hPo hm_q0 hk_q0) ok_X8_refused (mW160 : Cond.methodLink RX8 42 yX8_refused ∈ wsT) ⟨Nat.le_of_ble_eq_true rfl, Nat.le_of_ble_eq_true rfl⟩ hP hD hS hA hK hN hm_q0 hk_q0 (by decide) rfl rfl rfl hl.1 rfl (Nat.le_of_ble_eq_true rfl) ⟨Nat.le_of_ble_eq_true rfl, Nat.le_of_ble_eq_true rfl⟩ dX8_kind_7 (fun r_2 d_3 H locs hr_2 hP hD hS => ?_)
  obtain ⟨hgad_3, hpad_3, hxd_3⟩ := hr_2
  have hgd_3 : yAg S [8, 24] d d_3 := yAg.tr hg0 hgad_3 (by first | decide | exact fun _ h => h)
  have hPod_3 : yPo S d_3 := hpad_3 hPo
  have tr_2 := tr_ hxd_3.1
  refine lv_if_eq (tgt := 15) hx hb dX8_kind_10 (by decide) (fun c_4 => ?_) (fun c_4 => ?_)
  · refine lv_aload_n hx hb dX8_kind_15 rfl (lv_at hl 0 rfl) ?_
    refine yget (ci := 8) (k := 0) (v := .ref (S.2.2.1 q0 0)) (C := RX8) (T := TX8) (N := 6) C0 hK hP hm_q0 hk_q0 (by decide) rfl inlX8 (by decide) mW16 (fun _ h9 => h9) rfl dX8_kind_16 ?_
    obtain ⟨hmy_5, hky_5⟩ := ySh.f8_0 hSh _ hm_q0 hk_q0
    refine yget (ci := 0) (k := 0) (v := .ref (S.2.2.1 (S.2.2.1 q0 0) 0)) (C := RX0) (T := TX0) (N := 6) C0 hK hP hmy_5 hky_5 (by decide) rfl inlX0 (by decide) mW158 (fun _ h9 => h9) rfl dX8_kind_19 ?_
    obtain ⟨hmy_6, hky_6⟩ := ySh.f0_0 hSh _ hmy_5 hky_5
    refine yget (ci := 6) (k := 0) (v := .ref (S.2.2.1 (S.2.2.1 (S.2.2.1 q0 0) 0) 0)) (C := RX6) (T := TX6) (N := 7) C0 hK hP hmy_6 hky_6 (by decide) rfl inlX6 (by decide) mW239 (fun _ h9 => h9) rfl dX8_kind_22 ?_
    obtain ⟨hmy_7, hky_7⟩ := ySh.f6_0 hSh _ hmy_6 hky_6
    refine lv_iload_n hx hb dX8_kind_25 rfl (lv_at hl 1 rfl) ?_
    refine lv_iload_n hx hb dX8_kind_26 rfl (lv_at hl 2 rfl) ?_
    refine ySri (As := [.int p0, .int p1]) (rest := [.ref (S.2.2.1 (S.2.2.1 (S.2.2.1 q0 0) 0) 0)]) C0 (g_X8_rowOf l G S d_3 p0 p1 ) ok_X8_rowOf (mW210 : Cond.methodLink RX8 61 yX8_rowOf ∈ wsT) ⟨Nat.le_of_ble_eq_true rfl, Nat.le_of_ble_eq_true rfl⟩ hP hD hK hN rfl hl.1 rfl (Nat.le_of_ble_eq_true rfl) ⟨Nat.le_of_ble_eq_true rfl, Nat.le_of_ble_eq_true rfl⟩ dX8_kind_27 (fun r_8 hr_8 => ?_)
    refine ySri (As := [.ref (S.2.2.1 (S.2.2.1 (S.2.2.1 q0 0) 0) 0), .int r_8]) (rest := []) C0 (g_X8_at l G S d_3 (S.2.2.1 (S.2.2.1 (S.2.2.1 q0 0) 0) 0) 10 r_8 hmy_7 hky_7 (by decide) rfl rfl (by decide)) ok_X8_at (mW165 : Cond.methodLink RX8 78 yX8_at ∈ wsT) ⟨Nat.le_of_ble_eq_true rfl, Nat.le_of_ble_eq_true rfl⟩ hP hD hK hN rfl hl.1 rfl (Nat.le_of_ble_eq_true rfl) ⟨Nat.le_of_ble_eq_true rfl, Nat.le_of_ble_eq_true rfl⟩ dX8_kind_30 (fun r_9 hr_9 => ?_)
    have F_10 := feq (rfl : (r_2 : Int32).toInt = (r_2 : Int32).toInt) (by decide +kernel : (0 : Int32).toInt = 0) c_4
    exact W.iret (v := r_9) hx hb hr (fun t ht hW => ⟨⟨r_9, d_3, rfl, ⟨hgd_3, (fun _ => hPod_3), ⟨Or.inr ⟨by omega, (hr_9.trans (by rw [show d_3.2.2.2.1 (S.2.2.1 (S.2.2.1 (S.2.2.1 q0 0) 0) 0) = d.2.2.2.1 (S.2.2.1 (S.2.2.1 (S.2.2.1 q0 0) 0) 0) from ((zTm.ag zTm.rf hSh hmy_6 hky_6 hgad_3 (by decide))).1 0 (by decide), hr_8]; rfl)), (zTm.ag zTm.rf hSh hmy_6 hky_6 hgad_3 (by decide))⟩, (hxd_3.2)⟩⟩, by rw [ht]; exact hP, hD⟩, hS.F ht⟩) hS.2.2 dX8_kind_33
  · refine lv_iconst (v := (-1)) hx hb dX8_kind_13 (by decide) ?_
    have F_11 := fne (rfl : (r_2 : Int32).toInt = (r_2 : Int32).toInt) (by decide +kernel : (0 : Int32).toInt = 0) c_4
    obtain ⟨hmy_12, hky_12⟩ := ySh.f8_0 hSh _ hm_q0 hk_q0
    obtain ⟨hmy_13, hky_13⟩ := ySh.f0_0 hSh _ hmy_12 hky_12
    exact W.iret (v := (-1)) hx hb hr (fun t ht hW => ⟨⟨(-1), d_3, rfl, ⟨hgd_3, (fun _ => hPod_3), ⟨Or.inl ⟨by have h0_ : ((-1) : Int32).toInt = (-1) := (by decide +kernel); omega, by omega, (zTm.ag zTm.rf hSh hmy_13 hky_13 hgad_3 (by decide))⟩, (hxd_3.2)⟩⟩, by rw [ht]; exact hP, hD⟩, hS.F ht⟩) hS.2.2 dX8_kind_14
theorem dX8_headed_0 : decode cX8_headed 0 = .ok (.aload_n 0, 1) := by decide +kernel
theorem dX8_headed_1 : decode cX8_headed 1 = .ok (.iload_n 1, 1) := by decide +kernel
theorem dX8_headed_2 : decode cX8_headed 2 = .ok (.iload_n 2, 1) := by decide +kernel
theorem dX8_headed_3 : decode cX8_headed 3 = .ok (.invokevirtual 91, 3) := by decide +kernel
theorem dX8_headed_6 : decode cX8_headed 6 = .ok (.istore_n 3, 1) := by decide +kernel
theorem dX8_headed_7 : decode cX8_headed 7 = .ok (.iload_n 3, 1) := by decide +kernel
theorem dX8_headed_8 : decode cX8_headed 8 = .ok (.ifCond .ne 27, 3) := by decide +kernel
theorem dX8_headed_11 : decode cX8_headed 11 = .ok (.aload_n 0, 1) := by decide +kernel
theorem dX8_headed_12 : decode cX8_headed 12 = .ok (.getfield 12, 3) := by decide +kernel
theorem dX8_headed_15 : decode cX8_headed 15 = .ok (.getfield 32, 3) := by decide +kernel
theorem dX8_headed_18 : decode cX8_headed 18 = .ok (.getfield 94, 3) := by decide +kernel
theorem dX8_headed_21 : decode cX8_headed 21 = .ok (.iload_n 1, 1) := by decide +kernel
theorem dX8_headed_22 : decode cX8_headed 22 = .ok (.iload_n 2, 1) := by decide +kernel
theorem dX8_headed_23 : decode cX8_headed 23 = .ok (.invokestatic 61, 3) := by decide +kernel
theorem dX8_headed_26 : decode cX8_headed 26 = .ok (.invokestatic 78, 3) := by decide +kernel
theorem dX8_headed_29 : decode cX8_headed 29 = .ok (.iconst 5, 1) := by decide +kernel
theorem dX8_headed_30 : decode cX8_headed 30 = .ok (.if_icmp .eq 5, 3) := by decide +kernel
theorem dX8_headed_33 : decode cX8_headed 33 = .ok (.iconst 3, 1) := by decide +kernel
theorem dX8_headed_34 : decode cX8_headed 34 = .ok (.istore_n 3, 1) := by decide +kernel
theorem dX8_headed_35 : decode cX8_headed 35 = .ok (.aload_n 0, 1) := by decide +kernel
theorem dX8_headed_36 : decode cX8_headed 36 = .ok (.iload_n 3, 1) := by decide +kernel
theorem dX8_headed_37 : decode cX8_headed 37 = .ok (.invokevirtual 42, 3) := by decide +kernel
theorem dX8_headed_40 : decode cX8_headed 40 = .ok (.ifCond .eq 5, 3) := by decide +kernel
theorem dX8_headed_43 : decode cX8_headed 43 = .ok (.iconst (-1), 1) := by decide +kernel
theorem dX8_headed_44 : decode cX8_headed 44 = .ok (.ireturn, 1) := by decide +kernel
theorem dX8_headed_45 : decode cX8_headed 45 = .ok (.aload_n 0, 1) := by decide +kernel
theorem dX8_headed_46 : decode cX8_headed 46 = .ok (.getfield 12, 3) := by decide +kernel
theorem dX8_headed_49 : decode cX8_headed 49 = .ok (.getfield 32, 3) := by decide +kernel
theorem dX8_headed_52 : decode cX8_headed 52 = .ok (.getfield 97, 3) := by decide +kernel
theorem dX8_headed_55 : decode cX8_headed 55 = .ok (.iload_n 1, 1) := by decide +kernel
theorem dX8_headed_56 : decode cX8_headed 56 = .ok (.iload_n 2, 1) := by decide +kernel
theorem dX8_headed_57 : decode cX8_headed 57 = .ok (.invokestatic 61, 3) := by decide +kernel
theorem dX8_headed_60 : decode cX8_headed 60 = .ok (.invokestatic 78, 3) := by decide +kernel
theorem dX8_headed_63 : decode cX8_headed 63 = .ok (.ireturn, 1) := by decide +kernel
set_option maxHeartbeats 4000000 in
set_option maxRecDepth 100000 in
theorem g_X8_headed (l : Launch) (G : xG) (S : yS) (d : yD) (q0 : Nat) (p0 : Int32) (p1 : Int32) (hSh : ySh S) (hPo : yPo S d) (hm_q0 : q0 ∈ S.1) (hk_q0 : S.2.1 q0 = 8) : xWi l G yX8_headed cX8_headed 4 (some .int) 4 88 0 0 [.ref q0, .int p0, .int p1] (yW G S d) (fun r (u : yD) => yAg S [8, 24] d u ∧ (yPo S d → yPo S u) ∧ (((r.toInt = -1 ∧ ¬ (((0 ≤ p0.toInt ∧ p0.toInt ≤ 39 ∧ p0.toInt < (d.1 (S.2.2.1 (S.2.2.1 q0 0) 0) 6).toInt) ∧ 0 ≤ p1.toInt ∧ p1.toInt ≤ 59) ∧ (xat 2402 (d.2.2.2.1 (S.2.2.1 (S.2.2.1 (S.2.2.1 q0 0) 0) 0)) (p0 * 60 + p1)).toInt ≠ 6 ∧ (xat 2402 (d.2.2.2.1 (S.2.2.1 (S.2.2.1 (S.2.2.1 q0 0) 0) 0)) (p0 * 60 + p1)).toInt = 5) ∧ zTm S d u (S.2.2.1 (S.2.2.1 q0 0) 0) (fun i => d.2.2.2.1 (S.2.2.1 (S.2.2.1 (S.2.2.1 q0 0) 0) i))) ∨ ((((0 ≤ p0.toInt ∧ p0.toInt ≤ 39 ∧ p0.toInt < (d.1 (S.2.2.1 (S.2.2.1 q0 0) 0) 6).toInt) ∧ 0 ≤ p1.toInt ∧ p1.toInt ≤ 59) ∧ (xat 2402 (d.2.2.2.1 (S.2.2.1 (S.2.2.1 (S.2.2.1 q0 0) 0) 0)) (p0 * 60 + p1)).toInt ≠ 6 ∧ (xat 2402 (d.2.2.2.1 (S.2.2.1 (S.2.2.1 (S.2.2.1 q0 0) 0) 0)) (p0 * 60 + p1)).toInt = 5) ∧ r = xat 2402 (d.2.2.2.1 (S.2.2.1 (S.2.2.1 (S.2.2.1 q0 0) 0) 2)) (p0 * 60 + p1) ∧ zTm S d u (S.2.2.1 (S.2.2.1 q0 0) 0) (fun i => d.2.2.2.1 (S.2.2.1 (S.2.2.1 (S.2.2.1 q0 0) 0) i)))) ∧ u.1 q0 4 = d.1 q0 4)) (fun u => yW G S u) := by
  intro sz
  refine xstart (by decide) (Nat.le_of_ble_eq_true rfl) (fun p e s m args below meth c ls C0 hr hlocks hin hsz hP hK hD hN hl => ?_)
  obtain ⟨hx, hb, hml, hown, htl⟩ := id C0
  subst hsz
  have hD := hD.self (sz := s.heap.size)
  generalize hAe : va_A (yW G S d) s.heap.size = A at hD ⊢
  have hA : ∀ q : Nat, s.heap.size ≤ q → A q := fun q h => by rw [← hAe]; exact Or.inr h
  have hS : va_S A s.heap s.heap [] := va_S.rf
  have hg0 : yAg S [8, 24] d d := yAg.rf
  have hl : lv_has ls 4 [(0, .ref q0), (1, .int p0), (2, .int p1)] := hl
  refine lv_aload_n hx hb dX8_headed_0 rfl (lv_at hl 0 rfl) ?_
  refine lv_iload_n hx hb dX8_headed_1 rfl (lv_at hl 1 rfl) ?_
  refine lv_iload_n hx hb dX8_headed_2 rfl (lv_at hl 2 rfl) ?_
  refine yVri (As := [.int p0, .int p1]) (rest := []) C0 (g_X8_thingReason l G S d q0 p0 p1 hSh hm_q0 hk_q0) ok_X8_thingReason (mW240 : Cond.methodLink RX8 91 yX8_thingReason ∈ wsT) ⟨Nat.le_of_ble_eq_true rfl, Nat.le_of_ble_eq_true rfl⟩ hP hD hK hN hm_q0 hk_q0 (by decide) rfl rfl rfl hl.1 rfl (Nat.le_of_ble_eq_true rfl) ⟨Nat.le_of_ble_eq_true rfl, Nat.le_of_ble_eq_true rfl⟩ dX8_headed_3 (fun r_1 hr_1 => ?_)
  have tr_1 := txh_ hr_1
  refine lv_istore_n (lv' := [(3, .int r_1), (0, .ref q0), (1, .int p0), (2, .int p1)]) hx hb dX8_headed_6 rfl hl (by decide) rfl (fun ls hl => ?_)
  refine lv_iload_n hx hb dX8_headed_7 rfl (lv_at hl 0 rfl) ?_
  refine lv_if_ne (tgt := 35) hx hb dX8_headed_8 (by decide) (fun c_2 => ?_) (fun c_2 => ?_)
  · refine lv_aload_n hx hb dX8_headed_35 rfl (lv_at hl 1 rfl) ?_
    refine lv_iload_n hx hb dX8_headed_36 rfl (lv_at hl 0 rfl) ?_
    refine yVwi (As := [.int r_1]) (rest := []) C0 (g_X8_refused l G S d q0 r_1 hSh hPo hm_q0 hk_q0) ok_X8_refused (mW160 : Cond.methodLink RX8 42 yX8_refused ∈ wsT) ⟨Nat.le_of_ble_eq_true rfl, Nat.le_of_ble_eq_true rfl⟩ hP hD hS hA hK hN hm_q0 hk_q0 (by decide) rfl rfl rfl hl.1 rfl (Nat.le_of_ble_eq_true rfl) ⟨Nat.le_of_ble_eq_true rfl, Nat.le_of_ble_eq_true rfl⟩ dX8_headed_37 (fun r_3 d_4 H locs hr_3 hP hD hS => ?_)
    obtain ⟨hgad_4, hpad_4, hxd_4⟩ := hr_3
    have hgd_4 : yAg S [8, 24] d d_4 := yAg.tr hg0 hgad_4 (by first | decide | exact fun _ h => h)
    have hPod_4 : yPo S d_4 := hpad_4 hPo
    have tr_3 := tr_ hxd_4.1
    refine lv_if_eq (tgt := 45) hx hb dX8_headed_40 (by decide) (fun c_5 => ?_) (fun c_5 => ?_)
    · refine lv_aload_n hx hb dX8_headed_45 rfl (lv_at hl 1 rfl) ?_
      refine yget (ci := 8) (k := 0) (v := .ref (S.2.2.1 q0 0)) (C := RX8) (T := TX8) (N := 6) C0 hK hP hm_q0 hk_q0 (by decide) rfl inlX8 (by decide) mW16 (fun _ h9 => h9) rfl dX8_headed_46 ?_
      obtain ⟨hmy_6, hky_6⟩ := ySh.f8_0 hSh _ hm_q0 hk_q0
      refine yget (ci := 0) (k := 0) (v := .ref (S.2.2.1 (S.2.2.1 q0 0) 0)) (C := RX0) (T := TX0) (N := 6) C0 hK hP hmy_6 hky_6 (by decide) rfl inlX0 (by decide) mW158 (fun _ h9 => h9) rfl dX8_headed_49 ?_
      obtain ⟨hmy_7, hky_7⟩ := ySh.f0_0 hSh _ hmy_6 hky_6
      refine yget (ci := 6) (k := 2) (v := .ref (S.2.2.1 (S.2.2.1 (S.2.2.1 q0 0) 0) 2)) (C := RX6) (T := TX6) (N := 7) C0 hK hP hmy_7 hky_7 (by decide) rfl inlX6 (by decide) mW293 (fun _ h9 => h9) rfl dX8_headed_52 ?_
      obtain ⟨hmy_8, hky_8⟩ := ySh.f6_2 hSh _ hmy_7 hky_7
      refine lv_iload_n hx hb dX8_headed_55 rfl (lv_at hl 2 rfl) ?_
      refine lv_iload_n hx hb dX8_headed_56 rfl (lv_at hl 3 rfl) ?_
      refine ySri (As := [.int p0, .int p1]) (rest := [.ref (S.2.2.1 (S.2.2.1 (S.2.2.1 q0 0) 0) 2)]) C0 (g_X8_rowOf l G S d_4 p0 p1 ) ok_X8_rowOf (mW210 : Cond.methodLink RX8 61 yX8_rowOf ∈ wsT) ⟨Nat.le_of_ble_eq_true rfl, Nat.le_of_ble_eq_true rfl⟩ hP hD hK hN rfl hl.1 rfl (Nat.le_of_ble_eq_true rfl) ⟨Nat.le_of_ble_eq_true rfl, Nat.le_of_ble_eq_true rfl⟩ dX8_headed_57 (fun r_9 hr_9 => ?_)
      refine ySri (As := [.ref (S.2.2.1 (S.2.2.1 (S.2.2.1 q0 0) 0) 2), .int r_9]) (rest := []) C0 (g_X8_at l G S d_4 (S.2.2.1 (S.2.2.1 (S.2.2.1 q0 0) 0) 2) 12 r_9 hmy_8 hky_8 (by decide) rfl rfl (by decide)) ok_X8_at (mW165 : Cond.methodLink RX8 78 yX8_at ∈ wsT) ⟨Nat.le_of_ble_eq_true rfl, Nat.le_of_ble_eq_true rfl⟩ hP hD hK hN rfl hl.1 rfl (Nat.le_of_ble_eq_true rfl) ⟨Nat.le_of_ble_eq_true rfl, Nat.le_of_ble_eq_true rfl⟩ dX8_headed_60 (fun r_10 hr_10 => ?_)
      have hL_11 : (5 : Int32).toInt = 5 := by decide +kernel
      have F_12 := fne (rfl : (r_1 : Int32).toInt = (r_1 : Int32).toInt) (by decide +kernel : (0 : Int32).toInt = 0) c_2
      have F_13 := feq (rfl : (r_3 : Int32).toInt = (r_3 : Int32).toInt) (by decide +kernel : (0 : Int32).toInt = 0) c_5
      exact W.iret (v := r_10) hx hb hr (fun t ht hW => ⟨⟨r_10, d_4, rfl, ⟨hgd_4, (fun _ => hPod_4), ⟨Or.inr ⟨by omega, (hr_10.trans (by rw [show d_4.2.2.2.1 (S.2.2.1 (S.2.2.1 (S.2.2.1 q0 0) 0) 2) = d.2.2.2.1 (S.2.2.1 (S.2.2.1 (S.2.2.1 q0 0) 0) 2) from ((zTm.ag zTm.rf hSh hmy_7 hky_7 hgad_4 (by decide))).1 2 (by decide), hr_9]; rfl)), (zTm.ag zTm.rf hSh hmy_7 hky_7 hgad_4 (by decide))⟩, (hxd_4.2)⟩⟩, by rw [ht]; exact hP, hD⟩, hS.F ht⟩) hS.2.2 dX8_headed_63
    · refine lv_iconst (v := (-1)) hx hb dX8_headed_43 (by decide) ?_
      have hL_14 : (5 : Int32).toInt = 5 := by decide +kernel
      have F_15 := fne (rfl : (r_1 : Int32).toInt = (r_1 : Int32).toInt) (by decide +kernel : (0 : Int32).toInt = 0) c_2
      have F_16 := fne (rfl : (r_3 : Int32).toInt = (r_3 : Int32).toInt) (by decide +kernel : (0 : Int32).toInt = 0) c_5
      obtain ⟨hmy_17, hky_17⟩ := ySh.f8_0 hSh _ hm_q0 hk_q0
      obtain ⟨hmy_18, hky_18⟩ := ySh.f0_0 hSh _ hmy_17 hky_17
      exact W.iret (v := (-1)) hx hb hr (fun t ht hW => ⟨⟨(-1), d_4, rfl, ⟨hgd_4, (fun _ => hPod_4), ⟨Or.inl ⟨by have h0_ : ((-1) : Int32).toInt = (-1) := (by decide +kernel); omega, by omega, (zTm.ag zTm.rf hSh hmy_18 hky_18 hgad_4 (by decide))⟩, (hxd_4.2)⟩⟩, by rw [ht]; exact hP, hD⟩, hS.F ht⟩) hS.2.2 dX8_headed_44
  · refine lv_aload_n hx hb dX8_headed_11 rfl (lv_at hl 1 rfl) ?_
    refine yget (ci := 8) (k := 0) (v := .ref (S.2.2.1 q0 0)) (C := RX8) (T := TX8) (N := 6) C0 hK hP hm_q0 hk_q0 (by decide) rfl inlX8 (by decide) mW16 (fun _ h9 => h9) rfl dX8_headed_12 ?_
    obtain ⟨hmy_19, hky_19⟩ := ySh.f8_0 hSh _ hm_q0 hk_q0
    refine yget (ci := 0) (k := 0) (v := .ref (S.2.2.1 (S.2.2.1 q0 0) 0)) (C := RX0) (T := TX0) (N := 6) C0 hK hP hmy_19 hky_19 (by decide) rfl inlX0 (by decide) mW158 (fun _ h9 => h9) rfl dX8_headed_15 ?_
    obtain ⟨hmy_20, hky_20⟩ := ySh.f0_0 hSh _ hmy_19 hky_19
    refine yget (ci := 6) (k := 0) (v := .ref (S.2.2.1 (S.2.2.1 (S.2.2.1 q0 0) 0) 0)) (C := RX6) (T := TX6) (N := 7) C0 hK hP hmy_20 hky_20 (by decide) rfl inlX6 (by decide) mW239 (fun _ h9 => h9) rfl dX8_headed_18 ?_
    obtain ⟨hmy_21, hky_21⟩ := ySh.f6_0 hSh _ hmy_20 hky_20
    refine lv_iload_n hx hb dX8_headed_21 rfl (lv_at hl 2 rfl) ?_
    refine lv_iload_n hx hb dX8_headed_22 rfl (lv_at hl 3 rfl) ?_
    refine ySri (As := [.int p0, .int p1]) (rest := [.ref (S.2.2.1 (S.2.2.1 (S.2.2.1 q0 0) 0) 0)]) C0 (g_X8_rowOf l G S d p0 p1 ) ok_X8_rowOf (mW210 : Cond.methodLink RX8 61 yX8_rowOf ∈ wsT) ⟨Nat.le_of_ble_eq_true rfl, Nat.le_of_ble_eq_true rfl⟩ hP hD hK hN rfl hl.1 rfl (Nat.le_of_ble_eq_true rfl) ⟨Nat.le_of_ble_eq_true rfl, Nat.le_of_ble_eq_true rfl⟩ dX8_headed_23 (fun r_22 hr_22 => ?_)
    refine ySri (As := [.ref (S.2.2.1 (S.2.2.1 (S.2.2.1 q0 0) 0) 0), .int r_22]) (rest := []) C0 (g_X8_at l G S d (S.2.2.1 (S.2.2.1 (S.2.2.1 q0 0) 0) 0) 10 r_22 hmy_21 hky_21 (by decide) rfl rfl (by decide)) ok_X8_at (mW165 : Cond.methodLink RX8 78 yX8_at ∈ wsT) ⟨Nat.le_of_ble_eq_true rfl, Nat.le_of_ble_eq_true rfl⟩ hP hD hK hN rfl hl.1 rfl (Nat.le_of_ble_eq_true rfl) ⟨Nat.le_of_ble_eq_true rfl, Nat.le_of_ble_eq_true rfl⟩ dX8_headed_26 (fun r_23 hr_23 => ?_)
    refine lv_iconst (v := 5) hx hb dX8_headed_29 (by decide) ?_
    refine lv_icmp_eq (tgt := 35) hx hb dX8_headed_30 (by decide) (fun c_24 => ?_) (fun c_24 => ?_)
    · refine lv_aload_n hx hb dX8_headed_35 rfl (lv_at hl 1 rfl) ?_
      refine lv_iload_n hx hb dX8_headed_36 rfl (lv_at hl 0 rfl) ?_
      refine yVwi (As := [.int r_1]) (rest := []) C0 (g_X8_refused l G S d q0 r_1 hSh hPo hm_q0 hk_q0) ok_X8_refused (mW160 : Cond.methodLink RX8 42 yX8_refused ∈ wsT) ⟨Nat.le_of_ble_eq_true rfl, Nat.le_of_ble_eq_true rfl⟩ hP hD hS hA hK hN hm_q0 hk_q0 (by decide) rfl rfl rfl hl.1 rfl (Nat.le_of_ble_eq_true rfl) ⟨Nat.le_of_ble_eq_true rfl, Nat.le_of_ble_eq_true rfl⟩ dX8_headed_37 (fun r_25 d_26 H locs hr_25 hP hD hS => ?_)
      obtain ⟨hgad_26, hpad_26, hxd_26⟩ := hr_25
      have hgd_26 : yAg S [8, 24] d d_26 := yAg.tr hg0 hgad_26 (by first | decide | exact fun _ h => h)
      have hPod_26 : yPo S d_26 := hpad_26 hPo
      have tr_25 := tr_ hxd_26.1
      refine lv_if_eq (tgt := 45) hx hb dX8_headed_40 (by decide) (fun c_27 => ?_) (fun c_27 => ?_)
      · refine lv_aload_n hx hb dX8_headed_45 rfl (lv_at hl 1 rfl) ?_
        refine yget (ci := 8) (k := 0) (v := .ref (S.2.2.1 q0 0)) (C := RX8) (T := TX8) (N := 6) C0 hK hP hm_q0 hk_q0 (by decide) rfl inlX8 (by decide) mW16 (fun _ h9 => h9) rfl dX8_headed_46 ?_
        refine yget (ci := 0) (k := 0) (v := .ref (S.2.2.1 (S.2.2.1 q0 0) 0)) (C := RX0) (T := TX0) (N := 6) C0 hK hP hmy_19 hky_19 (by decide) rfl inlX0 (by decide) mW158 (fun _ h9 => h9) rfl dX8_headed_49 ?_
        refine yget (ci := 6) (k := 2) (v := .ref (S.2.2.1 (S.2.2.1 (S.2.2.1 q0 0) 0) 2)) (C := RX6) (T := TX6) (N := 7) C0 hK hP hmy_20 hky_20 (by decide) rfl inlX6 (by decide) mW293 (fun _ h9 => h9) rfl dX8_headed_52 ?_
        obtain ⟨hmy_28, hky_28⟩ := ySh.f6_2 hSh _ hmy_20 hky_20
        refine lv_iload_n hx hb dX8_headed_55 rfl (lv_at hl 2 rfl) ?_
        refine lv_iload_n hx hb dX8_headed_56 rfl (lv_at hl 3 rfl) ?_
        refine ySri (As := [.int p0, .int p1]) (rest := [.ref (S.2.2.1 (S.2.2.1 (S.2.2.1 q0 0) 0) 2)]) C0 (g_X8_rowOf l G S d_26 p0 p1 ) ok_X8_rowOf (mW210 : Cond.methodLink RX8 61 yX8_rowOf ∈ wsT) ⟨Nat.le_of_ble_eq_true rfl, Nat.le_of_ble_eq_true rfl⟩ hP hD hK hN rfl hl.1 rfl (Nat.le_of_ble_eq_true rfl) ⟨Nat.le_of_ble_eq_true rfl, Nat.le_of_ble_eq_true rfl⟩ dX8_headed_57 (fun r_29 hr_29 => ?_)
        refine ySri (As := [.ref (S.2.2.1 (S.2.2.1 (S.2.2.1 q0 0) 0) 2), .int r_29]) (rest := []) C0 (g_X8_at l G S d_26 (S.2.2.1 (S.2.2.1 (S.2.2.1 q0 0) 0) 2) 12 r_29 hmy_28 hky_28 (by decide) rfl rfl (by decide)) ok_X8_at (mW165 : Cond.methodLink RX8 78 yX8_at ∈ wsT) ⟨Nat.le_of_ble_eq_true rfl, Nat.le_of_ble_eq_true rfl⟩ hP hD hK hN rfl hl.1 rfl (Nat.le_of_ble_eq_true rfl) ⟨Nat.le_of_ble_eq_true rfl, Nat.le_of_ble_eq_true rfl⟩ dX8_headed_60 (fun r_30 hr_30 => ?_)
        have hkar_23 : (r_23 : Int32).toInt = (xat 2402 (d.2.2.2.1 (S.2.2.1 (S.2.2.1 (S.2.2.1 q0 0) 0) 0)) (p0 * 60 + p1)).toInt := congrArg Int32.toInt ((hr_23.trans (by rw [show d.2.2.2.1 (S.2.2.1 (S.2.2.1 (S.2.2.1 q0 0) 0) 0) = d.2.2.2.1 (S.2.2.1 (S.2.2.1 (S.2.2.1 q0 0) 0) 0) from (zTm.rf).1 0 (by decide), hr_22]; rfl)))
        have hL_31 : (5 : Int32).toInt = 5 := by decide +kernel
        have F_32 := feq (rfl : (r_1 : Int32).toInt = (r_1 : Int32).toInt) (by decide +kernel : (0 : Int32).toInt = 0) c_2
        have F_33 := feq (rfl : (r_23 : Int32).toInt = (r_23 : Int32).toInt) (by decide +kernel : (5 : Int32).toInt = 5) c_24
        have F_34 := feq (rfl : (r_25 : Int32).toInt = (r_25 : Int32).toInt) (by decide +kernel : (0 : Int32).toInt = 0) c_27
        exact W.iret (v := r_30) hx hb hr (fun t ht hW => ⟨⟨r_30, d_26, rfl, ⟨hgd_26, (fun _ => hPod_26), ⟨Or.inr ⟨by omega, (hr_30.trans (by rw [show d_26.2.2.2.1 (S.2.2.1 (S.2.2.1 (S.2.2.1 q0 0) 0) 2) = d.2.2.2.1 (S.2.2.1 (S.2.2.1 (S.2.2.1 q0 0) 0) 2) from ((zTm.ag zTm.rf hSh hmy_20 hky_20 hgad_26 (by decide))).1 2 (by decide), hr_29]; rfl)), (zTm.ag zTm.rf hSh hmy_20 hky_20 hgad_26 (by decide))⟩, (hxd_26.2)⟩⟩, by rw [ht]; exact hP, hD⟩, hS.F ht⟩) hS.2.2 dX8_headed_63
      · refine lv_iconst (v := (-1)) hx hb dX8_headed_43 (by decide) ?_
        have hkar_23 : (r_23 : Int32).toInt = (xat 2402 (d.2.2.2.1 (S.2.2.1 (S.2.2.1 (S.2.2.1 q0 0) 0) 0)) (p0 * 60 + p1)).toInt := congrArg Int32.toInt ((hr_23.trans (by rw [show d.2.2.2.1 (S.2.2.1 (S.2.2.1 (S.2.2.1 q0 0) 0) 0) = d.2.2.2.1 (S.2.2.1 (S.2.2.1 (S.2.2.1 q0 0) 0) 0) from (zTm.rf).1 0 (by decide), hr_22]; rfl)))
        have hL_35 : (5 : Int32).toInt = 5 := by decide +kernel
        have F_36 := feq (rfl : (r_1 : Int32).toInt = (r_1 : Int32).toInt) (by decide +kernel : (0 : Int32).toInt = 0) c_2
        have F_37 := feq (rfl : (r_23 : Int32).toInt = (r_23 : Int32).toInt) (by decide +kernel : (5 : Int32).toInt = 5) c_24
        have F_38 := fne (rfl : (r_25 : Int32).toInt = (r_25 : Int32).toInt) (by decide +kernel : (0 : Int32).toInt = 0) c_27
        exact W.iret (v := (-1)) hx hb hr (fun t ht hW => ⟨⟨(-1), d_26, rfl, ⟨hgd_26, (fun _ => hPod_26), ⟨Or.inl ⟨by have h0_ : ((-1) : Int32).toInt = (-1) := (by decide +kernel); omega, by omega, (zTm.ag zTm.rf hSh hmy_20 hky_20 hgad_26 (by decide))⟩, (hxd_26.2)⟩⟩, by rw [ht]; exact hP, hD⟩, hS.F ht⟩) hS.2.2 dX8_headed_44
    · refine lv_iconst (v := 3) hx hb dX8_headed_33 (by decide) ?_
      refine lv_istore_n (lv' := [(3, .int 3), (0, .ref q0), (1, .int p0), (2, .int p1)]) hx hb dX8_headed_34 rfl hl (by decide) rfl (fun ls hl => ?_)
      refine lv_aload_n hx hb dX8_headed_35 rfl (lv_at hl 1 rfl) ?_
      refine lv_iload_n hx hb dX8_headed_36 rfl (lv_at hl 0 rfl) ?_
      refine yVwi (As := [.int 3]) (rest := []) C0 (g_X8_refused l G S d q0 3 hSh hPo hm_q0 hk_q0) ok_X8_refused (mW160 : Cond.methodLink RX8 42 yX8_refused ∈ wsT) ⟨Nat.le_of_ble_eq_true rfl, Nat.le_of_ble_eq_true rfl⟩ hP hD hS hA hK hN hm_q0 hk_q0 (by decide) rfl rfl rfl hl.1 rfl (Nat.le_of_ble_eq_true rfl) ⟨Nat.le_of_ble_eq_true rfl, Nat.le_of_ble_eq_true rfl⟩ dX8_headed_37 (fun r_39 d_40 H locs hr_39 hP hD hS => ?_)
      obtain ⟨hgad_40, hpad_40, hxd_40⟩ := hr_39
      have hgd_40 : yAg S [8, 24] d d_40 := yAg.tr hg0 hgad_40 (by first | decide | exact fun _ h => h)
      have hPod_40 : yPo S d_40 := hpad_40 hPo
      have hL_41 : (3 : Int32).toInt = 3 := by decide +kernel
      have tr_39 := tr_ hxd_40.1
      refine lv_if_eq (tgt := 45) hx hb dX8_headed_40 (by decide) (fun c_42 => ?_) (fun c_42 => ?_)
      · refine lv_aload_n hx hb dX8_headed_45 rfl (lv_at hl 1 rfl) ?_
        refine yget (ci := 8) (k := 0) (v := .ref (S.2.2.1 q0 0)) (C := RX8) (T := TX8) (N := 6) C0 hK hP hm_q0 hk_q0 (by decide) rfl inlX8 (by decide) mW16 (fun _ h9 => h9) rfl dX8_headed_46 ?_
        refine yget (ci := 0) (k := 0) (v := .ref (S.2.2.1 (S.2.2.1 q0 0) 0)) (C := RX0) (T := TX0) (N := 6) C0 hK hP hmy_19 hky_19 (by decide) rfl inlX0 (by decide) mW158 (fun _ h9 => h9) rfl dX8_headed_49 ?_
        refine yget (ci := 6) (k := 2) (v := .ref (S.2.2.1 (S.2.2.1 (S.2.2.1 q0 0) 0) 2)) (C := RX6) (T := TX6) (N := 7) C0 hK hP hmy_20 hky_20 (by decide) rfl inlX6 (by decide) mW293 (fun _ h9 => h9) rfl dX8_headed_52 ?_
        obtain ⟨hmy_43, hky_43⟩ := ySh.f6_2 hSh _ hmy_20 hky_20
        refine lv_iload_n hx hb dX8_headed_55 rfl (lv_at hl 2 rfl) ?_
        refine lv_iload_n hx hb dX8_headed_56 rfl (lv_at hl 3 rfl) ?_
        refine ySri (As := [.int p0, .int p1]) (rest := [.ref (S.2.2.1 (S.2.2.1 (S.2.2.1 q0 0) 0) 2)]) C0 (g_X8_rowOf l G S d_40 p0 p1 ) ok_X8_rowOf (mW210 : Cond.methodLink RX8 61 yX8_rowOf ∈ wsT) ⟨Nat.le_of_ble_eq_true rfl, Nat.le_of_ble_eq_true rfl⟩ hP hD hK hN rfl hl.1 rfl (Nat.le_of_ble_eq_true rfl) ⟨Nat.le_of_ble_eq_true rfl, Nat.le_of_ble_eq_true rfl⟩ dX8_headed_57 (fun r_44 hr_44 => ?_)
        refine ySri (As := [.ref (S.2.2.1 (S.2.2.1 (S.2.2.1 q0 0) 0) 2), .int r_44]) (rest := []) C0 (g_X8_at l G S d_40 (S.2.2.1 (S.2.2.1 (S.2.2.1 q0 0) 0) 2) 12 r_44 hmy_43 hky_43 (by decide) rfl rfl (by decide)) ok_X8_at (mW165 : Cond.methodLink RX8 78 yX8_at ∈ wsT) ⟨Nat.le_of_ble_eq_true rfl, Nat.le_of_ble_eq_true rfl⟩ hP hD hK hN rfl hl.1 rfl (Nat.le_of_ble_eq_true rfl) ⟨Nat.le_of_ble_eq_true rfl, Nat.le_of_ble_eq_true rfl⟩ dX8_headed_60 (fun r_45 hr_45 => ?_)
        have hkar_23 : (r_23 : Int32).toInt = (xat 2402 (d.2.2.2.1 (S.2.2.1 (S.2.2.1 (S.2.2.1 q0 0) 0) 0)) (p0 * 60 + p1)).toInt := congrArg Int32.toInt ((hr_23.trans (by rw [show d.2.2.2.1 (S.2.2.1 (S.2.2.1 (S.2.2.1 q0 0) 0) 0) = d.2.2.2.1 (S.2.2.1 (S.2.2.1 (S.2.2.1 q0 0) 0) 0) from (zTm.rf).1 0 (by decide), hr_22]; rfl)))
        have hL_46 : (5 : Int32).toInt = 5 := by decide +kernel
        have F_47 := feq (rfl : (r_1 : Int32).toInt = (r_1 : Int32).toInt) (by decide +kernel : (0 : Int32).toInt = 0) c_2
        have F_48 := fne (rfl : (r_23 : Int32).toInt = (r_23 : Int32).toInt) (by decide +kernel : (5 : Int32).toInt = 5) c_24
        have F_49 := feq (rfl : (r_39 : Int32).toInt = (r_39 : Int32).toInt) (by decide +kernel : (0 : Int32).toInt = 0) c_42
        exact W.iret (v := r_45) hx hb hr (fun t ht hW => ⟨⟨r_45, d_40, rfl, ⟨hgd_40, (fun _ => hPod_40), ⟨Or.inr ⟨by omega, (hr_45.trans (by rw [show d_40.2.2.2.1 (S.2.2.1 (S.2.2.1 (S.2.2.1 q0 0) 0) 2) = d.2.2.2.1 (S.2.2.1 (S.2.2.1 (S.2.2.1 q0 0) 0) 2) from ((zTm.ag zTm.rf hSh hmy_20 hky_20 hgad_40 (by decide))).1 2 (by decide), hr_44]; rfl)), (zTm.ag zTm.rf hSh hmy_20 hky_20 hgad_40 (by decide))⟩, (hxd_40.2)⟩⟩, by rw [ht]; exact hP, hD⟩, hS.F ht⟩) hS.2.2 dX8_headed_63
      · refine lv_iconst (v := (-1)) hx hb dX8_headed_43 (by decide) ?_
        have hkar_23 : (r_23 : Int32).toInt = (xat 2402 (d.2.2.2.1 (S.2.2.1 (S.2.2.1 (S.2.2.1 q0 0) 0) 0)) (p0 * 60 + p1)).toInt := congrArg Int32.toInt ((hr_23.trans (by rw [show d.2.2.2.1 (S.2.2.1 (S.2.2.1 (S.2.2.1 q0 0) 0) 0) = d.2.2.2.1 (S.2.2.1 (S.2.2.1 (S.2.2.1 q0 0) 0) 0) from (zTm.rf).1 0 (by decide), hr_22]; rfl)))
        have hL_50 : (5 : Int32).toInt = 5 := by decide +kernel
        have F_51 := feq (rfl : (r_1 : Int32).toInt = (r_1 : Int32).toInt) (by decide +kernel : (0 : Int32).toInt = 0) c_2
        have F_52 := fne (rfl : (r_23 : Int32).toInt = (r_23 : Int32).toInt) (by decide +kernel : (5 : Int32).toInt = 5) c_24
        have F_53 := fne (rfl : (r_39 : Int32).toInt = (r_39 : Int32).toInt) (by decide +kernel : (0 : Int32).toInt = 0) c_42
        exact W.iret (v := (-1)) hx hb hr (fun t ht hW => ⟨⟨(-1), d_40, rfl, ⟨hgd_40, (fun _ => hPod_40), ⟨Or.inl ⟨by have h0_ : ((-1) : Int32).toInt = (-1) := (by decide +kernel); omega, by omega, (zTm.ag zTm.rf hSh hmy_20 hky_20 hgad_40 (by decide))⟩, (hxd_40.2)⟩⟩, by rw [ht]; exact hP, hD⟩, hS.F ht⟩) hS.2.2 dX8_headed_44
theorem dX8_span_0 : decode cX8_span 0 = .ok (.aload_n 0, 1) := by decide +kernel
theorem dX8_span_1 : decode cX8_span 1 = .ok (.aload_n 0, 1) := by decide +kernel
theorem dX8_span_2 : decode cX8_span 2 = .ok (.iload_n 1, 1) := by decide +kernel
theorem dX8_span_3 : decode cX8_span 3 = .ok (.iload_n 2, 1) := by decide +kernel
theorem dX8_span_4 : decode cX8_span 4 = .ok (.invokevirtual 68, 3) := by decide +kernel
theorem dX8_span_7 : decode cX8_span 7 = .ok (.iload_n 3, 1) := by decide +kernel
theorem dX8_span_8 : decode cX8_span 8 = .ok (.iconst 0, 1) := by decide +kernel
theorem dX8_span_9 : decode cX8_span 9 = .ok (.iconst 4, 1) := by decide +kernel
theorem dX8_span_10 : decode cX8_span 10 = .ok (.invokestatic 71, 3) := by decide +kernel
theorem dX8_span_13 : decode cX8_span 13 = .ok (.invokestatic 54, 3) := by decide +kernel
theorem dX8_span_16 : decode cX8_span 16 = .ok (.invokestatic 58, 3) := by decide +kernel
theorem dX8_span_19 : decode cX8_span 19 = .ok (.invokevirtual 42, 3) := by decide +kernel
theorem dX8_span_22 : decode cX8_span 22 = .ok (.ifCond .eq 5, 3) := by decide +kernel
theorem dX8_span_25 : decode cX8_span 25 = .ok (.iconst (-1), 1) := by decide +kernel
theorem dX8_span_26 : decode cX8_span 26 = .ok (.ireturn, 1) := by decide +kernel
theorem dX8_span_27 : decode cX8_span 27 = .ok (.iload_n 1, 1) := by decide +kernel
theorem dX8_span_28 : decode cX8_span 28 = .ok (.iload_n 2, 1) := by decide +kernel
theorem dX8_span_29 : decode cX8_span 29 = .ok (.invokestatic 61, 3) := by decide +kernel
theorem dX8_span_32 : decode cX8_span 32 = .ok (.istore 4, 2) := by decide +kernel
theorem dX8_span_34 : decode cX8_span 34 = .ok (.iload_n 3, 1) := by decide +kernel
theorem dX8_span_35 : decode cX8_span 35 = .ok (.tableswitch 93 0 3 #[29, 45, 61, 77], 29) := by decide +kernel
theorem dX8_span_64 : decode cX8_span 64 = .ok (.aload_n 0, 1) := by decide +kernel
theorem dX8_span_65 : decode cX8_span 65 = .ok (.getfield 12, 3) := by decide +kernel
theorem dX8_span_68 : decode cX8_span 68 = .ok (.getfield 32, 3) := by decide +kernel
theorem dX8_span_71 : decode cX8_span 71 = .ok (.getfield 100, 3) := by decide +kernel
theorem dX8_span_74 : decode cX8_span 74 = .ok (.iload 4, 2) := by decide +kernel
theorem dX8_span_76 : decode cX8_span 76 = .ok (.invokestatic 78, 3) := by decide +kernel
theorem dX8_span_79 : decode cX8_span 79 = .ok (.ireturn, 1) := by decide +kernel
theorem dX8_span_80 : decode cX8_span 80 = .ok (.aload_n 0, 1) := by decide +kernel
theorem dX8_span_81 : decode cX8_span 81 = .ok (.getfield 12, 3) := by decide +kernel
theorem dX8_span_84 : decode cX8_span 84 = .ok (.getfield 32, 3) := by decide +kernel
theorem dX8_span_87 : decode cX8_span 87 = .ok (.getfield 97, 3) := by decide +kernel
theorem dX8_span_90 : decode cX8_span 90 = .ok (.iload 4, 2) := by decide +kernel
theorem dX8_span_92 : decode cX8_span 92 = .ok (.invokestatic 78, 3) := by decide +kernel
theorem dX8_span_95 : decode cX8_span 95 = .ok (.ireturn, 1) := by decide +kernel
theorem dX8_span_96 : decode cX8_span 96 = .ok (.aload_n 0, 1) := by decide +kernel
theorem dX8_span_97 : decode cX8_span 97 = .ok (.getfield 12, 3) := by decide +kernel
theorem dX8_span_100 : decode cX8_span 100 = .ok (.getfield 32, 3) := by decide +kernel
theorem dX8_span_103 : decode cX8_span 103 = .ok (.getfield 103, 3) := by decide +kernel
theorem dX8_span_106 : decode cX8_span 106 = .ok (.iload 4, 2) := by decide +kernel
theorem dX8_span_108 : decode cX8_span 108 = .ok (.invokestatic 78, 3) := by decide +kernel
theorem dX8_span_111 : decode cX8_span 111 = .ok (.ireturn, 1) := by decide +kernel
theorem dX8_span_112 : decode cX8_span 112 = .ok (.aload_n 0, 1) := by decide +kernel
theorem dX8_span_113 : decode cX8_span 113 = .ok (.getfield 12, 3) := by decide +kernel
theorem dX8_span_116 : decode cX8_span 116 = .ok (.getfield 32, 3) := by decide +kernel
theorem dX8_span_119 : decode cX8_span 119 = .ok (.getfield 75, 3) := by decide +kernel
theorem dX8_span_122 : decode cX8_span 122 = .ok (.iload 4, 2) := by decide +kernel
theorem dX8_span_124 : decode cX8_span 124 = .ok (.invokestatic 78, 3) := by decide +kernel
theorem dX8_span_127 : decode cX8_span 127 = .ok (.ireturn, 1) := by decide +kernel
theorem dX8_span_128 : decode cX8_span 128 = .ok (.aload_n 0, 1) := by decide +kernel
theorem dX8_span_129 : decode cX8_span 129 = .ok (.getfield 12, 3) := by decide +kernel
theorem dX8_span_132 : decode cX8_span 132 = .ok (.getfield 32, 3) := by decide +kernel
theorem dX8_span_135 : decode cX8_span 135 = .ok (.getfield 88, 3) := by decide +kernel
theorem dX8_span_138 : decode cX8_span 138 = .ok (.iload 4, 2) := by decide +kernel
theorem dX8_span_140 : decode cX8_span 140 = .ok (.invokestatic 78, 3) := by decide +kernel
theorem dX8_span_143 : decode cX8_span 143 = .ok (.ireturn, 1) := by decide +kernel
set_option maxHeartbeats 4000000 in
set_option maxRecDepth 100000 in
theorem g_X8_span (l : Launch) (G : xG) (S : yS) (d : yD) (q0 : Nat) (p0 : Int32) (p1 : Int32) (p2 : Int32) (hSh : ySh S) (hPo : yPo S d) (hm_q0 : q0 ∈ S.1) (hk_q0 : S.2.1 q0 = 8) : xWi l G yX8_span cX8_span 5 (some .int) 5 111 0 0 [.ref q0, .int p0, .int p1, .int p2] (yW G S d) (fun r (u : yD) => yAg S [8, 24] d u ∧ (yPo S d → yPo S u) ∧ (((r.toInt = -1 ∧ ¬ ((((0 ≤ p0.toInt ∧ p0.toInt ≤ 39 ∧ p0.toInt < (d.1 (S.2.2.1 (S.2.2.1 q0 0) 0) 6).toInt) ∧ 0 ≤ p1.toInt ∧ p1.toInt ≤ 59) ∧ (xat 2402 (d.2.2.2.1 (S.2.2.1 (S.2.2.1 (S.2.2.1 q0 0) 0) 0)) (p0 * 60 + p1)).toInt ≠ 6 ∧ (xat 2402 (d.2.2.2.1 (S.2.2.1 (S.2.2.1 (S.2.2.1 q0 0) 0) 0)) (p0 * 60 + p1)).toInt ≠ 5) ∧ 0 ≤ p2.toInt ∧ p2.toInt ≤ 4) ∧ zTm S d u (S.2.2.1 (S.2.2.1 q0 0) 0) (fun i => d.2.2.2.1 (S.2.2.1 (S.2.2.1 (S.2.2.1 q0 0) 0) i))) ∨ (((((0 ≤ p0.toInt ∧ p0.toInt ≤ 39 ∧ p0.toInt < (d.1 (S.2.2.1 (S.2.2.1 q0 0) 0) 6).toInt) ∧ 0 ≤ p1.toInt ∧ p1.toInt ≤ 59) ∧ (xat 2402 (d.2.2.2.1 (S.2.2.1 (S.2.2.1 (S.2.2.1 q0 0) 0) 0)) (p0 * 60 + p1)).toInt ≠ 6 ∧ (xat 2402 (d.2.2.2.1 (S.2.2.1 (S.2.2.1 (S.2.2.1 q0 0) 0) 0)) (p0 * 60 + p1)).toInt ≠ 5) ∧ 0 ≤ p2.toInt ∧ p2.toInt ≤ 4) ∧ ((p2.toInt = 0 → r = xat 2402 (d.2.2.2.1 (S.2.2.1 (S.2.2.1 (S.2.2.1 q0 0) 0) 1)) (p0 * 60 + p1)) ∧ (p2.toInt = 1 → r = xat 2402 (d.2.2.2.1 (S.2.2.1 (S.2.2.1 (S.2.2.1 q0 0) 0) 2)) (p0 * 60 + p1)) ∧ (p2.toInt = 2 → r = xat 2402 (d.2.2.2.1 (S.2.2.1 (S.2.2.1 (S.2.2.1 q0 0) 0) 3)) (p0 * 60 + p1)) ∧ (p2.toInt = 3 → r = xat 2402 (d.2.2.2.1 (S.2.2.1 (S.2.2.1 (S.2.2.1 q0 0) 0) 4)) (p0 * 60 + p1)) ∧ (p2.toInt = 4 → r = xat 2402 (d.2.2.2.1 (S.2.2.1 (S.2.2.1 (S.2.2.1 q0 0) 0) 5)) (p0 * 60 + p1))) ∧ zTm S d u (S.2.2.1 (S.2.2.1 q0 0) 0) (fun i => d.2.2.2.1 (S.2.2.1 (S.2.2.1 (S.2.2.1 q0 0) 0) i)))) ∧ u.1 q0 4 = d.1 q0 4)) (fun u => yW G S u) := by
  intro sz
  refine xstart (by decide) (Nat.le_of_ble_eq_true rfl) (fun p e s m args below meth c ls C0 hr hlocks hin hsz hP hK hD hN hl => ?_)
  obtain ⟨hx, hb, hml, hown, htl⟩ := id C0
  subst hsz
  have hD := hD.self (sz := s.heap.size)
  generalize hAe : va_A (yW G S d) s.heap.size = A at hD ⊢
  have hA : ∀ q : Nat, s.heap.size ≤ q → A q := fun q h => by rw [← hAe]; exact Or.inr h
  have hS : va_S A s.heap s.heap [] := va_S.rf
  have hg0 : yAg S [8, 24] d d := yAg.rf
  have hl : lv_has ls 5 [(0, .ref q0), (1, .int p0), (2, .int p1), (3, .int p2)] := hl
  refine lv_aload_n hx hb dX8_span_0 rfl (lv_at hl 0 rfl) ?_
  refine lv_aload_n hx hb dX8_span_1 rfl (lv_at hl 0 rfl) ?_
  refine lv_iload_n hx hb dX8_span_2 rfl (lv_at hl 1 rfl) ?_
  refine lv_iload_n hx hb dX8_span_3 rfl (lv_at hl 2 rfl) ?_
  refine yVri (As := [.int p0, .int p1]) (rest := [.ref q0]) C0 (g_X8_termReason l G S d q0 p0 p1 hSh hm_q0 hk_q0) ok_X8_termReason (mW235 : Cond.methodLink RX8 68 yX8_termReason ∈ wsT) ⟨Nat.le_of_ble_eq_true rfl, Nat.le_of_ble_eq_true rfl⟩ hP hD hK hN hm_q0 hk_q0 (by decide) rfl rfl rfl hl.1 rfl (Nat.le_of_ble_eq_true rfl) ⟨Nat.le_of_ble_eq_true rfl, Nat.le_of_ble_eq_true rfl⟩ dX8_span_4 (fun r_1 hr_1 => ?_)
  have tr_1 := txt_ hr_1
  refine lv_iload_n hx hb dX8_span_7 rfl (lv_at hl 3 rfl) ?_
  refine lv_iconst (v := 0) hx hb dX8_span_8 (by decide) ?_
  refine lv_iconst (v := 4) hx hb dX8_span_9 (by decide) ?_
  refine ySri (As := [.int p2, .int 0, .int 4]) (rest := [.int r_1, .ref q0]) C0 (g_X8_within l G S d p2 0 4 ) ok_X8_within (mW193 : Cond.methodLink RX8 71 yX8_within ∈ wsT) ⟨Nat.le_of_ble_eq_true rfl, Nat.le_of_ble_eq_true rfl⟩ hP hD hK hN rfl hl.1 rfl (Nat.le_of_ble_eq_true rfl) ⟨Nat.le_of_ble_eq_true rfl, Nat.le_of_ble_eq_true rfl⟩ dX8_span_10 (fun r_2 hr_2 => ?_)
  have hL_3 : (0 : Int32).toInt = 0 := by decide +kernel
  have hL_4 : (4 : Int32).toInt = 4 := by decide +kernel
  have tr_2 := tw_ hr_2
  refine ySri (As := [.int r_2]) (rest := [.int r_1, .ref q0]) C0 (g_X8_number l G S d r_2 ) ok_X8_number (mW196 : Cond.methodLink RX8 54 yX8_number ∈ wsT) ⟨Nat.le_of_ble_eq_true rfl, Nat.le_of_ble_eq_true rfl⟩ hP hD hK hN rfl hl.1 rfl (Nat.le_of_ble_eq_true rfl) ⟨Nat.le_of_ble_eq_true rfl, Nat.le_of_ble_eq_true rfl⟩ dX8_span_13 (fun r_5 hr_5 => ?_)
  have tr_5 := tn_ hr_5
  refine ySri (As := [.int r_1, .int r_5]) (rest := [.ref q0]) C0 (g_X8_least l G S d r_1 r_5 ) ok_X8_least (mW199 : Cond.methodLink RX8 58 yX8_least ∈ wsT) ⟨Nat.le_of_ble_eq_true rfl, Nat.le_of_ble_eq_true rfl⟩ hP hD hK hN rfl hl.1 rfl (Nat.le_of_ble_eq_true rfl) ⟨Nat.le_of_ble_eq_true rfl, Nat.le_of_ble_eq_true rfl⟩ dX8_span_16 (fun r_6 hr_6 => ?_)
  have tr_6 := tl_ hr_6
  refine yVwi (As := [.int r_6]) (rest := []) C0 (g_X8_refused l G S d q0 r_6 hSh hPo hm_q0 hk_q0) ok_X8_refused (mW160 : Cond.methodLink RX8 42 yX8_refused ∈ wsT) ⟨Nat.le_of_ble_eq_true rfl, Nat.le_of_ble_eq_true rfl⟩ hP hD hS hA hK hN hm_q0 hk_q0 (by decide) rfl rfl rfl hl.1 rfl (Nat.le_of_ble_eq_true rfl) ⟨Nat.le_of_ble_eq_true rfl, Nat.le_of_ble_eq_true rfl⟩ dX8_span_19 (fun r_7 d_8 H locs hr_7 hP hD hS => ?_)
  obtain ⟨hgad_8, hpad_8, hxd_8⟩ := hr_7
  have hgd_8 : yAg S [8, 24] d d_8 := yAg.tr hg0 hgad_8 (by first | decide | exact fun _ h => h)
  have hPod_8 : yPo S d_8 := hpad_8 hPo
  have tr_7 := tr_ hxd_8.1
  refine lv_if_eq (tgt := 27) hx hb dX8_span_22 (by decide) (fun c_9 => ?_) (fun c_9 => ?_)
  · refine lv_iload_n hx hb dX8_span_27 rfl (lv_at hl 1 rfl) ?_
    refine lv_iload_n hx hb dX8_span_28 rfl (lv_at hl 2 rfl) ?_
    refine ySri (As := [.int p0, .int p1]) (rest := []) C0 (g_X8_rowOf l G S d_8 p0 p1 ) ok_X8_rowOf (mW210 : Cond.methodLink RX8 61 yX8_rowOf ∈ wsT) ⟨Nat.le_of_ble_eq_true rfl, Nat.le_of_ble_eq_true rfl⟩ hP hD hK hN rfl hl.1 rfl (Nat.le_of_ble_eq_true rfl) ⟨Nat.le_of_ble_eq_true rfl, Nat.le_of_ble_eq_true rfl⟩ dX8_span_29 (fun r_10 hr_10 => ?_)
    refine lv_istore (lv' := [(4, .int r_10), (0, .ref q0), (1, .int p0), (2, .int p1), (3, .int p2)]) hx hb dX8_span_32 hl (by decide) rfl (fun ls hl => ?_)
    refine lv_iload_n hx hb dX8_span_34 rfl (lv_at hl 4 rfl) ?_
    rcases xtab p2 4 (by decide) with hsw_11 | ⟨k_12, hk_12, hsw_11⟩
    · refine lv_tableOut (tgt := 128) hx hb dX8_span_35 (by omega) (by decide) ?_
      refine lv_aload_n hx hb dX8_span_128 rfl (lv_at hl 1 rfl) ?_
      refine yget (ci := 8) (k := 0) (v := .ref (S.2.2.1 q0 0)) (C := RX8) (T := TX8) (N := 6) C0 hK hP hm_q0 hk_q0 (by decide) rfl inlX8 (by decide) mW16 (fun _ h9 => h9) rfl dX8_span_129 ?_
      obtain ⟨hmy_13, hky_13⟩ := ySh.f8_0 hSh _ hm_q0 hk_q0
      refine yget (ci := 0) (k := 0) (v := .ref (S.2.2.1 (S.2.2.1 q0 0) 0)) (C := RX0) (T := TX0) (N := 6) C0 hK hP hmy_13 hky_13 (by decide) rfl inlX0 (by decide) mW158 (fun _ h9 => h9) rfl dX8_span_132 ?_
      obtain ⟨hmy_14, hky_14⟩ := ySh.f0_0 hSh _ hmy_13 hky_13
      refine yget (ci := 6) (k := 5) (v := .ref (S.2.2.1 (S.2.2.1 (S.2.2.1 q0 0) 0) 5)) (C := RX6) (T := TX6) (N := 7) C0 hK hP hmy_14 hky_14 (by decide) rfl inlX6 (by decide) mW258 (fun _ h9 => h9) rfl dX8_span_135 ?_
      obtain ⟨hmy_15, hky_15⟩ := ySh.f6_5 hSh _ hmy_14 hky_14
      refine lv_iload hx hb dX8_span_138 (lv_at hl 0 rfl) ?_
      refine ySri (As := [.ref (S.2.2.1 (S.2.2.1 (S.2.2.1 q0 0) 0) 5), .int r_10]) (rest := []) C0 (g_X8_at l G S d_8 (S.2.2.1 (S.2.2.1 (S.2.2.1 q0 0) 0) 5) 15 r_10 hmy_15 hky_15 (by decide) rfl rfl (by decide)) ok_X8_at (mW165 : Cond.methodLink RX8 78 yX8_at ∈ wsT) ⟨Nat.le_of_ble_eq_true rfl, Nat.le_of_ble_eq_true rfl⟩ hP hD hK hN rfl hl.1 rfl (Nat.le_of_ble_eq_true rfl) ⟨Nat.le_of_ble_eq_true rfl, Nat.le_of_ble_eq_true rfl⟩ dX8_span_140 (fun r_16 hr_16 => ?_)
      have F_17 := feq (rfl : (r_7 : Int32).toInt = (r_7 : Int32).toInt) (by decide +kernel : (0 : Int32).toInt = 0) c_9
      exact W.iret (v := r_16) hx hb hr (fun t ht hW => ⟨⟨r_16, d_8, rfl, ⟨hgd_8, (fun _ => hPod_8), ⟨Or.inr ⟨by omega, ⟨(fun q => absurd q (by omega)), (fun q => absurd q (by omega)), (fun q => absurd q (by omega)), (fun q => absurd q (by omega)), (fun q => (hr_16.trans (by rw [show d_8.2.2.2.1 (S.2.2.1 (S.2.2.1 (S.2.2.1 q0 0) 0) 5) = d.2.2.2.1 (S.2.2.1 (S.2.2.1 (S.2.2.1 q0 0) 0) 5) from ((zTm.ag zTm.rf hSh hmy_14 hky_14 hgad_8 (by decide))).1 5 (by decide), hr_10]; rfl)))⟩, (zTm.ag zTm.rf hSh hmy_14 hky_14 hgad_8 (by decide))⟩, (hxd_8.2)⟩⟩, by rw [ht]; exact hP, hD⟩, hS.F ht⟩) hS.2.2 dX8_span_143
    · obtain rfl | rfl | rfl | rfl : k_12 = 0 ∨ k_12 = 1 ∨ k_12 = 2 ∨ k_12 = 3 := by omega
      · subst hsw_11
        refine lv_tableIn (tgt := 64) (off := 29) hx hb dX8_span_35 (by decide +kernel) (by decide +kernel) (by decide +kernel) (by decide) ?_
        refine lv_aload_n hx hb dX8_span_64 rfl (lv_at hl 1 rfl) ?_
        refine yget (ci := 8) (k := 0) (v := .ref (S.2.2.1 q0 0)) (C := RX8) (T := TX8) (N := 6) C0 hK hP hm_q0 hk_q0 (by decide) rfl inlX8 (by decide) mW16 (fun _ h9 => h9) rfl dX8_span_65 ?_
        obtain ⟨hmy_18, hky_18⟩ := ySh.f8_0 hSh _ hm_q0 hk_q0
        refine yget (ci := 0) (k := 0) (v := .ref (S.2.2.1 (S.2.2.1 q0 0) 0)) (C := RX0) (T := TX0) (N := 6) C0 hK hP hmy_18 hky_18 (by decide) rfl inlX0 (by decide) mW158 (fun _ h9 => h9) rfl dX8_span_68 ?_
        obtain ⟨hmy_19, hky_19⟩ := ySh.f0_0 hSh _ hmy_18 hky_18
        refine yget (ci := 6) (k := 1) (v := .ref (S.2.2.1 (S.2.2.1 (S.2.2.1 q0 0) 0) 1)) (C := RX6) (T := TX6) (N := 7) C0 hK hP hmy_19 hky_19 (by decide) rfl inlX6 (by decide) mW302 (fun _ h9 => h9) rfl dX8_span_71 ?_
        obtain ⟨hmy_20, hky_20⟩ := ySh.f6_1 hSh _ hmy_19 hky_19
        refine lv_iload hx hb dX8_span_74 (lv_at hl 0 rfl) ?_
        refine ySri (As := [.ref (S.2.2.1 (S.2.2.1 (S.2.2.1 q0 0) 0) 1), .int r_10]) (rest := []) C0 (g_X8_at l G S d_8 (S.2.2.1 (S.2.2.1 (S.2.2.1 q0 0) 0) 1) 11 r_10 hmy_20 hky_20 (by decide) rfl rfl (by decide)) ok_X8_at (mW165 : Cond.methodLink RX8 78 yX8_at ∈ wsT) ⟨Nat.le_of_ble_eq_true rfl, Nat.le_of_ble_eq_true rfl⟩ hP hD hK hN rfl hl.1 rfl (Nat.le_of_ble_eq_true rfl) ⟨Nat.le_of_ble_eq_true rfl, Nat.le_of_ble_eq_true rfl⟩ dX8_span_76 (fun r_21 hr_21 => ?_)
        have F_22 := feq (rfl : (r_7 : Int32).toInt = (r_7 : Int32).toInt) (by decide +kernel : (0 : Int32).toInt = 0) c_9
        exact W.iret (v := r_21) hx hb hr (fun t ht hW => ⟨⟨r_21, d_8, rfl, ⟨hgd_8, (fun _ => hPod_8), ⟨Or.inr ⟨by omega, ⟨(fun q => (hr_21.trans (by rw [show d_8.2.2.2.1 (S.2.2.1 (S.2.2.1 (S.2.2.1 q0 0) 0) 1) = d.2.2.2.1 (S.2.2.1 (S.2.2.1 (S.2.2.1 q0 0) 0) 1) from ((zTm.ag zTm.rf hSh hmy_19 hky_19 hgad_8 (by decide))).1 1 (by decide), hr_10]; rfl))), (fun q => absurd q (by decide +kernel)), (fun q => absurd q (by decide +kernel)), (fun q => absurd q (by decide +kernel)), (fun q => absurd q (by decide +kernel))⟩, (zTm.ag zTm.rf hSh hmy_19 hky_19 hgad_8 (by decide))⟩, (hxd_8.2)⟩⟩, by rw [ht]; exact hP, hD⟩, hS.F ht⟩) hS.2.2 dX8_span_79
      · subst hsw_11
        refine lv_tableIn (tgt := 80) (off := 45) hx hb dX8_span_35 (by decide +kernel) (by decide +kernel) (by decide +kernel) (by decide) ?_
        refine lv_aload_n hx hb dX8_span_80 rfl (lv_at hl 1 rfl) ?_
        refine yget (ci := 8) (k := 0) (v := .ref (S.2.2.1 q0 0)) (C := RX8) (T := TX8) (N := 6) C0 hK hP hm_q0 hk_q0 (by decide) rfl inlX8 (by decide) mW16 (fun _ h9 => h9) rfl dX8_span_81 ?_
        obtain ⟨hmy_23, hky_23⟩ := ySh.f8_0 hSh _ hm_q0 hk_q0
        refine yget (ci := 0) (k := 0) (v := .ref (S.2.2.1 (S.2.2.1 q0 0) 0)) (C := RX0) (T := TX0) (N := 6) C0 hK hP hmy_23 hky_23 (by decide) rfl inlX0 (by decide) mW158 (fun _ h9 => h9) rfl dX8_span_84 ?_
        obtain ⟨hmy_24, hky_24⟩ := ySh.f0_0 hSh _ hmy_23 hky_23
        refine yget (ci := 6) (k := 2) (v := .ref (S.2.2.1 (S.2.2.1 (S.2.2.1 q0 0) 0) 2)) (C := RX6) (T := TX6) (N := 7) C0 hK hP hmy_24 hky_24 (by decide) rfl inlX6 (by decide) mW293 (fun _ h9 => h9) rfl dX8_span_87 ?_
        obtain ⟨hmy_25, hky_25⟩ := ySh.f6_2 hSh _ hmy_24 hky_24
        refine lv_iload hx hb dX8_span_90 (lv_at hl 0 rfl) ?_
        refine ySri (As := [.ref (S.2.2.1 (S.2.2.1 (S.2.2.1 q0 0) 0) 2), .int r_10]) (rest := []) C0 (g_X8_at l G S d_8 (S.2.2.1 (S.2.2.1 (S.2.2.1 q0 0) 0) 2) 12 r_10 hmy_25 hky_25 (by decide) rfl rfl (by decide)) ok_X8_at (mW165 : Cond.methodLink RX8 78 yX8_at ∈ wsT) ⟨Nat.le_of_ble_eq_true rfl, Nat.le_of_ble_eq_true rfl⟩ hP hD hK hN rfl hl.1 rfl (Nat.le_of_ble_eq_true rfl) ⟨Nat.le_of_ble_eq_true rfl, Nat.le_of_ble_eq_true rfl⟩ dX8_span_92 (fun r_26 hr_26 => ?_)
        have F_27 := feq (rfl : (r_7 : Int32).toInt = (r_7 : Int32).toInt) (by decide +kernel : (0 : Int32).toInt = 0) c_9
        exact W.iret (v := r_26) hx hb hr (fun t ht hW => ⟨⟨r_26, d_8, rfl, ⟨hgd_8, (fun _ => hPod_8), ⟨Or.inr ⟨by omega, ⟨(fun q => absurd q (by decide +kernel)), (fun q => (hr_26.trans (by rw [show d_8.2.2.2.1 (S.2.2.1 (S.2.2.1 (S.2.2.1 q0 0) 0) 2) = d.2.2.2.1 (S.2.2.1 (S.2.2.1 (S.2.2.1 q0 0) 0) 2) from ((zTm.ag zTm.rf hSh hmy_24 hky_24 hgad_8 (by decide))).1 2 (by decide), hr_10]; rfl))), (fun q => absurd q (by decide +kernel)), (fun q => absurd q (by decide +kernel)), (fun q => absurd q (by decide +kernel))⟩, (zTm.ag zTm.rf hSh hmy_24 hky_24 hgad_8 (by decide))⟩, (hxd_8.2)⟩⟩, by rw [ht]; exact hP, hD⟩, hS.F ht⟩) hS.2.2 dX8_span_95
      · subst hsw_11
        refine lv_tableIn (tgt := 96) (off := 61) hx hb dX8_span_35 (by decide +kernel) (by decide +kernel) (by decide +kernel) (by decide) ?_
        refine lv_aload_n hx hb dX8_span_96 rfl (lv_at hl 1 rfl) ?_
        refine yget (ci := 8) (k := 0) (v := .ref (S.2.2.1 q0 0)) (C := RX8) (T := TX8) (N := 6) C0 hK hP hm_q0 hk_q0 (by decide) rfl inlX8 (by decide) mW16 (fun _ h9 => h9) rfl dX8_span_97 ?_
        obtain ⟨hmy_28, hky_28⟩ := ySh.f8_0 hSh _ hm_q0 hk_q0
        refine yget (ci := 0) (k := 0) (v := .ref (S.2.2.1 (S.2.2.1 q0 0) 0)) (C := RX0) (T := TX0) (N := 6) C0 hK hP hmy_28 hky_28 (by decide) rfl inlX0 (by decide) mW158 (fun _ h9 => h9) rfl dX8_span_100 ?_
        obtain ⟨hmy_29, hky_29⟩ := ySh.f0_0 hSh _ hmy_28 hky_28
        refine yget (ci := 6) (k := 3) (v := .ref (S.2.2.1 (S.2.2.1 (S.2.2.1 q0 0) 0) 3)) (C := RX6) (T := TX6) (N := 7) C0 hK hP hmy_29 hky_29 (by decide) rfl inlX6 (by decide) mW303 (fun _ h9 => h9) rfl dX8_span_103 ?_
        obtain ⟨hmy_30, hky_30⟩ := ySh.f6_3 hSh _ hmy_29 hky_29
        refine lv_iload hx hb dX8_span_106 (lv_at hl 0 rfl) ?_
        refine ySri (As := [.ref (S.2.2.1 (S.2.2.1 (S.2.2.1 q0 0) 0) 3), .int r_10]) (rest := []) C0 (g_X8_at l G S d_8 (S.2.2.1 (S.2.2.1 (S.2.2.1 q0 0) 0) 3) 13 r_10 hmy_30 hky_30 (by decide) rfl rfl (by decide)) ok_X8_at (mW165 : Cond.methodLink RX8 78 yX8_at ∈ wsT) ⟨Nat.le_of_ble_eq_true rfl, Nat.le_of_ble_eq_true rfl⟩ hP hD hK hN rfl hl.1 rfl (Nat.le_of_ble_eq_true rfl) ⟨Nat.le_of_ble_eq_true rfl, Nat.le_of_ble_eq_true rfl⟩ dX8_span_108 (fun r_31 hr_31 => ?_)
        have F_32 := feq (rfl : (r_7 : Int32).toInt = (r_7 : Int32).toInt) (by decide +kernel : (0 : Int32).toInt = 0) c_9
        exact W.iret (v := r_31) hx hb hr (fun t ht hW => ⟨⟨r_31, d_8, rfl, ⟨hgd_8, (fun _ => hPod_8), ⟨Or.inr ⟨by omega, ⟨(fun q => absurd q (by decide +kernel)), (fun q => absurd q (by decide +kernel)), (fun q => (hr_31.trans (by rw [show d_8.2.2.2.1 (S.2.2.1 (S.2.2.1 (S.2.2.1 q0 0) 0) 3) = d.2.2.2.1 (S.2.2.1 (S.2.2.1 (S.2.2.1 q0 0) 0) 3) from ((zTm.ag zTm.rf hSh hmy_29 hky_29 hgad_8 (by decide))).1 3 (by decide), hr_10]; rfl))), (fun q => absurd q (by decide +kernel)), (fun q => absurd q (by decide +kernel))⟩, (zTm.ag zTm.rf hSh hmy_29 hky_29 hgad_8 (by decide))⟩, (hxd_8.2)⟩⟩, by rw [ht]; exact hP, hD⟩, hS.F ht⟩) hS.2.2 dX8_span_111
      · subst hsw_11
        refine lv_tableIn (tgt := 112) (off := 77) hx hb dX8_span_35 (by decide +kernel) (by decide +kernel) (by decide +kernel) (by decide) ?_
        refine lv_aload_n hx hb dX8_span_112 rfl (lv_at hl 1 rfl) ?_
        refine yget (ci := 8) (k := 0) (v := .ref (S.2.2.1 q0 0)) (C := RX8) (T := TX8) (N := 6) C0 hK hP hm_q0 hk_q0 (by decide) rfl inlX8 (by decide) mW16 (fun _ h9 => h9) rfl dX8_span_113 ?_
        obtain ⟨hmy_33, hky_33⟩ := ySh.f8_0 hSh _ hm_q0 hk_q0
        refine yget (ci := 0) (k := 0) (v := .ref (S.2.2.1 (S.2.2.1 q0 0) 0)) (C := RX0) (T := TX0) (N := 6) C0 hK hP hmy_33 hky_33 (by decide) rfl inlX0 (by decide) mW158 (fun _ h9 => h9) rfl dX8_span_116 ?_
        obtain ⟨hmy_34, hky_34⟩ := ySh.f0_0 hSh _ hmy_33 hky_33
        refine yget (ci := 6) (k := 4) (v := .ref (S.2.2.1 (S.2.2.1 (S.2.2.1 q0 0) 0) 4)) (C := RX6) (T := TX6) (N := 7) C0 hK hP hmy_34 hky_34 (by decide) rfl inlX6 (by decide) mW234 (fun _ h9 => h9) rfl dX8_span_119 ?_
        obtain ⟨hmy_35, hky_35⟩ := ySh.f6_4 hSh _ hmy_34 hky_34
        refine lv_iload hx hb dX8_span_122 (lv_at hl 0 rfl) ?_
        refine ySri (As := [.ref (S.2.2.1 (S.2.2.1 (S.2.2.1 q0 0) 0) 4), .int r_10]) (rest := []) C0 (g_X8_at l G S d_8 (S.2.2.1 (S.2.2.1 (S.2.2.1 q0 0) 0) 4) 14 r_10 hmy_35 hky_35 (by decide) rfl rfl (by decide)) ok_X8_at (mW165 : Cond.methodLink RX8 78 yX8_at ∈ wsT) ⟨Nat.le_of_ble_eq_true rfl, Nat.le_of_ble_eq_true rfl⟩ hP hD hK hN rfl hl.1 rfl (Nat.le_of_ble_eq_true rfl) ⟨Nat.le_of_ble_eq_true rfl, Nat.le_of_ble_eq_true rfl⟩ dX8_span_124 (fun r_36 hr_36 => ?_)
        have F_37 := feq (rfl : (r_7 : Int32).toInt = (r_7 : Int32).toInt) (by decide +kernel : (0 : Int32).toInt = 0) c_9
        exact W.iret (v := r_36) hx hb hr (fun t ht hW => ⟨⟨r_36, d_8, rfl, ⟨hgd_8, (fun _ => hPod_8), ⟨Or.inr ⟨by omega, ⟨(fun q => absurd q (by decide +kernel)), (fun q => absurd q (by decide +kernel)), (fun q => absurd q (by decide +kernel)), (fun q => (hr_36.trans (by rw [show d_8.2.2.2.1 (S.2.2.1 (S.2.2.1 (S.2.2.1 q0 0) 0) 4) = d.2.2.2.1 (S.2.2.1 (S.2.2.1 (S.2.2.1 q0 0) 0) 4) from ((zTm.ag zTm.rf hSh hmy_34 hky_34 hgad_8 (by decide))).1 4 (by decide), hr_10]; rfl))), (fun q => absurd q (by decide +kernel))⟩, (zTm.ag zTm.rf hSh hmy_34 hky_34 hgad_8 (by decide))⟩, (hxd_8.2)⟩⟩, by rw [ht]; exact hP, hD⟩, hS.F ht⟩) hS.2.2 dX8_span_127
  · refine lv_iconst (v := (-1)) hx hb dX8_span_25 (by decide) ?_
    have F_38 := fne (rfl : (r_7 : Int32).toInt = (r_7 : Int32).toInt) (by decide +kernel : (0 : Int32).toInt = 0) c_9
    obtain ⟨hmy_39, hky_39⟩ := ySh.f8_0 hSh _ hm_q0 hk_q0
    obtain ⟨hmy_40, hky_40⟩ := ySh.f0_0 hSh _ hmy_39 hky_39
    exact W.iret (v := (-1)) hx hb hr (fun t ht hW => ⟨⟨(-1), d_8, rfl, ⟨hgd_8, (fun _ => hPod_8), ⟨Or.inl ⟨by have h0_ : ((-1) : Int32).toInt = (-1) := (by decide +kernel); omega, by omega, (zTm.ag zTm.rf hSh hmy_40 hky_40 hgad_8 (by decide))⟩, (hxd_8.2)⟩⟩, by rw [ht]; exact hP, hD⟩, hS.F ht⟩) hS.2.2 dX8_span_26
