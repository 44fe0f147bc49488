theorem dL_law_660 : decode cL_law 660 = .ok (.aload_n 1, 1) := by decide +kernel
theorem dL_law_661 : decode cL_law 661 = .ok (.aload_n 0, 1) := by decide +kernel
theorem dL_law_662 : decode cL_law 662 = .ok (.iload_n 3, 1) := by decide +kernel
theorem dL_law_663 : decode cL_law 663 = .ok (.iconst 1, 1) := by decide +kernel
theorem dL_law_664 : decode cL_law 664 = .ok (.iadd, 1) := by decide +kernel
theorem dL_law_665 : decode cL_law 665 = .ok (.iaload, 1) := by decide +kernel
theorem dL_law_666 : decode cL_law 666 = .ok (.aload_n 0, 1) := by decide +kernel
theorem dL_law_667 : decode cL_law 667 = .ok (.iload_n 3, 1) := by decide +kernel
theorem dL_law_668 : decode cL_law 668 = .ok (.iconst 2, 1) := by decide +kernel
theorem dL_law_669 : decode cL_law 669 = .ok (.iadd, 1) := by decide +kernel
theorem dL_law_670 : decode cL_law 670 = .ok (.iaload, 1) := by decide +kernel
theorem dL_law_671 : decode cL_law 671 = .ok (.aload_n 0, 1) := by decide +kernel
theorem dL_law_672 : decode cL_law 672 = .ok (.iload_n 3, 1) := by decide +kernel
theorem dL_law_673 : decode cL_law 673 = .ok (.iconst 3, 1) := by decide +kernel
theorem dL_law_674 : decode cL_law 674 = .ok (.iadd, 1) := by decide +kernel
theorem dL_law_675 : decode cL_law 675 = .ok (.iaload, 1) := by decide +kernel
theorem dL_law_676 : decode cL_law 676 = .ok (.ifCond .eq 7, 3) := by decide +kernel
theorem dL_law_679 : decode cL_law 679 = .ok (.iconst 1, 1) := by decide +kernel
theorem dL_law_680 : decode cL_law 680 = .ok (.goto 4, 3) := by decide +kernel
theorem dL_law_683 : decode cL_law 683 = .ok (.iconst 0, 1) := by decide +kernel
theorem dL_law_684 : decode cL_law 684 = .ok (.invokevirtual 68, 3) := by decide +kernel
theorem dL_law_687 : decode cL_law 687 = .ok (.pop, 1) := by decide +kernel
theorem dL_law_688 : decode cL_law 688 = .ok (.aload_n 2, 1) := by decide +kernel
theorem dL_law_689 : decode cL_law 689 = .ok (.aload_n 0, 1) := by decide +kernel
theorem dL_law_690 : decode cL_law 690 = .ok (.iload_n 3, 1) := by decide +kernel
theorem dL_law_691 : decode cL_law 691 = .ok (.iconst 1, 1) := by decide +kernel
theorem dL_law_692 : decode cL_law 692 = .ok (.iadd, 1) := by decide +kernel
theorem dL_law_693 : decode cL_law 693 = .ok (.iaload, 1) := by decide +kernel
theorem dL_law_694 : decode cL_law 694 = .ok (.aload_n 0, 1) := by decide +kernel
theorem dL_law_695 : decode cL_law 695 = .ok (.iload_n 3, 1) := by decide +kernel
theorem dL_law_696 : decode cL_law 696 = .ok (.iconst 2, 1) := by decide +kernel
theorem dL_law_697 : decode cL_law 697 = .ok (.iadd, 1) := by decide +kernel
theorem dL_law_698 : decode cL_law 698 = .ok (.iaload, 1) := by decide +kernel
theorem dL_law_699 : decode cL_law 699 = .ok (.aload_n 0, 1) := by decide +kernel
theorem dL_law_700 : decode cL_law 700 = .ok (.iload_n 3, 1) := by decide +kernel
theorem dL_law_701 : decode cL_law 701 = .ok (.iconst 3, 1) := by decide +kernel
theorem dL_law_702 : decode cL_law 702 = .ok (.iadd, 1) := by decide +kernel
theorem dL_law_703 : decode cL_law 703 = .ok (.iaload, 1) := by decide +kernel
theorem dL_law_704 : decode cL_law 704 = .ok (.ifCond .eq 7, 3) := by decide +kernel
theorem dL_law_707 : decode cL_law 707 = .ok (.iconst 1, 1) := by decide +kernel
theorem dL_law_708 : decode cL_law 708 = .ok (.goto 4, 3) := by decide +kernel
theorem dL_law_711 : decode cL_law 711 = .ok (.iconst 0, 1) := by decide +kernel
theorem dL_law_712 : decode cL_law 712 = .ok (.invokevirtual 72, 3) := by decide +kernel
theorem dL_law_715 : decode cL_law 715 = .ok (.pop, 1) := by decide +kernel
theorem dL_law_716 : decode cL_law 716 = .ok (.goto 1070, 3) := by decide +kernel
set_option maxHeartbeats 4000000 in
set_option maxRecDepth 100000 in
/-- case 12: day -/
theorem law_12 {p : Program} {l : Launch} {e : Env} {s : State} {m : MethodId} {below : List Frame} {meth : Method} {c : Code} {G : xG} {sc L : Nat} {xs : Nat → Int32} {A : Nat → Prop} {S : yS} {q0 m0 : Nat} (C0 : CallFix p m c code 4 s #[Value.ref sc] wsT RL) (hr : meth.sig.returnType = ret) (hlocks : meth.locks = false) (hK : va_K G.1 xcl (xty G) s) (hN : xN s) (hX : va_X sc L xs s s.heap) (hbl : sc < s.heap.size) (hbA : ¬ A sc) (hA : ∀ q : Nat, s.heap.size ≤ q → A q) (hA2 : ∀ q, A q → s.heap.size ≤ q) (hL : L ≤ 3584) (hSh : ySh S) (hm_q0 : q0 ∈ S.1) (hk_q0 : S.2.1 q0 = 8) (hm_m0 : m0 ∈ S.1) (hk_m0 : S.2.1 m0 = 9) (hnk : S.2.2.1 q0 0 ≠ S.2.2.1 q0 1) {d : yD} {v : Int32} (hv0 : 0 ≤ v.toInt) (hv1 : v.toInt + 7 ≤ (L : Int)) (hPo : yPo S d) (hI : yMI S d m0) (hR : zR4 S d q0 m0) {H : Heap} {locs : List Loc} {ls : Array Slot} (hP : va_P G.1 xcl (yW G S d) H) (hD : va_D A (yW G S d)) (hS : va_S A s.heap H locs) (hl : lv_has ls 4 [(3, .int v), (2, .ref m0), (1, .ref q0), (0, .ref sc)]) (kk : ∀ (u : yD) (H1 : Heap) (locs1 : List Loc) (ls1 : Array Slot), va_P G.1 xcl (yW G S u) H1 → va_D A (yW G S u) → va_S A s.heap H1 locs1 → yPo S u → yMI S u m0 → zR4 S u q0 m0 → lv_has ls1 4 [(3, .int v), (2, .ref m0), (1, .ref q0), (0, .ref sc)] → W p l e room_1 s m #[Value.ref sc] below meth c H1 locs1 169 136076 (lw_Z below #[Value.ref sc] s) (F0 m 1786 ls1 [])) : W p l e room_1 s m #[Value.ref sc] below meth c H locs 169 136076 (lw_Z below #[Value.ref sc] s) (F0 m 660 ls []) := by
  obtain ⟨hx, hb, hml, hown, htl⟩ := id C0
  refine lv_aload_n hx hb dL_law_660 rfl (lv_at hl 2 rfl) ?_
  refine lv_aload_n hx hb dL_law_661 rfl (lv_at hl 3 rfl) ?_
  refine lv_iload_n hx hb dL_law_662 rfl (lv_at hl 0 rfl) ?_
  refine lv_iconst (v := 1) hx hb dL_law_663 (by decide) ?_
  refine lv_iadd hx hb dL_law_664 ?_
  refine lv_topi (fun z_1 ez_1 => ?_)
  have T_2 : (z_1 : Int32).toInt = (v : Int32).toInt + 1 := tadd ez_1 (rfl : (v : Int32).toInt = (v : Int32).toInt) (by decide +kernel : (1 : Int32).toInt = 1) (by omega) (by omega)
  refine va_sld hx hb hX hbl hbA hS (xinL (by omega) (by omega)) dL_law_665 ?_
  refine lv_topi (fun z_3 ez_3 => ?_)
  refine lv_aload_n hx hb dL_law_666 rfl (lv_at hl 3 rfl) ?_
  refine lv_iload_n hx hb dL_law_667 rfl (lv_at hl 0 rfl) ?_
  refine lv_iconst (v := 2) hx hb dL_law_668 (by decide) ?_
  refine lv_iadd hx hb dL_law_669 ?_
  refine lv_topi (fun z_4 ez_4 => ?_)
  have T_5 : (z_4 : Int32).toInt = (v : Int32).toInt + 2 := tadd ez_4 (rfl : (v : Int32).toInt = (v : Int32).toInt) (by decide +kernel : (2 : Int32).toInt = 2) (by omega) (by omega)
  refine va_sld hx hb hX hbl hbA hS (xinL (by omega) (by omega)) dL_law_670 ?_
  refine lv_topi (fun z_6 ez_6 => ?_)
  refine lv_aload_n hx hb dL_law_671 rfl (lv_at hl 3 rfl) ?_
  refine lv_iload_n hx hb dL_law_672 rfl (lv_at hl 0 rfl) ?_
  refine lv_iconst (v := 3) hx hb dL_law_673 (by decide) ?_
  refine lv_iadd hx hb dL_law_674 ?_
  refine lv_topi (fun z_7 ez_7 => ?_)
  have T_8 : (z_7 : Int32).toInt = (v : Int32).toInt + 3 := tadd ez_7 (rfl : (v : Int32).toInt = (v : Int32).toInt) (by decide +kernel : (3 : Int32).toInt = 3) (by omega) (by omega)
  refine va_sld hx hb hX hbl hbA hS (xinL (by omega) (by omega)) dL_law_675 ?_
  refine lv_topi (fun z_9 ez_9 => ?_)
  refine lv_if_eq (tgt := 683) hx hb dL_law_676 (by decide) (fun c_10 => ?_) (fun c_10 => ?_)
  · refine lv_iconst (v := 0) hx hb dL_law_683 (by decide) ?_
    refine yVwi (As := [.int z_3, .int z_6, .int 0]) (rest := []) C0 (g_X8_day l G S d q0 z_3 z_6 0 hSh hPo hm_q0 hk_q0 (Or.inl rfl)) ok_X8_day (mW437 : Cond.methodLink RL 68 yX8_day ∈ wsT) ⟨Nat.le_of_ble_eq_true rfl, Nat.le_of_ble_eq_true rfl⟩ hP hD hS hA hK hN hm_q0 hk_q0 (by decide) rfl rfl rfl hl.1 rfl (Nat.le_of_ble_eq_true rfl) ⟨Nat.le_of_ble_eq_true rfl, Nat.le_of_ble_eq_true rfl⟩ dL_law_684 (fun r_11 d_12 H locs hr_11 hP hD hS => ?_)
    obtain ⟨hgad_12, hpad_12, hxd_12⟩ := hr_11
    have hPod_12 : yPo S d_12 := hpad_12 hPo
    have hId_12 : yMI S d_12 m0 := yMI.ag hI hSh hm_m0 hk_m0 hgad_12 (yK.ag (F := []) yK.rf hgad_12 (by rw [hk_m0]; decide)) (by decide) (by decide)
    refine lv_pop hx hb dL_law_687 rfl ?_
    refine lv_aload_n hx hb dL_law_688 rfl (lv_at hl 1 rfl) ?_
    refine lv_aload_n hx hb dL_law_689 rfl (lv_at hl 3 rfl) ?_
    refine lv_iload_n hx hb dL_law_690 rfl (lv_at hl 0 rfl) ?_
    refine lv_iconst (v := 1) hx hb dL_law_691 (by decide) ?_
    refine lv_iadd hx hb dL_law_692 ?_
    rw [← ez_1]
    have F_13 := feq (rfl : (z_9 : Int32).toInt = (z_9 : Int32).toInt) (by decide +kernel : (0 : Int32).toInt = 0) c_10
    refine va_sld hx hb hX hbl hbA hS (xinL (by omega) (by omega)) dL_law_693 ?_
    rw [← ez_3]
    refine lv_aload_n hx hb dL_law_694 rfl (lv_at hl 3 rfl) ?_
    refine lv_iload_n hx hb dL_law_695 rfl (lv_at hl 0 rfl) ?_
    refine lv_iconst (v := 2) hx hb dL_law_696 (by decide) ?_
    refine lv_iadd hx hb dL_law_697 ?_
    rw [← ez_4]
    refine va_sld hx hb hX hbl hbA hS (xinL (by omega) (by omega)) dL_law_698 ?_
    rw [← ez_6]
    refine lv_aload_n hx hb dL_law_699 rfl (lv_at hl 3 rfl) ?_
    refine lv_iload_n hx hb dL_law_700 rfl (lv_at hl 0 rfl) ?_
    refine lv_iconst (v := 3) hx hb dL_law_701 (by decide) ?_
    refine lv_iadd hx hb dL_law_702 ?_
    rw [← ez_7]
    refine va_sld hx hb hX hbl hbA hS (xinL (by omega) (by omega)) dL_law_703 ?_
    rw [← ez_9]
    refine lv_if_eq (tgt := 711) hx hb dL_law_704 (by decide) (fun c_14 => ?_) (fun c_14 => absurd c_10 c_14)
    refine lv_iconst (v := 0) hx hb dL_law_711 (by decide) ?_
    refine yVwi (As := [.int z_3, .int z_6, .int 0]) (rest := []) C0 (g_X9_day l G S d_12 m0 z_3 z_6 0 hSh hPod_12 hm_m0 hk_m0 hId_12 (Or.inl rfl)) ok_X9_day (mW446 : Cond.methodLink RL 72 yX9_day ∈ wsT) ⟨Nat.le_of_ble_eq_true rfl, Nat.le_of_ble_eq_true rfl⟩ hP hD hS hA hK hN hm_m0 hk_m0 (by decide) rfl rfl rfl hl.1 rfl (Nat.le_of_ble_eq_true rfl) ⟨Nat.le_of_ble_eq_true rfl, Nat.le_of_ble_eq_true rfl⟩ dL_law_712 (fun r_15 d_16 H locs hr_15 hP hD hS => ?_)
    obtain ⟨hgad_16, hpad_16, hfad_16, hxd_16⟩ := hr_15
    have hPod_16 : yPo S d_16 := hpad_16 hPod_12
    have hId_16 : yMI S d_16 m0 := hxd_16.1
    refine lv_pop hx hb dL_law_715 rfl ?_
    refine lv_goto (tgt := 1786) hx hb dL_law_716 (by decide) ?_
    exact kk d_16 _ _ ls hP hD hS hPod_16 hId_16 (zR4.day hR hId_12 hPo hSh hm_q0 hk_q0 hm_m0 hk_m0 hnk hgad_12 hgad_16 hfad_16 hxd_12 hxd_16).2 (lv_sub hl [0, 1, 2, 3] rfl)
  · refine lv_iconst (v := 1) hx hb dL_law_679 (by decide) ?_
    refine lv_goto (tgt := 684) hx hb dL_law_680 (by decide) ?_
    refine yVwi (As := [.int z_3, .int z_6, .int 1]) (rest := []) C0 (g_X8_day l G S d q0 z_3 z_6 1 hSh hPo hm_q0 hk_q0 (Or.inr rfl)) ok_X8_day (mW437 : Cond.methodLink RL 68 yX8_day ∈ wsT) ⟨Nat.le_of_ble_eq_true rfl, Nat.le_of_ble_eq_true rfl⟩ hP hD hS hA hK hN hm_q0 hk_q0 (by decide) rfl rfl rfl hl.1 rfl (Nat.le_of_ble_eq_true rfl) ⟨Nat.le_of_ble_eq_true rfl, Nat.le_of_ble_eq_true rfl⟩ dL_law_684 (fun r_17 d_18 H locs hr_17 hP hD hS => ?_)
    obtain ⟨hgad_18, hpad_18, hxd_18⟩ := hr_17
    have hPod_18 : yPo S d_18 := hpad_18 hPo
    have hId_18 : yMI S d_18 m0 := yMI.ag hI hSh hm_m0 hk_m0 hgad_18 (yK.ag (F := []) yK.rf hgad_18 (by rw [hk_m0]; decide)) (by decide) (by decide)
    refine lv_pop hx hb dL_law_687 rfl ?_
    refine lv_aload_n hx hb dL_law_688 rfl (lv_at hl 1 rfl) ?_
    refine lv_aload_n hx hb dL_law_689 rfl (lv_at hl 3 rfl) ?_
    refine lv_iload_n hx hb dL_law_690 rfl (lv_at hl 0 rfl) ?_
    refine lv_iconst (v := 1) hx hb dL_law_691 (by decide) ?_
    refine lv_iadd hx hb dL_law_692 ?_
    rw [← ez_1]
    have F_19 := fne (rfl : (z_9 : Int32).toInt = (z_9 : Int32).toInt) (by decide +kernel : (0 : Int32).toInt = 0) c_10
    refine va_sld hx hb hX hbl hbA hS (xinL (by omega) (by omega)) dL_law_693 ?_
    rw [← ez_3]
    refine lv_aload_n hx hb dL_law_694 rfl (lv_at hl 3 rfl) ?_
    refine lv_iload_n hx hb dL_law_695 rfl (lv_at hl 0 rfl) ?_
    refine lv_iconst (v := 2) hx hb dL_law_696 (by decide) ?_
    refine lv_iadd hx hb dL_law_697 ?_
    rw [← ez_4]
    refine va_sld hx hb hX hbl hbA hS (xinL (by omega) (by omega)) dL_law_698 ?_
    rw [← ez_6]
    refine lv_aload_n hx hb dL_law_699 rfl (lv_at hl 3 rfl) ?_
    refine lv_iload_n hx hb dL_law_700 rfl (lv_at hl 0 rfl) ?_
    refine lv_iconst (v := 3) hx hb dL_law_701 (by decide) ?_
    refine lv_iadd hx hb dL_law_702 ?_
    rw [← ez_7]
    refine va_sld hx hb hX hbl hbA hS (xinL (by omega) (by omega)) dL_law_703 ?_
    rw [← ez_9]
    refine lv_if_eq (tgt := 711) hx hb dL_law_704 (by decide) (fun c_20 => absurd c_20 c_10) (fun c_20 => ?_)
    refine lv_iconst (v := 1) hx hb dL_law_707 (by decide) ?_
    refine lv_goto (tgt := 712) hx hb dL_law_708 (by decide) ?_
    refine yVwi (As := [.int z_3, .int z_6, .int 1]) (rest := []) C0 (g_X9_day l G S d_18 m0 z_3 z_6 1 hSh hPod_18 hm_m0 hk_m0 hId_18 (Or.inr rfl)) ok_X9_day (mW446 : Cond.methodLink RL 72 yX9_day ∈ wsT) ⟨Nat.le_of_ble_eq_true rfl, Nat.le_of_ble_eq_true rfl⟩ hP hD hS hA hK hN hm_m0 hk_m0 (by decide) rfl rfl rfl hl.1 rfl (Nat.le_of_ble_eq_true rfl) ⟨Nat.le_of_ble_eq_true rfl, Nat.le_of_ble_eq_true rfl⟩ dL_law_712 (fun r_21 d_22 H locs hr_21 hP hD hS => ?_)
    obtain ⟨hgad_22, hpad_22, hfad_22, hxd_22⟩ := hr_21
    have hPod_22 : yPo S d_22 := hpad_22 hPod_18
    have hId_22 : yMI S d_22 m0 := hxd_22.1
    refine lv_pop hx hb dL_law_715 rfl ?_
    refine lv_goto (tgt := 1786) hx hb dL_law_716 (by decide) ?_
    exact kk d_22 _ _ ls hP hD hS hPod_22 hId_22 (zR4.day hR hId_18 hPo hSh hm_q0 hk_q0 hm_m0 hk_m0 hnk hgad_18 hgad_22 hfad_22 hxd_18 hxd_22).2 (lv_sub hl [0, 1, 2, 3] rfl)
theorem dL_law_719 : decode cL_law 719 = .ok (.aload_n 1, 1) := by decide +kernel
theorem dL_law_720 : decode cL_law 720 = .ok (.aload_n 0, 1) := by decide +kernel
theorem dL_law_721 : decode cL_law 721 = .ok (.iload_n 3, 1) := by decide +kernel
theorem dL_law_722 : decode cL_law 722 = .ok (.iconst 1, 1) := by decide +kernel
theorem dL_law_723 : decode cL_law 723 = .ok (.iadd, 1) := by decide +kernel
theorem dL_law_724 : decode cL_law 724 = .ok (.iaload, 1) := by decide +kernel
theorem dL_law_725 : decode cL_law 725 = .ok (.aload_n 0, 1) := by decide +kernel
theorem dL_law_726 : decode cL_law 726 = .ok (.iload_n 3, 1) := by decide +kernel
theorem dL_law_727 : decode cL_law 727 = .ok (.iconst 2, 1) := by decide +kernel
theorem dL_law_728 : decode cL_law 728 = .ok (.iadd, 1) := by decide +kernel
theorem dL_law_729 : decode cL_law 729 = .ok (.iaload, 1) := by decide +kernel
theorem dL_law_730 : decode cL_law 730 = .ok (.aload_n 0, 1) := by decide +kernel
theorem dL_law_731 : decode cL_law 731 = .ok (.iload_n 3, 1) := by decide +kernel
theorem dL_law_732 : decode cL_law 732 = .ok (.iconst 3, 1) := by decide +kernel
theorem dL_law_733 : decode cL_law 733 = .ok (.iadd, 1) := by decide +kernel
theorem dL_law_734 : decode cL_law 734 = .ok (.iaload, 1) := by decide +kernel
theorem dL_law_735 : decode cL_law 735 = .ok (.invokevirtual 73, 3) := by decide +kernel
theorem dL_law_738 : decode cL_law 738 = .ok (.pop, 1) := by decide +kernel
theorem dL_law_739 : decode cL_law 739 = .ok (.aload_n 2, 1) := by decide +kernel
theorem dL_law_740 : decode cL_law 740 = .ok (.aload_n 0, 1) := by decide +kernel
theorem dL_law_741 : decode cL_law 741 = .ok (.iload_n 3, 1) := by decide +kernel
theorem dL_law_742 : decode cL_law 742 = .ok (.iconst 1, 1) := by decide +kernel
theorem dL_law_743 : decode cL_law 743 = .ok (.iadd, 1) := by decide +kernel
theorem dL_law_744 : decode cL_law 744 = .ok (.iaload, 1) := by decide +kernel
theorem dL_law_745 : decode cL_law 745 = .ok (.aload_n 0, 1) := by decide +kernel
theorem dL_law_746 : decode cL_law 746 = .ok (.iload_n 3, 1) := by decide +kernel
theorem dL_law_747 : decode cL_law 747 = .ok (.iconst 2, 1) := by decide +kernel
theorem dL_law_748 : decode cL_law 748 = .ok (.iadd, 1) := by decide +kernel
theorem dL_law_749 : decode cL_law 749 = .ok (.iaload, 1) := by decide +kernel
theorem dL_law_750 : decode cL_law 750 = .ok (.aload_n 0, 1) := by decide +kernel
theorem dL_law_751 : decode cL_law 751 = .ok (.iload_n 3, 1) := by decide +kernel
theorem dL_law_752 : decode cL_law 752 = .ok (.iconst 3, 1) := by decide +kernel
theorem dL_law_753 : decode cL_law 753 = .ok (.iadd, 1) := by decide +kernel
theorem dL_law_754 : decode cL_law 754 = .ok (.iaload, 1) := by decide +kernel
theorem dL_law_755 : decode cL_law 755 = .ok (.invokevirtual 76, 3) := by decide +kernel
theorem dL_law_758 : decode cL_law 758 = .ok (.pop, 1) := by decide +kernel
theorem dL_law_759 : decode cL_law 759 = .ok (.goto 1027, 3) := by decide +kernel
set_option maxHeartbeats 4000000 in
set_option maxRecDepth 100000 in
/-- case 13: tear -/
theorem law_13 {p : Program} {l : Launch} {e : Env} {s : State} {m : MethodId} {below : List Frame} {meth : Method} {c : Code} {G : xG} {sc L : Nat} {xs : Nat → Int32} {A : Nat → Prop} {S : yS} {q0 m0 : Nat} (C0 : CallFix p m c code 4 s #[Value.ref sc] wsT RL) (hr : meth.sig.returnType = ret) (hlocks : meth.locks = false) (hK : va_K G.1 xcl (xty G) s) (hN : xN s) (hX : va_X sc L xs s s.heap) (hbl : sc < s.heap.size) (hbA : ¬ A sc) (hA : ∀ q : Nat, s.heap.size ≤ q → A q) (hA2 : ∀ q, A q → s.heap.size ≤ q) (hL : L ≤ 3584) (hSh : ySh S) (hm_q0 : q0 ∈ S.1) (hk_q0 : S.2.1 q0 = 8) (hm_m0 : m0 ∈ S.1) (hk_m0 : S.2.1 m0 = 9) (hnk : S.2.2.1 q0 0 ≠ S.2.2.1 q0 1) {d : yD} {v : Int32} (hv0 : 0 ≤ v.toInt) (hv1 : v.toInt + 7 ≤ (L : Int)) (hPo : yPo S d) (hI : yMI S d m0) (hR : zR4 S d q0 m0) {H : Heap} {locs : List Loc} {ls : Array Slot} (hP : va_P G.1 xcl (yW G S d) H) (hD : va_D A (yW G S d)) (hS : va_S A s.heap H locs) (hl : lv_has ls 4 [(3, .int v), (2, .ref m0), (1, .ref q0), (0, .ref sc)]) (kk : ∀ (u : yD) (H1 : Heap) (locs1 : List Loc) (ls1 : Array Slot), va_P G.1 xcl (yW G S u) H1 → va_D A (yW G S u) → va_S A s.heap H1 locs1 → yPo S u → yMI S u m0 → zR4 S u q0 m0 → lv_has ls1 4 [(3, .int v), (2, .ref m0), (1, .ref q0), (0, .ref sc)] → W p l e room_1 s m #[Value.ref sc] below meth c H1 locs1 169 136076 (lw_Z below #[Value.ref sc] s) (F0 m 1786 ls1 [])) : W p l e room_1 s m #[Value.ref sc] below meth c H locs 169 136076 (lw_Z below #[Value.ref sc] s) (F0 m 719 ls []) := by
  obtain ⟨hx, hb, hml, hown, htl⟩ := id C0
  refine lv_aload_n hx hb dL_law_719 rfl (lv_at hl 2 rfl) ?_
  refine lv_aload_n hx hb dL_law_720 rfl (lv_at hl 3 rfl) ?_
  refine lv_iload_n hx hb dL_law_721 rfl (lv_at hl 0 rfl) ?_
  refine lv_iconst (v := 1) hx hb dL_law_722 (by decide) ?_
  refine lv_iadd hx hb dL_law_723 ?_
  refine lv_topi (fun z_1 ez_1 => ?_)
  have T_2 : (z_1 : Int32).toInt = (v : Int32).toInt + 1 := tadd ez_1 (rfl : (v : Int32).toInt = (v : Int32).toInt) (by decide +kernel : (1 : Int32).toInt = 1) (by omega) (by omega)
  refine va_sld hx hb hX hbl hbA hS (xinL (by omega) (by omega)) dL_law_724 ?_
  refine lv_topi (fun z_3 ez_3 => ?_)
  refine lv_aload_n hx hb dL_law_725 rfl (lv_at hl 3 rfl) ?_
  refine lv_iload_n hx hb dL_law_726 rfl (lv_at hl 0 rfl) ?_
  refine lv_iconst (v := 2) hx hb dL_law_727 (by decide) ?_
  refine lv_iadd hx hb dL_law_728 ?_
  refine lv_topi (fun z_4 ez_4 => ?_)
  have T_5 : (z_4 : Int32).toInt = (v : Int32).toInt + 2 := tadd ez_4 (rfl : (v : Int32).toInt = (v : Int32).toInt) (by decide +kernel : (2 : Int32).toInt = 2) (by omega) (by omega)
  refine va_sld hx hb hX hbl hbA hS (xinL (by omega) (by omega)) dL_law_729 ?_
  refine lv_topi (fun z_6 ez_6 => ?_)
  refine lv_aload_n hx hb dL_law_730 rfl (lv_at hl 3 rfl) ?_
  refine lv_iload_n hx hb dL_law_731 rfl (lv_at hl 0 rfl) ?_
  refine lv_iconst (v := 3) hx hb dL_law_732 (by decide) ?_
  refine lv_iadd hx hb dL_law_733 ?_
  refine lv_topi (fun z_7 ez_7 => ?_)
  have T_8 : (z_7 : Int32).toInt = (v : Int32).toInt + 3 := tadd ez_7 (rfl : (v : Int32).toInt = (v : Int32).toInt) (by decide +kernel : (3 : Int32).toInt = 3) (by omega) (by omega)
  refine va_sld hx hb hX hbl hbA hS (xinL (by omega) (by omega)) dL_law_734 ?_
  refine lv_topi (fun z_9 ez_9 => ?_)
  refine yVwi (As := [.int z_3, .int z_6, .int z_9]) (rest := []) C0 (g_X8_tear l G S d q0 z_3 z_6 z_9 hSh hPo hm_q0 hk_q0) ok_X8_tear (mW454 : Cond.methodLink RL 73 yX8_tear ∈ wsT) ⟨Nat.le_of_ble_eq_true rfl, Nat.le_of_ble_eq_true rfl⟩ hP hD hS hA hK hN hm_q0 hk_q0 (by decide) rfl rfl rfl hl.1 rfl (Nat.le_of_ble_eq_true rfl) ⟨Nat.le_of_ble_eq_true rfl, Nat.le_of_ble_eq_true rfl⟩ dL_law_735 (fun r_10 d_11 H locs hr_10 hP hD hS => ?_)
  obtain ⟨hgad_11, hpad_11, hxd_11⟩ := hr_10
  have hPod_11 : yPo S d_11 := hpad_11 hPo
  have hId_11 : yMI S d_11 m0 := yMI.ag hI hSh hm_m0 hk_m0 hgad_11 (yK.ag (F := []) yK.rf hgad_11 (by rw [hk_m0]; decide)) (by decide) (by decide)
  refine lv_pop hx hb dL_law_738 rfl ?_
  refine lv_aload_n hx hb dL_law_739 rfl (lv_at hl 1 rfl) ?_
  refine lv_aload_n hx hb dL_law_740 rfl (lv_at hl 3 rfl) ?_
  refine lv_iload_n hx hb dL_law_741 rfl (lv_at hl 0 rfl) ?_
  refine lv_iconst (v := 1) hx hb dL_law_742 (by decide) ?_
  refine lv_iadd hx hb dL_law_743 ?_
  rw [← ez_1]
  refine va_sld hx hb hX hbl hbA hS (xinL (by omega) (by omega)) dL_law_744 ?_
  rw [← ez_3]
  refine lv_aload_n hx hb dL_law_745 rfl (lv_at hl 3 rfl) ?_
  refine lv_iload_n hx hb dL_law_746 rfl (lv_at hl 0 rfl) ?_
  refine lv_iconst (v := 2) hx hb dL_law_747 (by decide) ?_
  refine lv_iadd hx hb dL_law_748 ?_
  rw [← ez_4]
  refine va_sld hx hb hX hbl hbA hS (xinL (by omega) (by omega)) dL_law_749 ?_
  rw [← ez_6]
  refine lv_aload_n hx hb dL_law_750 rfl (lv_at hl 3 rfl) ?_
  refine lv_iload_n hx hb dL_law_751 rfl (lv_at hl 0 rfl) ?_
  refine lv_iconst (v := 3) hx hb dL_law_752 (by decide) ?_
  refine lv_iadd hx hb dL_law_753 ?_
  rw [← ez_7]
  refine va_sld hx hb hX hbl hbA hS (xinL (by omega) (by omega)) dL_law_754 ?_
  rw [← ez_9]
  refine yVwi (As := [.int z_3, .int z_6, .int z_9]) (rest := []) C0 (g_X9_tear l G S d_11 m0 z_3 z_6 z_9 hSh hPod_11 hm_m0 hk_m0 hId_11) ok_X9_tear (mW462 : Cond.methodLink RL 76 yX9_tear ∈ wsT) ⟨Nat.le_of_ble_eq_true rfl, Nat.le_of_ble_eq_true rfl⟩ hP hD hS hA hK hN hm_m0 hk_m0 (by decide) rfl rfl rfl hl.1 rfl (Nat.le_of_ble_eq_true rfl) ⟨Nat.le_of_ble_eq_true rfl, Nat.le_of_ble_eq_true rfl⟩ dL_law_755 (fun r_12 d_13 H locs hr_12 hP hD hS => ?_)
  obtain ⟨hgad_13, hpad_13, hfad_13, hxd_13⟩ := hr_12
  have hPod_13 : yPo S d_13 := hpad_13 hPod_11
  have hId_13 : yMI S d_13 m0 := hxd_13
  refine lv_pop hx hb dL_law_758 rfl ?_
  refine lv_goto (tgt := 1786) hx hb dL_law_759 (by decide) ?_
  exact kk d_13 _ _ ls hP hD hS hPod_13 hId_13 (zR4.gen hR hSh hm_q0 hk_q0 hm_m0 hk_m0 hnk hgad_11 (by decide) (by decide) hxd_11 hgad_13 (by decide) (by decide) hfad_13 (by decide)) (lv_sub hl [0, 1, 2, 3] rfl)
theorem dL_law_762 : decode cL_law 762 = .ok (.aload_n 1, 1) := by decide +kernel
theorem dL_law_763 : decode cL_law 763 = .ok (.aload_n 0, 1) := by decide +kernel
theorem dL_law_764 : decode cL_law 764 = .ok (.iload_n 3, 1) := by decide +kernel
theorem dL_law_765 : decode cL_law 765 = .ok (.iconst 1, 1) := by decide +kernel
theorem dL_law_766 : decode cL_law 766 = .ok (.iadd, 1) := by decide +kernel
theorem dL_law_767 : decode cL_law 767 = .ok (.iaload, 1) := by decide +kernel
theorem dL_law_768 : decode cL_law 768 = .ok (.aload_n 0, 1) := by decide +kernel
theorem dL_law_769 : decode cL_law 769 = .ok (.iload_n 3, 1) := by decide +kernel
theorem dL_law_770 : decode cL_law 770 = .ok (.iconst 2, 1) := by decide +kernel
theorem dL_law_771 : decode cL_law 771 = .ok (.iadd, 1) := by decide +kernel
theorem dL_law_772 : decode cL_law 772 = .ok (.iaload, 1) := by decide +kernel
theorem dL_law_773 : decode cL_law 773 = .ok (.aload_n 0, 1) := by decide +kernel
theorem dL_law_774 : decode cL_law 774 = .ok (.iload_n 3, 1) := by decide +kernel
theorem dL_law_775 : decode cL_law 775 = .ok (.iconst 3, 1) := by decide +kernel
theorem dL_law_776 : decode cL_law 776 = .ok (.iadd, 1) := by decide +kernel
theorem dL_law_777 : decode cL_law 777 = .ok (.iaload, 1) := by decide +kernel
theorem dL_law_778 : decode cL_law 778 = .ok (.aload_n 0, 1) := by decide +kernel
theorem dL_law_779 : decode cL_law 779 = .ok (.iload_n 3, 1) := by decide +kernel
theorem dL_law_780 : decode cL_law 780 = .ok (.iconst 4, 1) := by decide +kernel
theorem dL_law_781 : decode cL_law 781 = .ok (.iadd, 1) := by decide +kernel
theorem dL_law_782 : decode cL_law 782 = .ok (.iaload, 1) := by decide +kernel
theorem dL_law_783 : decode cL_law 783 = .ok (.aload_n 0, 1) := by decide +kernel
theorem dL_law_784 : decode cL_law 784 = .ok (.iload_n 3, 1) := by decide +kernel
theorem dL_law_785 : decode cL_law 785 = .ok (.iconst 5, 1) := by decide +kernel
theorem dL_law_786 : decode cL_law 786 = .ok (.iadd, 1) := by decide +kernel
theorem dL_law_787 : decode cL_law 787 = .ok (.iaload, 1) := by decide +kernel
theorem dL_law_788 : decode cL_law 788 = .ok (.invokevirtual 77, 3) := by decide +kernel
theorem dL_law_791 : decode cL_law 791 = .ok (.pop, 1) := by decide +kernel
theorem dL_law_792 : decode cL_law 792 = .ok (.aload_n 2, 1) := by decide +kernel
theorem dL_law_793 : decode cL_law 793 = .ok (.aload_n 0, 1) := by decide +kernel
theorem dL_law_794 : decode cL_law 794 = .ok (.iload_n 3, 1) := by decide +kernel
theorem dL_law_795 : decode cL_law 795 = .ok (.iconst 1, 1) := by decide +kernel
theorem dL_law_796 : decode cL_law 796 = .ok (.iadd, 1) := by decide +kernel
theorem dL_law_797 : decode cL_law 797 = .ok (.iaload, 1) := by decide +kernel
theorem dL_law_798 : decode cL_law 798 = .ok (.aload_n 0, 1) := by decide +kernel
theorem dL_law_799 : decode cL_law 799 = .ok (.iload_n 3, 1) := by decide +kernel
theorem dL_law_800 : decode cL_law 800 = .ok (.iconst 2, 1) := by decide +kernel
theorem dL_law_801 : decode cL_law 801 = .ok (.iadd, 1) := by decide +kernel
theorem dL_law_802 : decode cL_law 802 = .ok (.iaload, 1) := by decide +kernel
theorem dL_law_803 : decode cL_law 803 = .ok (.aload_n 0, 1) := by decide +kernel
theorem dL_law_804 : decode cL_law 804 = .ok (.iload_n 3, 1) := by decide +kernel
theorem dL_law_805 : decode cL_law 805 = .ok (.iconst 3, 1) := by decide +kernel
theorem dL_law_806 : decode cL_law 806 = .ok (.iadd, 1) := by decide +kernel
theorem dL_law_807 : decode cL_law 807 = .ok (.iaload, 1) := by decide +kernel
theorem dL_law_808 : decode cL_law 808 = .ok (.aload_n 0, 1) := by decide +kernel
theorem dL_law_809 : decode cL_law 809 = .ok (.iload_n 3, 1) := by decide +kernel
theorem dL_law_810 : decode cL_law 810 = .ok (.iconst 4, 1) := by decide +kernel
theorem dL_law_811 : decode cL_law 811 = .ok (.iadd, 1) := by decide +kernel
theorem dL_law_812 : decode cL_law 812 = .ok (.iaload, 1) := by decide +kernel
theorem dL_law_813 : decode cL_law 813 = .ok (.aload_n 0, 1) := by decide +kernel
theorem dL_law_814 : decode cL_law 814 = .ok (.iload_n 3, 1) := by decide +kernel
theorem dL_law_815 : decode cL_law 815 = .ok (.iconst 5, 1) := by decide +kernel
theorem dL_law_816 : decode cL_law 816 = .ok (.iadd, 1) := by decide +kernel
theorem dL_law_817 : decode cL_law 817 = .ok (.iaload, 1) := by decide +kernel
theorem dL_law_818 : decode cL_law 818 = .ok (.invokevirtual 81, 3) := by decide +kernel
theorem dL_law_821 : decode cL_law 821 = .ok (.pop, 1) := by decide +kernel
theorem dL_law_822 : decode cL_law 822 = .ok (.goto 964, 3) := by decide +kernel
set_option maxHeartbeats 4000000 in
set_option maxRecDepth 100000 in
/-- case 14: copy -/
theorem law_14 {p : Program} {l : Launch} {e : Env} {s : State} {m : MethodId} {below : List Frame} {meth : Method} {c : Code} {G : xG} {sc L : Nat} {xs : Nat → Int32} {A : Nat → Prop} {S : yS} {q0 m0 : Nat} (C0 : CallFix p m c code 4 s #[Value.ref sc] wsT RL) (hr : meth.sig.returnType = ret) (hlocks : meth.locks = false) (hK : va_K G.1 xcl (xty G) s) (hN : xN s) (hX : va_X sc L xs s s.heap) (hbl : sc < s.heap.size) (hbA : ¬ A sc) (hA : ∀ q : Nat, s.heap.size ≤ q → A q) (hA2 : ∀ q, A q → s.heap.size ≤ q) (hL : L ≤ 3584) (hSh : ySh S) (hm_q0 : q0 ∈ S.1) (hk_q0 : S.2.1 q0 = 8) (hm_m0 : m0 ∈ S.1) (hk_m0 : S.2.1 m0 = 9) (hnk : S.2.2.1 q0 0 ≠ S.2.2.1 q0 1) {d : yD} {v : Int32} (hv0 : 0 ≤ v.toInt) (hv1 : v.toInt + 7 ≤ (L : Int)) (hPo : yPo S d) (hI : yMI S d m0) (hR : zR4 S d q0 m0) {H : Heap} {locs : List Loc} {ls : Array Slot} (hP : va_P G.1 xcl (yW G S d) H) (hD : va_D A (yW G S d)) (hS : va_S A s.heap H locs) (hl : lv_has ls 4 [(3, .int v), (2, .ref m0), (1, .ref q0), (0, .ref sc)]) (kk : ∀ (u : yD) (H1 : Heap) (locs1 : List Loc) (ls1 : Array Slot), va_P G.1 xcl (yW G S u) H1 → va_D A (yW G S u) → va_S A s.heap H1 locs1 → yPo S u → yMI S u m0 → zR4 S u q0 m0 → lv_has ls1 4 [(3, .int v), (2, .ref m0), (1, .ref q0), (0, .ref sc)] → W p l e room_1 s m #[Value.ref sc] below meth c H1 locs1 169 136076 (lw_Z below #[Value.ref sc] s) (F0 m 1786 ls1 [])) : W p l e room_1 s m #[Value.ref sc] below meth c H locs 169 136076 (lw_Z below #[Value.ref sc] s) (F0 m 762 ls []) := by
  obtain ⟨hx, hb, hml, hown, htl⟩ := id C0
  refine lv_aload_n hx hb dL_law_762 rfl (lv_at hl 2 rfl) ?_
  refine lv_aload_n hx hb dL_law_763 rfl (lv_at hl 3 rfl) ?_
  refine lv_iload_n hx hb dL_law_764 rfl (lv_at hl 0 rfl) ?_
  refine lv_iconst (v := 1) hx hb dL_law_765 (by decide) ?_
  refine lv_iadd hx hb dL_law_766 ?_
  refine lv_topi (fun z_1 ez_1 => ?_)
  have T_2 : (z_1 : Int32).toInt = (v : Int32).toInt + 1 := tadd ez_1 (rfl : (v : Int32).toInt = (v : Int32).toInt) (by decide +kernel : (1 : Int32).toInt = 1) (by omega) (by omega)
  refine va_sld hx hb hX hbl hbA hS (xinL (by omega) (by omega)) dL_law_767 ?_
  refine lv_topi (fun z_3 ez_3 => ?_)
  refine lv_aload_n hx hb dL_law_768 rfl (lv_at hl 3 rfl) ?_
  refine lv_iload_n hx hb dL_law_769 rfl (lv_at hl 0 rfl) ?_
  refine lv_iconst (v := 2) hx hb dL_law_770 (by decide) ?_
  refine lv_iadd hx hb dL_law_771 ?_
  refine lv_topi (fun z_4 ez_4 => ?_)
  have T_5 : (z_4 : Int32).toInt = (v : Int32).toInt + 2 := tadd ez_4 (rfl : (v : Int32).toInt = (v : Int32).toInt) (by decide +kernel : (2 : Int32).toInt = 2) (by omega) (by omega)
  refine va_sld hx hb hX hbl hbA hS (xinL (by omega) (by omega)) dL_law_772 ?_
  refine lv_topi (fun z_6 ez_6 => ?_)
  refine lv_aload_n hx hb dL_law_773 rfl (lv_at hl 3 rfl) ?_
  refine lv_iload_n hx hb dL_law_774 rfl (lv_at hl 0 rfl) ?_
  refine lv_iconst (v := 3) hx hb dL_law_775 (by decide) ?_
  refine lv_iadd hx hb dL_law_776 ?_
  refine lv_topi (fun z_7 ez_7 => ?_)
  have T_8 : (z_7 : Int32).toInt = (v : Int32).toInt + 3 := tadd ez_7 (rfl : (v : Int32).toInt = (v : Int32).toInt) (by decide +kernel : (3 : Int32).toInt = 3) (by omega) (by omega)
  refine va_sld hx hb hX hbl hbA hS (xinL (by omega) (by omega)) dL_law_777 ?_
  refine lv_topi (fun z_9 ez_9 => ?_)
  refine lv_aload_n hx hb dL_law_778 rfl (lv_at hl 3 rfl) ?_
  refine lv_iload_n hx hb dL_law_779 rfl (lv_at hl 0 rfl) ?_
  refine lv_iconst (v := 4) hx hb dL_law_780 (by decide) ?_
  refine lv_iadd hx hb dL_law_781 ?_
  refine lv_topi (fun z_10 ez_10 => ?_)
  have T_11 : (z_10 : Int32).toInt = (v : Int32).toInt + 4 := tadd ez_10 (rfl : (v : Int32).toInt = (v : Int32).toInt) (by decide +kernel : (4 : Int32).toInt = 4) (by omega) (by omega)
  refine va_sld hx hb hX hbl hbA hS (xinL (by omega) (by omega)) dL_law_782 ?_
  refine lv_topi (fun z_12 ez_12 => ?_)
  refine lv_aload_n hx hb dL_law_783 rfl (lv_at hl 3 rfl) ?_
  refine lv_iload_n hx hb dL_law_784 rfl (lv_at hl 0 rfl) ?_
  refine lv_iconst (v := 5) hx hb dL_law_785 (by decide) ?_
  refine lv_iadd hx hb dL_law_786 ?_
  refine lv_topi (fun z_13 ez_13 => ?_)
  have T_14 : (z_13 : Int32).toInt = (v : Int32).toInt + 5 := tadd ez_13 (rfl : (v : Int32).toInt = (v : Int32).toInt) (by decide +kernel : (5 : Int32).toInt = 5) (by omega) (by omega)
  refine va_sld hx hb hX hbl hbA hS (xinL (by omega) (by omega)) dL_law_787 ?_
  refine lv_topi (fun z_15 ez_15 => ?_)
  refine yVwi (As := [.int z_3, .int z_6, .int z_9, .int z_12, .int z_15]) (rest := []) C0 (g_X8_copy l G S d q0 z_3 z_6 z_9 z_12 z_15 hSh hPo hm_q0 hk_q0) ok_X8_copy (mW466 : Cond.methodLink RL 77 yX8_copy ∈ wsT) ⟨Nat.le_of_ble_eq_true rfl, Nat.le_of_ble_eq_true rfl⟩ hP hD hS hA hK hN hm_q0 hk_q0 (by decide) rfl rfl rfl hl.1 rfl (Nat.le_of_ble_eq_true rfl) ⟨Nat.le_of_ble_eq_true rfl, Nat.le_of_ble_eq_true rfl⟩ dL_law_788 (fun r_16 d_17 H locs hr_16 hP hD hS => ?_)
  obtain ⟨hgad_17, hpad_17, hxd_17⟩ := hr_16
  have hPod_17 : yPo S d_17 := hpad_17 hPo
  have hId_17 : yMI S d_17 m0 := yMI.ag hI hSh hm_m0 hk_m0 hgad_17 (yK.ag (F := []) yK.rf hgad_17 (by rw [hk_m0]; decide)) (by decide) (by decide)
  refine lv_pop hx hb dL_law_791 rfl ?_
  refine lv_aload_n hx hb dL_law_792 rfl (lv_at hl 1 rfl) ?_
  refine lv_aload_n hx hb dL_law_793 rfl (lv_at hl 3 rfl) ?_
  refine lv_iload_n hx hb dL_law_794 rfl (lv_at hl 0 rfl) ?_
  refine lv_iconst (v := 1) hx hb dL_law_795 (by decide) ?_
  refine lv_iadd hx hb dL_law_796 ?_
  rw [← ez_1]
  refine va_sld hx hb hX hbl hbA hS (xinL (by omega) (by omega)) dL_law_797 ?_
  rw [← ez_3]
  refine lv_aload_n hx hb dL_law_798 rfl (lv_at hl 3 rfl) ?_
  refine lv_iload_n hx hb dL_law_799 rfl (lv_at hl 0 rfl) ?_
  refine lv_iconst (v := 2) hx hb dL_law_800 (by decide) ?_
  refine lv_iadd hx hb dL_law_801 ?_
  rw [← ez_4]
  refine va_sld hx hb hX hbl hbA hS (xinL (by omega) (by omega)) dL_law_802 ?_
  rw [← ez_6]
  refine lv_aload_n hx hb dL_law_803 rfl (lv_at hl 3 rfl) ?_
  refine lv_iload_n hx hb dL_law_804 rfl (lv_at hl 0 rfl) ?_
  refine lv_iconst (v := 3) hx hb dL_law_805 (by decide) ?_
  refine lv_iadd hx hb dL_law_806 ?_
  rw [← ez_7]
  refine va_sld hx hb hX hbl hbA hS (xinL (by omega) (by omega)) dL_law_807 ?_
  rw [← ez_9]
  refine lv_aload_n hx hb dL_law_808 rfl (lv_at hl 3 rfl) ?_
  refine lv_iload_n hx hb dL_law_809 rfl (lv_at hl 0 rfl) ?_
  refine lv_iconst (v := 4) hx hb dL_law_810 (by decide) ?_
  refine lv_iadd hx hb dL_law_811 ?_
  rw [← ez_10]
  refine va_sld hx hb hX hbl hbA hS (xinL (by omega) (by omega)) dL_law_812 ?_
  rw [← ez_12]
  refine lv_aload_n hx hb dL_law_813 rfl (lv_at hl 3 rfl) ?_
  refine lv_iload_n hx hb dL_law_814 rfl (lv_at hl 0 rfl) ?_
  refine lv_iconst (v := 5) hx hb dL_law_815 (by decide) ?_
  refine lv_iadd hx hb dL_law_816 ?_
  rw [← ez_13]
  refine va_sld hx hb hX hbl hbA hS (xinL (by omega) (by omega)) dL_law_817 ?_
  rw [← ez_15]
  refine yVwi (As := [.int z_3, .int z_6, .int z_9, .int z_12, .int z_15]) (rest := []) C0 (g_X9_copy l G S d_17 m0 z_3 z_6 z_9 z_12 z_15 hSh hPod_17 hm_m0 hk_m0 hId_17) ok_X9_copy (mW485 : Cond.methodLink RL 81 yX9_copy ∈ wsT) ⟨Nat.le_of_ble_eq_true rfl, Nat.le_of_ble_eq_true rfl⟩ hP hD hS hA hK hN hm_m0 hk_m0 (by decide) rfl rfl rfl hl.1 rfl (Nat.le_of_ble_eq_true rfl) ⟨Nat.le_of_ble_eq_true rfl, Nat.le_of_ble_eq_true rfl⟩ dL_law_818 (fun r_18 d_19 H locs hr_18 hP hD hS => ?_)
  obtain ⟨hgad_19, hpad_19, hfad_19, hxd_19⟩ := hr_18
  have hPod_19 : yPo S d_19 := hpad_19 hPod_17
  have hId_19 : yMI S d_19 m0 := hxd_19
  refine lv_pop hx hb dL_law_821 rfl ?_
  refine lv_goto (tgt := 1786) hx hb dL_law_822 (by decide) ?_
  exact kk d_19 _ _ ls hP hD hS hPod_19 hId_19 (zR4.gen hR hSh hm_q0 hk_q0 hm_m0 hk_m0 hnk hgad_17 (by decide) (by decide) hxd_17 hgad_19 (by decide) (by decide) hfad_19 (by decide)) (lv_sub hl [0, 1, 2, 3] rfl)
theorem dL_law_825 : decode cL_law 825 = .ok (.aload_n 1, 1) := by decide +kernel
theorem dL_law_826 : decode cL_law 826 = .ok (.aload_n 0, 1) := by decide +kernel
theorem dL_law_827 : decode cL_law 827 = .ok (.iload_n 3, 1) := by decide +kernel
theorem dL_law_828 : decode cL_law 828 = .ok (.iconst 1, 1) := by decide +kernel
theorem dL_law_829 : decode cL_law 829 = .ok (.iadd, 1) := by decide +kernel
theorem dL_law_830 : decode cL_law 830 = .ok (.iaload, 1) := by decide +kernel
theorem dL_law_831 : decode cL_law 831 = .ok (.aload_n 0, 1) := by decide +kernel
theorem dL_law_832 : decode cL_law 832 = .ok (.iload_n 3, 1) := by decide +kernel
theorem dL_law_833 : decode cL_law 833 = .ok (.iconst 2, 1) := by decide +kernel
theorem dL_law_834 : decode cL_law 834 = .ok (.iadd, 1) := by decide +kernel
theorem dL_law_835 : decode cL_law 835 = .ok (.iaload, 1) := by decide +kernel
theorem dL_law_836 : decode cL_law 836 = .ok (.aload_n 0, 1) := by decide +kernel
theorem dL_law_837 : decode cL_law 837 = .ok (.iload_n 3, 1) := by decide +kernel
theorem dL_law_838 : decode cL_law 838 = .ok (.iconst 3, 1) := by decide +kernel
theorem dL_law_839 : decode cL_law 839 = .ok (.iadd, 1) := by decide +kernel
theorem dL_law_840 : decode cL_law 840 = .ok (.iaload, 1) := by decide +kernel
theorem dL_law_841 : decode cL_law 841 = .ok (.ifCond .eq 7, 3) := by decide +kernel
theorem dL_law_844 : decode cL_law 844 = .ok (.iconst 1, 1) := by decide +kernel
theorem dL_law_845 : decode cL_law 845 = .ok (.goto 4, 3) := by decide +kernel
theorem dL_law_848 : decode cL_law 848 = .ok (.iconst 0, 1) := by decide +kernel
theorem dL_law_849 : decode cL_law 849 = .ok (.invokevirtual 82, 3) := by decide +kernel
theorem dL_law_852 : decode cL_law 852 = .ok (.pop, 1) := by decide +kernel
theorem dL_law_853 : decode cL_law 853 = .ok (.aload_n 2, 1) := by decide +kernel
theorem dL_law_854 : decode cL_law 854 = .ok (.aload_n 0, 1) := by decide +kernel
theorem dL_law_855 : decode cL_law 855 = .ok (.iload_n 3, 1) := by decide +kernel
theorem dL_law_856 : decode cL_law 856 = .ok (.iconst 1, 1) := by decide +kernel
theorem dL_law_857 : decode cL_law 857 = .ok (.iadd, 1) := by decide +kernel
theorem dL_law_858 : decode cL_law 858 = .ok (.iaload, 1) := by decide +kernel
theorem dL_law_859 : decode cL_law 859 = .ok (.aload_n 0, 1) := by decide +kernel
theorem dL_law_860 : decode cL_law 860 = .ok (.iload_n 3, 1) := by decide +kernel
theorem dL_law_861 : decode cL_law 861 = .ok (.iconst 2, 1) := by decide +kernel
theorem dL_law_862 : decode cL_law 862 = .ok (.iadd, 1) := by decide +kernel
theorem dL_law_863 : decode cL_law 863 = .ok (.iaload, 1) := by decide +kernel
theorem dL_law_864 : decode cL_law 864 = .ok (.aload_n 0, 1) := by decide +kernel
theorem dL_law_865 : decode cL_law 865 = .ok (.iload_n 3, 1) := by decide +kernel
theorem dL_law_866 : decode cL_law 866 = .ok (.iconst 3, 1) := by decide +kernel
theorem dL_law_867 : decode cL_law 867 = .ok (.iadd, 1) := by decide +kernel
theorem dL_law_868 : decode cL_law 868 = .ok (.iaload, 1) := by decide +kernel
theorem dL_law_869 : decode cL_law 869 = .ok (.ifCond .eq 7, 3) := by decide +kernel
theorem dL_law_872 : decode cL_law 872 = .ok (.iconst 1, 1) := by decide +kernel
theorem dL_law_873 : decode cL_law 873 = .ok (.goto 4, 3) := by decide +kernel
theorem dL_law_876 : decode cL_law 876 = .ok (.iconst 0, 1) := by decide +kernel
theorem dL_law_877 : decode cL_law 877 = .ok (.invokevirtual 85, 3) := by decide +kernel
theorem dL_law_880 : decode cL_law 880 = .ok (.pop, 1) := by decide +kernel
theorem dL_law_881 : decode cL_law 881 = .ok (.goto 905, 3) := by decide +kernel
set_option maxHeartbeats 4000000 in
set_option maxRecDepth 100000 in
/-- case 15: free -/
theorem law_15 {p : Program} {l : Launch} {e : Env} {s : State} {m : MethodId} {below : List Frame} {meth : Method} {c : Code} {G : xG} {sc L : Nat} {xs : Nat → Int32} {A : Nat → Prop} {S : yS} {q0 m0 : Nat} (C0 : CallFix p m c code 4 s #[Value.ref sc] wsT RL) (hr : meth.sig.returnType = ret) (hlocks : meth.locks = false) (hK : va_K G.1 xcl (xty G) s) (hN : xN s) (hX : va_X sc L xs s s.heap) (hbl : sc < s.heap.size) (hbA : ¬ A sc) (hA : ∀ q : Nat, s.heap.size ≤ q → A q) (hA2 : ∀ q, A q → s.heap.size ≤ q) (hL : L ≤ 3584) (hSh : ySh S) (hm_q0 : q0 ∈ S.1) (hk_q0 : S.2.1 q0 = 8) (hm_m0 : m0 ∈ S.1) (hk_m0 : S.2.1 m0 = 9) (hnk : S.2.2.1 q0 0 ≠ S.2.2.1 q0 1) {d : yD} {v : Int32} (hv0 : 0 ≤ v.toInt) (hv1 : v.toInt + 7 ≤ (L : Int)) (hPo : yPo S d) (hI : yMI S d m0) (hR : zR4 S d q0 m0) {H : Heap} {locs : List Loc} {ls : Array Slot} (hP : va_P G.1 xcl (yW G S d) H) (hD : va_D A (yW G S d)) (hS : va_S A s.heap H locs) (hl : lv_has ls 4 [(3, .int v), (2, .ref m0), (1, .ref q0), (0, .ref sc)]) (kk : ∀ (u : yD) (H1 : Heap) (locs1 : List Loc) (ls1 : Array Slot), va_P G.1 xcl (yW G S u) H1 → va_D A (yW G S u) → va_S A s.heap H1 locs1 → yPo S u → yMI S u m0 → zR4 S u q0 m0 → lv_has ls1 4 [(3, .int v), (2, .ref m0), (1, .ref q0), (0, .ref sc)] → W p l e room_1 s m #[Value.ref sc] below meth c H1 locs1 169 136076 (lw_Z below #[Value.ref sc] s) (F0 m 1786 ls1 [])) : W p l e room_1 s m #[Value.ref sc] below meth c H locs 169 136076 (lw_Z below #[Value.ref sc] s) (F0 m 825 ls []) := by
  obtain ⟨hx, hb, hml, hown, htl⟩ := id C0
  refine lv_aload_n hx hb dL_law_825 rfl (lv_at hl 2 rfl) ?_
  refine lv_aload_n hx hb dL_law_826 rfl (lv_at hl 3 rfl) ?_
  refine lv_iload_n hx hb dL_law_827 rfl (lv_at hl 0 rfl) ?_
  refine lv_iconst (v := 1) hx hb dL_law_828 (by decide) ?_
  refine lv_iadd hx hb dL_law_829 ?_
  refine lv_topi (fun z_1 ez_1 => ?_)
  have T_2 : (z_1 : Int32).toInt = (v : Int32).toInt + 1 := tadd ez_1 (rfl : (v : Int32).toInt = (v : Int32).toInt) (by decide +kernel : (1 : Int32).toInt = 1) (by omega) (by omega)
  refine va_sld hx hb hX hbl hbA hS (xinL (by omega) (by omega)) dL_law_830 ?_
  refine lv_topi (fun z_3 ez_3 => ?_)
  refine lv_aload_n hx hb dL_law_831 rfl (lv_at hl 3 rfl) ?_
  refine lv_iload_n hx hb dL_law_832 rfl (lv_at hl 0 rfl) ?_
  refine lv_iconst (v := 2) hx hb dL_law_833 (by decide) ?_
  refine lv_iadd hx hb dL_law_834 ?_
  refine lv_topi (fun z_4 ez_4 => ?_)
  have T_5 : (z_4 : Int32).toInt = (v : Int32).toInt + 2 := tadd ez_4 (rfl : (v : Int32).toInt = (v : Int32).toInt) (by decide +kernel : (2 : Int32).toInt = 2) (by omega) (by omega)
  refine va_sld hx hb hX hbl hbA hS (xinL (by omega) (by omega)) dL_law_835 ?_
  refine lv_topi (fun z_6 ez_6 => ?_)
  refine lv_aload_n hx hb dL_law_836 rfl (lv_at hl 3 rfl) ?_
  refine lv_iload_n hx hb dL_law_837 rfl (lv_at hl 0 rfl) ?_
  refine lv_iconst (v := 3) hx hb dL_law_838 (by decide) ?_
  refine lv_iadd hx hb dL_law_839 ?_
  refine lv_topi (fun z_7 ez_7 => ?_)
  have T_8 : (z_7 : Int32).toInt = (v : Int32).toInt + 3 := tadd ez_7 (rfl : (v : Int32).toInt = (v : Int32).toInt) (by decide +kernel : (3 : Int32).toInt = 3) (by omega) (by omega)
  refine va_sld hx hb hX hbl hbA hS (xinL (by omega) (by omega)) dL_law_840 ?_
  refine lv_topi (fun z_9 ez_9 => ?_)
  refine lv_if_eq (tgt := 848) hx hb dL_law_841 (by decide) (fun c_10 => ?_) (fun c_10 => ?_)
  · refine lv_iconst (v := 0) hx hb dL_law_848 (by decide) ?_
    refine yVwi (As := [.int z_3, .int z_6, .int 0]) (rest := []) C0 (g_X8_free l G S d q0 z_3 z_6 0 hSh hPo hm_q0 hk_q0 (Or.inl rfl)) ok_X8_free (mW493 : Cond.methodLink RL 82 yX8_free ∈ wsT) ⟨Nat.le_of_ble_eq_true rfl, Nat.le_of_ble_eq_true rfl⟩ hP hD hS hA hK hN hm_q0 hk_q0 (by decide) rfl rfl rfl hl.1 rfl (Nat.le_of_ble_eq_true rfl) ⟨Nat.le_of_ble_eq_true rfl, Nat.le_of_ble_eq_true rfl⟩ dL_law_849 (fun r_11 d_12 H locs hr_11 hP hD hS => ?_)
    obtain ⟨hgad_12, hpad_12, hxd_12⟩ := hr_11
    have hPod_12 : yPo S d_12 := hpad_12 hPo
    have hId_12 : yMI S d_12 m0 := yMI.ag hI hSh hm_m0 hk_m0 hgad_12 (yK.ag (F := []) yK.rf hgad_12 (by rw [hk_m0]; decide)) (by decide) (by decide)
    refine lv_pop hx hb dL_law_852 rfl ?_
    refine lv_aload_n hx hb dL_law_853 rfl (lv_at hl 1 rfl) ?_
    refine lv_aload_n hx hb dL_law_854 rfl (lv_at hl 3 rfl) ?_
    refine lv_iload_n hx hb dL_law_855 rfl (lv_at hl 0 rfl) ?_
    refine lv_iconst (v := 1) hx hb dL_law_856 (by decide) ?_
    refine lv_iadd hx hb dL_law_857 ?_
    rw [← ez_1]
    have F_13 := feq (rfl : (z_9 : Int32).toInt = (z_9 : Int32).toInt) (by decide +kernel : (0 : Int32).toInt = 0) c_10
    refine va_sld hx hb hX hbl hbA hS (xinL (by omega) (by omega)) dL_law_858 ?_
    rw [← ez_3]
    refine lv_aload_n hx hb dL_law_859 rfl (lv_at hl 3 rfl) ?_
    refine lv_iload_n hx hb dL_law_860 rfl (lv_at hl 0 rfl) ?_
    refine lv_iconst (v := 2) hx hb dL_law_861 (by decide) ?_
    refine lv_iadd hx hb dL_law_862 ?_
    rw [← ez_4]
    refine va_sld hx hb hX hbl hbA hS (xinL (by omega) (by omega)) dL_law_863 ?_
    rw [← ez_6]
    refine lv_aload_n hx hb dL_law_864 rfl (lv_at hl 3 rfl) ?_
    refine lv_iload_n hx hb dL_law_865 rfl (lv_at hl 0 rfl) ?_
    refine lv_iconst (v := 3) hx hb dL_law_866 (by decide) ?_
    refine lv_iadd hx hb dL_law_867 ?_
    rw [← ez_7]
    refine va_sld hx hb hX hbl hbA hS (xinL (by omega) (by omega)) dL_law_868 ?_
    rw [← ez_9]
    refine lv_if_eq (tgt := 876) hx hb dL_law_869 (by decide) (fun c_14 => ?_) (fun c_14 => absurd c_10 c_14)
    refine lv_iconst (v := 0) hx hb dL_law_876 (by decide) ?_
    refine yVwi (As := [.int z_3, .int z_6, .int 0]) (rest := []) C0 (g_X9_free l G S d_12 m0 z_3 z_6 0 hSh hPod_12 hm_m0 hk_m0 hId_12 (Or.inl rfl)) ok_X9_free (mW498 : Cond.methodLink RL 85 yX9_free ∈ wsT) ⟨Nat.le_of_ble_eq_true rfl, Nat.le_of_ble_eq_true rfl⟩ hP hD hS hA hK hN hm_m0 hk_m0 (by decide) rfl rfl rfl hl.1 rfl (Nat.le_of_ble_eq_true rfl) ⟨Nat.le_of_ble_eq_true rfl, Nat.le_of_ble_eq_true rfl⟩ dL_law_877 (fun r_15 d_16 H locs hr_15 hP hD hS => ?_)
    obtain ⟨hgad_16, hpad_16, hfad_16, hxd_16⟩ := hr_15
    have hPod_16 : yPo S d_16 := hpad_16 hPod_12
    have hId_16 : yMI S d_16 m0 := hxd_16
    refine lv_pop hx hb dL_law_880 rfl ?_
    refine lv_goto (tgt := 1786) hx hb dL_law_881 (by decide) ?_
    exact kk d_16 _ _ ls hP hD hS hPod_16 hId_16 (zR4.gen hR hSh hm_q0 hk_q0 hm_m0 hk_m0 hnk hgad_12 (by decide) (by decide) hxd_12 hgad_16 (by decide) (by decide) hfad_16 (by decide)) (lv_sub hl [0, 1, 2, 3] rfl)
  · refine lv_iconst (v := 1) hx hb dL_law_844 (by decide) ?_
    refine lv_goto (tgt := 849) hx hb dL_law_845 (by decide) ?_
    refine yVwi (As := [.int z_3, .int z_6, .int 1]) (rest := []) C0 (g_X8_free l G S d q0 z_3 z_6 1 hSh hPo hm_q0 hk_q0 (Or.inr rfl)) ok_X8_free (mW493 : Cond.methodLink RL 82 yX8_free ∈ wsT) ⟨Nat.le_of_ble_eq_true rfl, Nat.le_of_ble_eq_true rfl⟩ hP hD hS hA hK hN hm_q0 hk_q0 (by decide) rfl rfl rfl hl.1 rfl (Nat.le_of_ble_eq_true rfl) ⟨Nat.le_of_ble_eq_true rfl, Nat.le_of_ble_eq_true rfl⟩ dL_law_849 (fun r_17 d_18 H locs hr_17 hP hD hS => ?_)
    obtain ⟨hgad_18, hpad_18, hxd_18⟩ := hr_17
    have hPod_18 : yPo S d_18 := hpad_18 hPo
    have hId_18 : yMI S d_18 m0 := yMI.ag hI hSh hm_m0 hk_m0 hgad_18 (yK.ag (F := []) yK.rf hgad_18 (by rw [hk_m0]; decide)) (by decide) (by decide)
    refine lv_pop hx hb dL_law_852 rfl ?_
    refine lv_aload_n hx hb dL_law_853 rfl (lv_at hl 1 rfl) ?_
    refine lv_aload_n hx hb dL_law_854 rfl (lv_at hl 3 rfl) ?_
    refine lv_iload_n hx hb dL_law_855 rfl (lv_at hl 0 rfl) ?_
    refine lv_iconst (v := 1) hx hb dL_law_856 (by decide) ?_
    refine lv_iadd hx hb dL_law_857 ?_
    rw [← ez_1]
    have F_19 := fne (rfl : (z_9 : Int32).toInt = (z_9 : Int32).toInt) (by decide +kernel : (0 : Int32).toInt = 0) c_10
    refine va_sld hx hb hX hbl hbA hS (xinL (by omega) (by omega)) dL_law_858 ?_
    rw [← ez_3]
    refine lv_aload_n hx hb dL_law_859 rfl (lv_at hl 3 rfl) ?_
    refine lv_iload_n hx hb dL_law_860 rfl (lv_at hl 0 rfl) ?_
    refine lv_iconst (v := 2) hx hb dL_law_861 (by decide) ?_
    refine lv_iadd hx hb dL_law_862 ?_
    rw [← ez_4]
    refine va_sld hx hb hX hbl hbA hS (xinL (by omega) (by omega)) dL_law_863 ?_
    rw [← ez_6]
    refine lv_aload_n hx hb dL_law_864 rfl (lv_at hl 3 rfl) ?_
    refine lv_iload_n hx hb dL_law_865 rfl (lv_at hl 0 rfl) ?_
    refine lv_iconst (v := 3) hx hb dL_law_866 (by decide) ?_
    refine lv_iadd hx hb dL_law_867 ?_
    rw [← ez_7]
    refine va_sld hx hb hX hbl hbA hS (xinL (by omega) (by omega)) dL_law_868 ?_
    rw [← ez_9]
    refine lv_if_eq (tgt := 876) hx hb dL_law_869 (by decide) (fun c_20 => absurd c_20 c_10) (fun c_20 => ?_)
    refine lv_iconst (v := 1) hx hb dL_law_872 (by decide) ?_
    refine lv_goto (tgt := 877) hx hb dL_law_873 (by decide) ?_
    refine yVwi (As := [.int z_3, .int z_6, .int 1]) (rest := []) C0 (g_X9_free l G S d_18 m0 z_3 z_6 1 hSh hPod_18 hm_m0 hk_m0 hId_18 (Or.inr rfl)) ok_X9_free (mW498 : Cond.methodLink RL 85 yX9_free ∈ wsT) ⟨Nat.le_of_ble_eq_true rfl, Nat.le_of_ble_eq_true rfl⟩ hP hD hS hA hK hN hm_m0 hk_m0 (by decide) rfl rfl rfl hl.1 rfl (Nat.le_of_ble_eq_true rfl) ⟨Nat.le_of_ble_eq_true rfl, Nat.le_of_ble_eq_true rfl⟩ dL_law_877 (fun r_21 d_22 H locs hr_21 hP hD hS => ?_)
    obtain ⟨hgad_22, hpad_22, hfad_22, hxd_22⟩ := hr_21
    have hPod_22 : yPo S d_22 := hpad_22 hPod_18
    have hId_22 : yMI S d_22 m0 := hxd_22
    refine lv_pop hx hb dL_law_880 rfl ?_
    refine lv_goto (tgt := 1786) hx hb dL_law_881 (by decide) ?_
    exact kk d_22 _ _ ls hP hD hS hPod_22 hId_22 (zR4.gen hR hSh hm_q0 hk_q0 hm_m0 hk_m0 hnk hgad_18 (by decide) (by decide) hxd_18 hgad_22 (by decide) (by decide) hfad_22 (by decide)) (lv_sub hl [0, 1, 2, 3] rfl)
theorem dL_law_884 : decode cL_law 884 = .ok (.aload_n 1, 1) := by decide +kernel
theorem dL_law_885 : decode cL_law 885 = .ok (.aload_n 0, 1) := by decide +kernel
theorem dL_law_886 : decode cL_law 886 = .ok (.iload_n 3, 1) := by decide +kernel
theorem dL_law_887 : decode cL_law 887 = .ok (.iconst 1, 1) := by decide +kernel
theorem dL_law_888 : decode cL_law 888 = .ok (.iadd, 1) := by decide +kernel
theorem dL_law_889 : decode cL_law 889 = .ok (.iaload, 1) := by decide +kernel
theorem dL_law_890 : decode cL_law 890 = .ok (.aload_n 0, 1) := by decide +kernel
theorem dL_law_891 : decode cL_law 891 = .ok (.iload_n 3, 1) := by decide +kernel
theorem dL_law_892 : decode cL_law 892 = .ok (.iconst 2, 1) := by decide +kernel
theorem dL_law_893 : decode cL_law 893 = .ok (.iadd, 1) := by decide +kernel
theorem dL_law_894 : decode cL_law 894 = .ok (.iaload, 1) := by decide +kernel
theorem dL_law_895 : decode cL_law 895 = .ok (.i2l, 1) := by decide +kernel
theorem dL_law_896 : decode cL_law 896 = .ok (.bipush 32, 2) := by decide +kernel
theorem dL_law_898 : decode cL_law 898 = .ok (.lshl, 1) := by decide +kernel
theorem dL_law_899 : decode cL_law 899 = .ok (.aload_n 0, 1) := by decide +kernel
theorem dL_law_900 : decode cL_law 900 = .ok (.iload_n 3, 1) := by decide +kernel
theorem dL_law_901 : decode cL_law 901 = .ok (.iconst 3, 1) := by decide +kernel
theorem dL_law_902 : decode cL_law 902 = .ok (.iadd, 1) := by decide +kernel
theorem dL_law_903 : decode cL_law 903 = .ok (.iaload, 1) := by decide +kernel
theorem dL_law_904 : decode cL_law 904 = .ok (.i2l, 1) := by decide +kernel
theorem dL_law_905 : decode cL_law 905 = .ok (.ldc2_w 86, 3) := by decide +kernel
theorem dL_law_908 : decode cL_law 908 = .ok (.land, 1) := by decide +kernel
theorem dL_law_909 : decode cL_law 909 = .ok (.lor, 1) := by decide +kernel
theorem dL_law_910 : decode cL_law 910 = .ok (.invokevirtual 88, 3) := by decide +kernel
theorem dL_law_913 : decode cL_law 913 = .ok (.pop, 1) := by decide +kernel
theorem dL_law_914 : decode cL_law 914 = .ok (.aload_n 2, 1) := by decide +kernel
theorem dL_law_915 : decode cL_law 915 = .ok (.aload_n 0, 1) := by decide +kernel
theorem dL_law_916 : decode cL_law 916 = .ok (.iload_n 3, 1) := by decide +kernel
theorem dL_law_917 : decode cL_law 917 = .ok (.iconst 1, 1) := by decide +kernel
theorem dL_law_918 : decode cL_law 918 = .ok (.iadd, 1) := by decide +kernel
theorem dL_law_919 : decode cL_law 919 = .ok (.iaload, 1) := by decide +kernel
theorem dL_law_920 : decode cL_law 920 = .ok (.aload_n 0, 1) := by decide +kernel
theorem dL_law_921 : decode cL_law 921 = .ok (.iload_n 3, 1) := by decide +kernel
theorem dL_law_922 : decode cL_law 922 = .ok (.iconst 2, 1) := by decide +kernel
theorem dL_law_923 : decode cL_law 923 = .ok (.iadd, 1) := by decide +kernel
theorem dL_law_924 : decode cL_law 924 = .ok (.iaload, 1) := by decide +kernel
theorem dL_law_925 : decode cL_law 925 = .ok (.i2l, 1) := by decide +kernel
theorem dL_law_926 : decode cL_law 926 = .ok (.bipush 32, 2) := by decide +kernel
theorem dL_law_928 : decode cL_law 928 = .ok (.lshl, 1) := by decide +kernel
theorem dL_law_929 : decode cL_law 929 = .ok (.aload_n 0, 1) := by decide +kernel
theorem dL_law_930 : decode cL_law 930 = .ok (.iload_n 3, 1) := by decide +kernel
theorem dL_law_931 : decode cL_law 931 = .ok (.iconst 3, 1) := by decide +kernel
theorem dL_law_932 : decode cL_law 932 = .ok (.iadd, 1) := by decide +kernel
theorem dL_law_933 : decode cL_law 933 = .ok (.iaload, 1) := by decide +kernel
theorem dL_law_934 : decode cL_law 934 = .ok (.i2l, 1) := by decide +kernel
theorem dL_law_935 : decode cL_law 935 = .ok (.ldc2_w 86, 3) := by decide +kernel
theorem dL_law_938 : decode cL_law 938 = .ok (.land, 1) := by decide +kernel
theorem dL_law_939 : decode cL_law 939 = .ok (.lor, 1) := by decide +kernel
theorem dL_law_940 : decode cL_law 940 = .ok (.invokevirtual 92, 3) := by decide +kernel
theorem dL_law_943 : decode cL_law 943 = .ok (.pop, 1) := by decide +kernel
theorem dL_law_944 : decode cL_law 944 = .ok (.goto 842, 3) := by decide +kernel
set_option maxHeartbeats 4000000 in
set_option maxRecDepth 100000 in
/-- case 16: tons -/
theorem law_16 {p : Program} {l : Launch} {e : Env} {s : State} {m : MethodId} {below : List Frame} {meth : Method} {c : Code} {G : xG} {sc L : Nat} {xs : Nat → Int32} {A : Nat → Prop} {S : yS} {q0 m0 : Nat} (C0 : CallFix p m c code 4 s #[Value.ref sc] wsT RL) (hr : meth.sig.returnType = ret) (hlocks : meth.locks = false) (hK : va_K G.1 xcl (xty G) s) (hN : xN s) (hX : va_X sc L xs s s.heap) (hbl : sc < s.heap.size) (hbA : ¬ A sc) (hA : ∀ q : Nat, s.heap.size ≤ q → A q) (hA2 : ∀ q, A q → s.heap.size ≤ q) (hL : L ≤ 3584) (hSh : ySh S) (hm_q0 : q0 ∈ S.1) (hk_q0 : S.2.1 q0 = 8) (hm_m0 : m0 ∈ S.1) (hk_m0 : S.2.1 m0 = 9) (hnk : S.2.2.1 q0 0 ≠ S.2.2.1 q0 1) {d : yD} {v : Int32} (hv0 : 0 ≤ v.toInt) (hv1 : v.toInt + 7 ≤ (L : Int)) (hPo : yPo S d) (hI : yMI S d m0) (hR : zR4 S d q0 m0) {H : Heap} {locs : List Loc} {ls : Array Slot} (hP : va_P G.1 xcl (yW G S d) H) (hD : va_D A (yW G S d)) (hS : va_S A s.heap H locs) (hl : lv_has ls 4 [(3, .int v), (2, .ref m0), (1, .ref q0), (0, .ref sc)]) (kk : ∀ (u : yD) (H1 : Heap) (locs1 : List Loc) (ls1 : Array Slot), va_P G.1 xcl (yW G S u) H1 → va_D A (yW G S u) → va_S A s.heap H1 locs1 → yPo S u → yMI S u m0 → zR4 S u q0 m0 → lv_has ls1 4 [(3, .int v), (2, .ref m0), (1, .ref q0), (0, .ref sc)] → W p l e room_1 s m #[Value.ref sc] below meth c H1 locs1 169 136076 (lw_Z below #[Value.ref sc] s) (F0 m 1786 ls1 [])) : W p l e room_1 s m #[Value.ref sc] below meth c H locs 169 136076 (lw_Z below #[Value.ref sc] s) (F0 m 884 ls []) := by
  obtain ⟨hx, hb, hml, hown, htl⟩ := id C0
  refine lv_aload_n hx hb dL_law_884 rfl (lv_at hl 2 rfl) ?_
  refine lv_aload_n hx hb dL_law_885 rfl (lv_at hl 3 rfl) ?_
  refine lv_iload_n hx hb dL_law_886 rfl (lv_at hl 0 rfl) ?_
  refine lv_iconst (v := 1) hx hb dL_law_887 (by decide) ?_
  refine lv_iadd hx hb dL_law_888 ?_
  refine lv_topi (fun z_1 ez_1 => ?_)
  have T_2 : (z_1 : Int32).toInt = (v : Int32).toInt + 1 := tadd ez_1 (rfl : (v : Int32).toInt = (v : Int32).toInt) (by decide +kernel : (1 : Int32).toInt = 1) (by omega) (by omega)
  refine va_sld hx hb hX hbl hbA hS (xinL (by omega) (by omega)) dL_law_889 ?_
  refine lv_topi (fun z_3 ez_3 => ?_)
  refine lv_aload_n hx hb dL_law_890 rfl (lv_at hl 3 rfl) ?_
  refine lv_iload_n hx hb dL_law_891 rfl (lv_at hl 0 rfl) ?_
  refine lv_iconst (v := 2) hx hb dL_law_892 (by decide) ?_
  refine lv_iadd hx hb dL_law_893 ?_
  refine lv_topi (fun z_4 ez_4 => ?_)
  have T_5 : (z_4 : Int32).toInt = (v : Int32).toInt + 2 := tadd ez_4 (rfl : (v : Int32).toInt = (v : Int32).toInt) (by decide +kernel : (2 : Int32).toInt = 2) (by omega) (by omega)
  refine va_sld hx hb hX hbl hbA hS (xinL (by omega) (by omega)) dL_law_894 ?_
  refine lv_topi (fun z_6 ez_6 => ?_)
  refine lv_i2l hx hb dL_law_895 rfl ?_
  refine lv_topl (fun z_7 ez_7 => ?_)
  refine lv_bipush (v := 32) hx hb dL_law_896 (by decide) ?_
  refine lv_lshl hx hb dL_law_898 rfl ?_
  refine lv_topl (fun z_8 ez_8 => ?_)
  refine lv_aload_n hx hb dL_law_899 rfl (lv_at hl 3 rfl) ?_
  refine lv_iload_n hx hb dL_law_900 rfl (lv_at hl 0 rfl) ?_
  refine lv_iconst (v := 3) hx hb dL_law_901 (by decide) ?_
  refine lv_iadd hx hb dL_law_902 ?_
  refine lv_topi (fun z_9 ez_9 => ?_)
  have T_10 : (z_9 : Int32).toInt = (v : Int32).toInt + 3 := tadd ez_9 (rfl : (v : Int32).toInt = (v : Int32).toInt) (by decide +kernel : (3 : Int32).toInt = 3) (by omega) (by omega)
  refine va_sld hx hb hX hbl hbA hS (xinL (by omega) (by omega)) dL_law_903 ?_
  refine lv_topi (fun z_11 ez_11 => ?_)
  refine lv_i2l hx hb dL_law_904 rfl ?_
  refine lv_topl (fun z_12 ez_12 => ?_)
  refine lv_ldc2 (v := 4294967295) hx hb hown (htl (.constantLong RL 86 (4294967295)) mW6) dL_law_905 ?_
  refine lv_land hx hb dL_law_908 ?_
  refine lv_topl (fun z_13 ez_13 => ?_)
  refine lv_lor hx hb dL_law_909 ?_
  refine lv_topl (fun z_14 ez_14 => ?_)
  refine yVwi (As := [.int z_3, .long z_14]) (rest := []) C0 (g_X8_tons l G S d q0 z_3 z_14 hSh hPo hm_q0 hk_q0) ok_X8_tons (mW502 : Cond.methodLink RL 88 yX8_tons ∈ wsT) ⟨Nat.le_of_ble_eq_true rfl, Nat.le_of_ble_eq_true rfl⟩ hP hD hS hA hK hN hm_q0 hk_q0 (by decide) rfl rfl rfl hl.1 rfl (Nat.le_of_ble_eq_true rfl) ⟨Nat.le_of_ble_eq_true rfl, Nat.le_of_ble_eq_true rfl⟩ dL_law_910 (fun r_15 d_16 H locs hr_15 hP hD hS => ?_)
  obtain ⟨hgad_16, hpad_16, hxd_16⟩ := hr_15
  have hPod_16 : yPo S d_16 := hpad_16 hPo
  have hId_16 : yMI S d_16 m0 := yMI.ag hI hSh hm_m0 hk_m0 hgad_16 (yK.ag (F := []) yK.rf hgad_16 (by rw [hk_m0]; decide)) (by decide) (by decide)
  refine lv_pop hx hb dL_law_913 rfl ?_
  refine lv_aload_n hx hb dL_law_914 rfl (lv_at hl 1 rfl) ?_
  refine lv_aload_n hx hb dL_law_915 rfl (lv_at hl 3 rfl) ?_
  refine lv_iload_n hx hb dL_law_916 rfl (lv_at hl 0 rfl) ?_
  refine lv_iconst (v := 1) hx hb dL_law_917 (by decide) ?_
  refine lv_iadd hx hb dL_law_918 ?_
  rw [← ez_1]
  refine va_sld hx hb hX hbl hbA hS (xinL (by omega) (by omega)) dL_law_919 ?_
  rw [← ez_3]
  refine lv_aload_n hx hb dL_law_920 rfl (lv_at hl 3 rfl) ?_
  refine lv_iload_n hx hb dL_law_921 rfl (lv_at hl 0 rfl) ?_
  refine lv_iconst (v := 2) hx hb dL_law_922 (by decide) ?_
  refine lv_iadd hx hb dL_law_923 ?_
  rw [← ez_4]
  refine va_sld hx hb hX hbl hbA hS (xinL (by omega) (by omega)) dL_law_924 ?_
  rw [← ez_6]
  refine lv_i2l hx hb dL_law_925 rfl ?_
  rw [← ez_7]
  refine lv_bipush (v := 32) hx hb dL_law_926 (by decide) ?_
  refine lv_lshl hx hb dL_law_928 rfl ?_
  rw [← ez_8]
  refine lv_aload_n hx hb dL_law_929 rfl (lv_at hl 3 rfl) ?_
  refine lv_iload_n hx hb dL_law_930 rfl (lv_at hl 0 rfl) ?_
  refine lv_iconst (v := 3) hx hb dL_law_931 (by decide) ?_
  refine lv_iadd hx hb dL_law_932 ?_
  rw [← ez_9]
  refine va_sld hx hb hX hbl hbA hS (xinL (by omega) (by omega)) dL_law_933 ?_
  rw [← ez_11]
  refine lv_i2l hx hb dL_law_934 rfl ?_
  rw [← ez_12]
  refine lv_ldc2 (v := 4294967295) hx hb hown (htl (.constantLong RL 86 (4294967295)) mW6) dL_law_935 ?_
  refine lv_land hx hb dL_law_938 ?_
  rw [← ez_13]
  refine lv_lor hx hb dL_law_939 ?_
  rw [← ez_14]
  refine yVwi (As := [.int z_3, .long z_14]) (rest := []) C0 (g_X9_tons l G S d_16 m0 z_3 z_14 hSh hPod_16 hm_m0 hk_m0 hId_16) ok_X9_tons (mW508 : Cond.methodLink RL 92 yX9_tons ∈ wsT) ⟨Nat.le_of_ble_eq_true rfl, Nat.le_of_ble_eq_true rfl⟩ hP hD hS hA hK hN hm_m0 hk_m0 (by decide) rfl rfl rfl hl.1 rfl (Nat.le_of_ble_eq_true rfl) ⟨Nat.le_of_ble_eq_true rfl, Nat.le_of_ble_eq_true rfl⟩ dL_law_940 (fun r_17 d_18 H locs hr_17 hP hD hS => ?_)
  obtain ⟨hgad_18, hpad_18, hfad_18, hxd_18⟩ := hr_17
  have hPod_18 : yPo S d_18 := hpad_18 hPod_16
  have hId_18 : yMI S d_18 m0 := hxd_18.1
  refine lv_pop hx hb dL_law_943 rfl ?_
  refine lv_goto (tgt := 1786) hx hb dL_law_944 (by decide) ?_
  exact kk d_18 _ _ ls hP hD hS hPod_18 hId_18 (zR4.tons hR hId_16 hPo hSh hm_q0 hk_q0 hm_m0 hk_m0 hnk hgad_16 hgad_18 hfad_18 hxd_16 hxd_18).2 (lv_sub hl [0, 1, 2, 3] rfl)
theorem dL_law_947 : decode cL_law 947 = .ok (.aload_n 1, 1) := by decide +kernel
theorem dL_law_948 : decode cL_law 948 = .ok (.aload_n 0, 1) := by decide +kernel
theorem dL_law_949 : decode cL_law 949 = .ok (.iload_n 3, 1) := by decide +kernel
theorem dL_law_950 : decode cL_law 950 = .ok (.iconst 1, 1) := by decide +kernel
theorem dL_law_951 : decode cL_law 951 = .ok (.iadd, 1) := by decide +kernel
theorem dL_law_952 : decode cL_law 952 = .ok (.iaload, 1) := by decide +kernel
theorem dL_law_953 : decode cL_law 953 = .ok (.aload_n 0, 1) := by decide +kernel
theorem dL_law_954 : decode cL_law 954 = .ok (.iload_n 3, 1) := by decide +kernel
theorem dL_law_955 : decode cL_law 955 = .ok (.iconst 2, 1) := by decide +kernel
theorem dL_law_956 : decode cL_law 956 = .ok (.iadd, 1) := by decide +kernel
theorem dL_law_957 : decode cL_law 957 = .ok (.iaload, 1) := by decide +kernel
theorem dL_law_958 : decode cL_law 958 = .ok (.aload_n 0, 1) := by decide +kernel
theorem dL_law_959 : decode cL_law 959 = .ok (.iload_n 3, 1) := by decide +kernel
theorem dL_law_960 : decode cL_law 960 = .ok (.iconst 3, 1) := by decide +kernel
theorem dL_law_961 : decode cL_law 961 = .ok (.iadd, 1) := by decide +kernel
theorem dL_law_962 : decode cL_law 962 = .ok (.iaload, 1) := by decide +kernel
theorem dL_law_963 : decode cL_law 963 = .ok (.aload_n 0, 1) := by decide +kernel
theorem dL_law_964 : decode cL_law 964 = .ok (.iload_n 3, 1) := by decide +kernel
theorem dL_law_965 : decode cL_law 965 = .ok (.iconst 4, 1) := by decide +kernel
theorem dL_law_966 : decode cL_law 966 = .ok (.iadd, 1) := by decide +kernel
theorem dL_law_967 : decode cL_law 967 = .ok (.iaload, 1) := by decide +kernel
theorem dL_law_968 : decode cL_law 968 = .ok (.invokevirtual 93, 3) := by decide +kernel
theorem dL_law_971 : decode cL_law 971 = .ok (.pop, 1) := by decide +kernel
theorem dL_law_972 : decode cL_law 972 = .ok (.aload_n 2, 1) := by decide +kernel
theorem dL_law_973 : decode cL_law 973 = .ok (.aload_n 0, 1) := by decide +kernel
theorem dL_law_974 : decode cL_law 974 = .ok (.iload_n 3, 1) := by decide +kernel
theorem dL_law_975 : decode cL_law 975 = .ok (.iconst 1, 1) := by decide +kernel
theorem dL_law_976 : decode cL_law 976 = .ok (.iadd, 1) := by decide +kernel
theorem dL_law_977 : decode cL_law 977 = .ok (.iaload, 1) := by decide +kernel
theorem dL_law_978 : decode cL_law 978 = .ok (.aload_n 0, 1) := by decide +kernel
theorem dL_law_979 : decode cL_law 979 = .ok (.iload_n 3, 1) := by decide +kernel
theorem dL_law_980 : decode cL_law 980 = .ok (.iconst 2, 1) := by decide +kernel
theorem dL_law_981 : decode cL_law 981 = .ok (.iadd, 1) := by decide +kernel
theorem dL_law_982 : decode cL_law 982 = .ok (.iaload, 1) := by decide +kernel
theorem dL_law_983 : decode cL_law 983 = .ok (.aload_n 0, 1) := by decide +kernel
theorem dL_law_984 : decode cL_law 984 = .ok (.iload_n 3, 1) := by decide +kernel
theorem dL_law_985 : decode cL_law 985 = .ok (.iconst 3, 1) := by decide +kernel
theorem dL_law_986 : decode cL_law 986 = .ok (.iadd, 1) := by decide +kernel
theorem dL_law_987 : decode cL_law 987 = .ok (.iaload, 1) := by decide +kernel
theorem dL_law_988 : decode cL_law 988 = .ok (.aload_n 0, 1) := by decide +kernel
theorem dL_law_989 : decode cL_law 989 = .ok (.iload_n 3, 1) := by decide +kernel
theorem dL_law_990 : decode cL_law 990 = .ok (.iconst 4, 1) := by decide +kernel
theorem dL_law_991 : decode cL_law 991 = .ok (.iadd, 1) := by decide +kernel
theorem dL_law_992 : decode cL_law 992 = .ok (.iaload, 1) := by decide +kernel
theorem dL_law_993 : decode cL_law 993 = .ok (.invokevirtual 97, 3) := by decide +kernel
theorem dL_law_996 : decode cL_law 996 = .ok (.pop, 1) := by decide +kernel
theorem dL_law_997 : decode cL_law 997 = .ok (.goto 789, 3) := by decide +kernel
set_option maxHeartbeats 4000000 in
set_option maxRecDepth 100000 in
/-- case 17: office -/
theorem law_17 {p : Program} {l : Launch} {e : Env} {s : State} {m : MethodId} {below : List Frame} {meth : Method} {c : Code} {G : xG} {sc L : Nat} {xs : Nat → Int32} {A : Nat → Prop} {S : yS} {q0 m0 : Nat} (C0 : CallFix p m c code 4 s #[Value.ref sc] wsT RL) (hr : meth.sig.returnType = ret) (hlocks : meth.locks = false) (hK : va_K G.1 xcl (xty G) s) (hN : xN s) (hX : va_X sc L xs s s.heap) (hbl : sc < s.heap.size) (hbA : ¬ A sc) (hA : ∀ q : Nat, s.heap.size ≤ q → A q) (hA2 : ∀ q, A q → s.heap.size ≤ q) (hL : L ≤ 3584) (hSh : ySh S) (hm_q0 : q0 ∈ S.1) (hk_q0 : S.2.1 q0 = 8) (hm_m0 : m0 ∈ S.1) (hk_m0 : S.2.1 m0 = 9) (hnk : S.2.2.1 q0 0 ≠ S.2.2.1 q0 1) {d : yD} {v : Int32} (hv0 : 0 ≤ v.toInt) (hv1 : v.toInt + 7 ≤ (L : Int)) (hPo : yPo S d) (hI : yMI S d m0) (hR : zR4 S d q0 m0) {H : Heap} {locs : List Loc} {ls : Array Slot} (hP : va_P G.1 xcl (yW G S d) H) (hD : va_D A (yW G S d)) (hS : va_S A s.heap H locs) (hl : lv_has ls 4 [(3, .int v), (2, .ref m0), (1, .ref q0), (0, .ref sc)]) (kk : ∀ (u : yD) (H1 : Heap) (locs1 : List Loc) (ls1 : Array Slot), va_P G.1 xcl (yW G S u) H1 → va_D A (yW G S u) → va_S A s.heap H1 locs1 → yPo S u → yMI S u m0 → zR4 S u q0 m0 → lv_has ls1 4 [(3, .int v), (2, .ref m0), (1, .ref q0), (0, .ref sc)] → W p l e room_1 s m #[Value.ref sc] below meth c H1 locs1 169 136076 (lw_Z below #[Value.ref sc] s) (F0 m 1786 ls1 [])) : W p l e room_1 s m #[Value.ref sc] below meth c H locs 169 136076 (lw_Z below #[Value.ref sc] s) (F0 m 947 ls []) := by
  obtain ⟨hx, hb, hml, hown, htl⟩ := id C0
  refine lv_aload_n hx hb dL_law_947 rfl (lv_at hl 2 rfl) ?_
  refine lv_aload_n hx hb dL_law_948 rfl (lv_at hl 3 rfl) ?_
  refine lv_iload_n hx hb dL_law_949 rfl (lv_at hl 0 rfl) ?_
  refine lv_iconst (v := 1) hx hb dL_law_950 (by decide) ?_
  refine lv_iadd hx hb dL_law_951 ?_
  refine lv_topi (fun z_1 ez_1 => ?_)
  have T_2 : (z_1 : Int32).toInt = (v : Int32).toInt + 1 := tadd ez_1 (rfl : (v : Int32).toInt = (v : Int32).toInt) (by decide +kernel : (1 : Int32).toInt = 1) (by omega) (by omega)
  refine va_sld hx hb hX hbl hbA hS (xinL (by omega) (by omega)) dL_law_952 ?_
  refine lv_topi (fun z_3 ez_3 => ?_)
  refine lv_aload_n hx hb dL_law_953 rfl (lv_at hl 3 rfl) ?_
  refine lv_iload_n hx hb dL_law_954 rfl (lv_at hl 0 rfl) ?_
  refine lv_iconst (v := 2) hx hb dL_law_955 (by decide) ?_
  refine lv_iadd hx hb dL_law_956 ?_
  refine lv_topi (fun z_4 ez_4 => ?_)
  have T_5 : (z_4 : Int32).toInt = (v : Int32).toInt + 2 := tadd ez_4 (rfl : (v : Int32).toInt = (v : Int32).toInt) (by decide +kernel : (2 : Int32).toInt = 2) (by omega) (by omega)
  refine va_sld hx hb hX hbl hbA hS (xinL (by omega) (by omega)) dL_law_957 ?_
  refine lv_topi (fun z_6 ez_6 => ?_)
  refine lv_aload_n hx hb dL_law_958 rfl (lv_at hl 3 rfl) ?_
  refine lv_iload_n hx hb dL_law_959 rfl (lv_at hl 0 rfl) ?_
  refine lv_iconst (v := 3) hx hb dL_law_960 (by decide) ?_
  refine lv_iadd hx hb dL_law_961 ?_
  refine lv_topi (fun z_7 ez_7 => ?_)
  have T_8 : (z_7 : Int32).toInt = (v : Int32).toInt + 3 := tadd ez_7 (rfl : (v : Int32).toInt = (v : Int32).toInt) (by decide +kernel : (3 : Int32).toInt = 3) (by omega) (by omega)
  refine va_sld hx hb hX hbl hbA hS (xinL (by omega) (by omega)) dL_law_962 ?_
  refine lv_topi (fun z_9 ez_9 => ?_)
  refine lv_aload_n hx hb dL_law_963 rfl (lv_at hl 3 rfl) ?_
  refine lv_iload_n hx hb dL_law_964 rfl (lv_at hl 0 rfl) ?_
  refine lv_iconst (v := 4) hx hb dL_law_965 (by decide) ?_
  refine lv_iadd hx hb dL_law_966 ?_
  refine lv_topi (fun z_10 ez_10 => ?_)
  have T_11 : (z_10 : Int32).toInt = (v : Int32).toInt + 4 := tadd ez_10 (rfl : (v : Int32).toInt = (v : Int32).toInt) (by decide +kernel : (4 : Int32).toInt = 4) (by omega) (by omega)
  refine va_sld hx hb hX hbl hbA hS (xinL (by omega) (by omega)) dL_law_967 ?_
  refine lv_topi (fun z_12 ez_12 => ?_)
  refine yVwi (As := [.int z_3, .int z_6, .int z_9, .int z_12]) (rest := []) C0 (g_X8_office l G S d q0 z_3 z_6 z_9 z_12 hSh hPo hm_q0 hk_q0) ok_X8_office (mW517 : Cond.methodLink RL 93 yX8_office ∈ wsT) ⟨Nat.le_of_ble_eq_true rfl, Nat.le_of_ble_eq_true rfl⟩ hP hD hS hA hK hN hm_q0 hk_q0 (by decide) rfl rfl rfl hl.1 rfl (Nat.le_of_ble_eq_true rfl) ⟨Nat.le_of_ble_eq_true rfl, Nat.le_of_ble_eq_true rfl⟩ dL_law_968 (fun r_13 d_14 H locs hr_13 hP hD hS => ?_)
  obtain ⟨hgad_14, hpad_14, hxd_14⟩ := hr_13
  have hPod_14 : yPo S d_14 := hpad_14 hPo
  have hId_14 : yMI S d_14 m0 := yMI.ag hI hSh hm_m0 hk_m0 hgad_14 (yK.ag (F := []) yK.rf hgad_14 (by rw [hk_m0]; decide)) (by decide) (by decide)
  refine lv_pop hx hb dL_law_971 rfl ?_
  refine lv_aload_n hx hb dL_law_972 rfl (lv_at hl 1 rfl) ?_
  refine lv_aload_n hx hb dL_law_973 rfl (lv_at hl 3 rfl) ?_
  refine lv_iload_n hx hb dL_law_974 rfl (lv_at hl 0 rfl) ?_
  refine lv_iconst (v := 1) hx hb dL_law_975 (by decide) ?_
  refine lv_iadd hx hb dL_law_976 ?_
  rw [← ez_1]
  refine va_sld hx hb hX hbl hbA hS (xinL (by omega) (by omega)) dL_law_977 ?_
  rw [← ez_3]
  refine lv_aload_n hx hb dL_law_978 rfl (lv_at hl 3 rfl) ?_
  refine lv_iload_n hx hb dL_law_979 rfl (lv_at hl 0 rfl) ?_
  refine lv_iconst (v := 2) hx hb dL_law_980 (by decide) ?_
  refine lv_iadd hx hb dL_law_981 ?_
  rw [← ez_4]
  refine va_sld hx hb hX hbl hbA hS (xinL (by omega) (by omega)) dL_law_982 ?_
  rw [← ez_6]
  refine lv_aload_n hx hb dL_law_983 rfl (lv_at hl 3 rfl) ?_
  refine lv_iload_n hx hb dL_law_984 rfl (lv_at hl 0 rfl) ?_
  refine lv_iconst (v := 3) hx hb dL_law_985 (by decide) ?_
  refine lv_iadd hx hb dL_law_986 ?_
  rw [← ez_7]
  refine va_sld hx hb hX hbl hbA hS (xinL (by omega) (by omega)) dL_law_987 ?_
  rw [← ez_9]
  refine lv_aload_n hx hb dL_law_988 rfl (lv_at hl 3 rfl) ?_
  refine lv_iload_n hx hb dL_law_989 rfl (lv_at hl 0 rfl) ?_
  refine lv_iconst (v := 4) hx hb dL_law_990 (by decide) ?_
  refine lv_iadd hx hb dL_law_991 ?_
  rw [← ez_10]
  refine va_sld hx hb hX hbl hbA hS (xinL (by omega) (by omega)) dL_law_992 ?_
  rw [← ez_12]
  refine yVwi (As := [.int z_3, .int z_6, .int z_9, .int z_12]) (rest := []) C0 (g_X9_office l G S d_14 m0 z_3 z_6 z_9 z_12 hSh hPod_14 hm_m0 hk_m0 hId_14) ok_X9_office (mW525 : Cond.methodLink RL 97 yX9_office ∈ wsT) ⟨Nat.le_of_ble_eq_true rfl, Nat.le_of_ble_eq_true rfl⟩ hP hD hS hA hK hN hm_m0 hk_m0 (by decide) rfl rfl rfl hl.1 rfl (Nat.le_of_ble_eq_true rfl) ⟨Nat.le_of_ble_eq_true rfl, Nat.le_of_ble_eq_true rfl⟩ dL_law_993 (fun r_15 d_16 H locs hr_15 hP hD hS => ?_)
  obtain ⟨hgad_16, hpad_16, hfad_16, hxd_16⟩ := hr_15
  have hPod_16 : yPo S d_16 := hpad_16 hPod_14
  have hId_16 : yMI S d_16 m0 := hxd_16.1
  refine lv_pop hx hb dL_law_996 rfl ?_
  refine lv_goto (tgt := 1786) hx hb dL_law_997 (by decide) ?_
  exact kk d_16 _ _ ls hP hD hS hPod_16 hId_16 (zR4.office hR hId_14 hPo hSh hm_q0 hk_q0 hm_m0 hk_m0 hnk hgad_14 hgad_16 hfad_16 hxd_14 hxd_16).2 (lv_sub hl [0, 1, 2, 3] rfl)
