theorem dL_law_1632 : decode cL_law 1632 = .ok (.aload_n 1, 1) := by decide +kernel
theorem dL_law_1633 : decode cL_law 1633 = .ok (.aload_n 0, 1) := by decide +kernel
theorem dL_law_1634 : decode cL_law 1634 = .ok (.iload_n 3, 1) := by decide +kernel
theorem dL_law_1635 : decode cL_law 1635 = .ok (.iconst 1, 1) := by decide +kernel
theorem dL_law_1636 : decode cL_law 1636 = .ok (.iadd, 1) := by decide +kernel
theorem dL_law_1637 : decode cL_law 1637 = .ok (.iaload, 1) := by decide +kernel
theorem dL_law_1638 : decode cL_law 1638 = .ok (.invokevirtual 152, 3) := by decide +kernel
theorem dL_law_1641 : decode cL_law 1641 = .ok (.pop, 1) := by decide +kernel
theorem dL_law_1642 : decode cL_law 1642 = .ok (.aload_n 2, 1) := by decide +kernel
theorem dL_law_1643 : decode cL_law 1643 = .ok (.aload_n 0, 1) := by decide +kernel
theorem dL_law_1644 : decode cL_law 1644 = .ok (.iload_n 3, 1) := by decide +kernel
theorem dL_law_1645 : decode cL_law 1645 = .ok (.iconst 1, 1) := by decide +kernel
theorem dL_law_1646 : decode cL_law 1646 = .ok (.iadd, 1) := by decide +kernel
theorem dL_law_1647 : decode cL_law 1647 = .ok (.iaload, 1) := by decide +kernel
theorem dL_law_1648 : decode cL_law 1648 = .ok (.invokevirtual 155, 3) := by decide +kernel
theorem dL_law_1651 : decode cL_law 1651 = .ok (.pop, 1) := by decide +kernel
theorem dL_law_1652 : decode cL_law 1652 = .ok (.goto 134, 3) := by decide +kernel
set_option maxHeartbeats 4000000 in
set_option maxRecDepth 100000 in
/-- case 30: claim -/
theorem law_30 {p : Program} {l : Launch} {e : Env} {s : State} {m : MethodId} {below : List Frame} {meth : Method} {c : Code} {G : xG} {sc L : Nat} {xs : Nat → Int32} {A : Nat → Prop} {S : yS} {q0 m0 : Nat} (C0 : CallFix p m c code 4 s #[Value.ref sc] wsT RL) (hr : meth.sig.returnType = ret) (hlocks : meth.locks = false) (hK : va_K G.1 xcl (xty G) s) (hN : xN s) (hX : va_X sc L xs s s.heap) (hbl : sc < s.heap.size) (hbA : ¬ A sc) (hA : ∀ q : Nat, s.heap.size ≤ q → A q) (hA2 : ∀ q, A q → s.heap.size ≤ q) (hL : L ≤ 3584) (hSh : ySh S) (hm_q0 : q0 ∈ S.1) (hk_q0 : S.2.1 q0 = 8) (hm_m0 : m0 ∈ S.1) (hk_m0 : S.2.1 m0 = 9) (hnk : S.2.2.1 q0 0 ≠ S.2.2.1 q0 1) {d : yD} {v : Int32} (hv0 : 0 ≤ v.toInt) (hv1 : v.toInt + 7 ≤ (L : Int)) (hPo : yPo S d) (hI : yMI S d m0) (hR : zR4 S d q0 m0) {H : Heap} {locs : List Loc} {ls : Array Slot} (hP : va_P G.1 xcl (yW G S d) H) (hD : va_D A (yW G S d)) (hS : va_S A s.heap H locs) (hl : lv_has ls 4 [(3, .int v), (2, .ref m0), (1, .ref q0), (0, .ref sc)]) (kk : ∀ (u : yD) (H1 : Heap) (locs1 : List Loc) (ls1 : Array Slot), va_P G.1 xcl (yW G S u) H1 → va_D A (yW G S u) → va_S A s.heap H1 locs1 → yPo S u → yMI S u m0 → zR4 S u q0 m0 → lv_has ls1 4 [(3, .int v), (2, .ref m0), (1, .ref q0), (0, .ref sc)] → W p l e room_1 s m #[Value.ref sc] below meth c H1 locs1 169 136076 (lw_Z below #[Value.ref sc] s) (F0 m 1786 ls1 [])) : W p l e room_1 s m #[Value.ref sc] below meth c H locs 169 136076 (lw_Z below #[Value.ref sc] s) (F0 m 1632 ls []) := by
  obtain ⟨hx, hb, hml, hown, htl⟩ := id C0
  refine lv_aload_n hx hb dL_law_1632 rfl (lv_at hl 2 rfl) ?_
  refine lv_aload_n hx hb dL_law_1633 rfl (lv_at hl 3 rfl) ?_
  refine lv_iload_n hx hb dL_law_1634 rfl (lv_at hl 0 rfl) ?_
  refine lv_iconst (v := 1) hx hb dL_law_1635 (by decide) ?_
  refine lv_iadd hx hb dL_law_1636 ?_
  refine lv_topi (fun z_1 ez_1 => ?_)
  have T_2 : (z_1 : Int32).toInt = (v : Int32).toInt + 1 := tadd ez_1 (rfl : (v : Int32).toInt = (v : Int32).toInt) (by decide +kernel : (1 : Int32).toInt = 1) (by omega) (by omega)
  refine va_sld hx hb hX hbl hbA hS (xinL (by omega) (by omega)) dL_law_1637 ?_
  refine lv_topi (fun z_3 ez_3 => ?_)
  refine yVwi (As := [.int z_3]) (rest := []) C0 (g_X8_claim l G S d q0 z_3 hSh hPo hm_q0 hk_q0) ok_X8_claim (mW1024 : Cond.methodLink RL 152 yX8_claim ∈ wsT) ⟨Nat.le_of_ble_eq_true rfl, Nat.le_of_ble_eq_true rfl⟩ hP hD hS hA hK hN hm_q0 hk_q0 (by decide) rfl rfl rfl hl.1 rfl (Nat.le_of_ble_eq_true rfl) ⟨Nat.le_of_ble_eq_true rfl, Nat.le_of_ble_eq_true rfl⟩ dL_law_1638 (fun r_4 d_5 H locs hr_4 hP hD hS => ?_)
  obtain ⟨hgad_5, hpad_5, hxd_5⟩ := hr_4
  have hPod_5 : yPo S d_5 := hpad_5 hPo
  have hId_5 : yMI S d_5 m0 := yMI.ag hI hSh hm_m0 hk_m0 hgad_5 (yK.ag (F := []) yK.rf hgad_5 (by rw [hk_m0]; decide)) (by decide) (by decide)
  refine lv_pop hx hb dL_law_1641 rfl ?_
  refine lv_aload_n hx hb dL_law_1642 rfl (lv_at hl 1 rfl) ?_
  refine lv_aload_n hx hb dL_law_1643 rfl (lv_at hl 3 rfl) ?_
  refine lv_iload_n hx hb dL_law_1644 rfl (lv_at hl 0 rfl) ?_
  refine lv_iconst (v := 1) hx hb dL_law_1645 (by decide) ?_
  refine lv_iadd hx hb dL_law_1646 ?_
  rw [← ez_1]
  refine va_sld hx hb hX hbl hbA hS (xinL (by omega) (by omega)) dL_law_1647 ?_
  rw [← ez_3]
  refine yVwi (As := [.int z_3]) (rest := []) C0 (g_X9_claim l G S d_5 m0 z_3 hSh hPod_5 hm_m0 hk_m0 hId_5) ok_X9_claim (mW1034 : Cond.methodLink RL 155 yX9_claim ∈ wsT) ⟨Nat.le_of_ble_eq_true rfl, Nat.le_of_ble_eq_true rfl⟩ hP hD hS hA hK hN hm_m0 hk_m0 (by decide) rfl rfl rfl hl.1 rfl (Nat.le_of_ble_eq_true rfl) ⟨Nat.le_of_ble_eq_true rfl, Nat.le_of_ble_eq_true rfl⟩ dL_law_1648 (fun r_6 d_7 H locs hr_6 hP hD hS => ?_)
  obtain ⟨hgad_7, hpad_7, hfad_7, hxd_7⟩ := hr_6
  have hPod_7 : yPo S d_7 := hpad_7 hPod_5
  have hId_7 : yMI S d_7 m0 := hxd_7.1
  refine lv_pop hx hb dL_law_1651 rfl ?_
  refine lv_goto (tgt := 1786) hx hb dL_law_1652 (by decide) ?_
  exact kk d_7 _ _ ls hP hD hS hPod_7 hId_7 (zR4.claim hR hId_5 hPo hSh hm_q0 hk_q0 hm_m0 hk_m0 hnk hgad_5 hgad_7 hfad_7 hxd_5 hxd_7).2 (lv_sub hl [0, 1, 2, 3] rfl)
theorem dL_law_1655 : decode cL_law 1655 = .ok (.aload_n 1, 1) := by decide +kernel
theorem dL_law_1656 : decode cL_law 1656 = .ok (.aload_n 0, 1) := by decide +kernel
theorem dL_law_1657 : decode cL_law 1657 = .ok (.iload_n 3, 1) := by decide +kernel
theorem dL_law_1658 : decode cL_law 1658 = .ok (.iconst 1, 1) := by decide +kernel
theorem dL_law_1659 : decode cL_law 1659 = .ok (.iadd, 1) := by decide +kernel
theorem dL_law_1660 : decode cL_law 1660 = .ok (.iaload, 1) := by decide +kernel
theorem dL_law_1661 : decode cL_law 1661 = .ok (.aload_n 0, 1) := by decide +kernel
theorem dL_law_1662 : decode cL_law 1662 = .ok (.iload_n 3, 1) := by decide +kernel
theorem dL_law_1663 : decode cL_law 1663 = .ok (.iconst 2, 1) := by decide +kernel
theorem dL_law_1664 : decode cL_law 1664 = .ok (.iadd, 1) := by decide +kernel
theorem dL_law_1665 : decode cL_law 1665 = .ok (.iaload, 1) := by decide +kernel
theorem dL_law_1666 : decode cL_law 1666 = .ok (.invokevirtual 156, 3) := by decide +kernel
theorem dL_law_1669 : decode cL_law 1669 = .ok (.aload_n 2, 1) := by decide +kernel
theorem dL_law_1670 : decode cL_law 1670 = .ok (.aload_n 0, 1) := by decide +kernel
theorem dL_law_1671 : decode cL_law 1671 = .ok (.iload_n 3, 1) := by decide +kernel
theorem dL_law_1672 : decode cL_law 1672 = .ok (.iconst 1, 1) := by decide +kernel
theorem dL_law_1673 : decode cL_law 1673 = .ok (.iadd, 1) := by decide +kernel
theorem dL_law_1674 : decode cL_law 1674 = .ok (.iaload, 1) := by decide +kernel
theorem dL_law_1675 : decode cL_law 1675 = .ok (.aload_n 0, 1) := by decide +kernel
theorem dL_law_1676 : decode cL_law 1676 = .ok (.iload_n 3, 1) := by decide +kernel
theorem dL_law_1677 : decode cL_law 1677 = .ok (.iconst 2, 1) := by decide +kernel
theorem dL_law_1678 : decode cL_law 1678 = .ok (.iadd, 1) := by decide +kernel
theorem dL_law_1679 : decode cL_law 1679 = .ok (.iaload, 1) := by decide +kernel
theorem dL_law_1680 : decode cL_law 1680 = .ok (.invokevirtual 159, 3) := by decide +kernel
theorem dL_law_1683 : decode cL_law 1683 = .ok (.if_icmp .eq 103, 3) := by decide +kernel
set_option maxHeartbeats 4000000 in
set_option maxRecDepth 100000 in
/-- case 31: tell -/
theorem law_31 {p : Program} {l : Launch} {e : Env} {s : State} {m : MethodId} {below : List Frame} {meth : Method} {c : Code} {G : xG} {sc L : Nat} {xs : Nat → Int32} {A : Nat → Prop} {S : yS} {q0 m0 : Nat} (C0 : CallFix p m c code 4 s #[Value.ref sc] wsT RL) (hr : meth.sig.returnType = ret) (hlocks : meth.locks = false) (hK : va_K G.1 xcl (xty G) s) (hN : xN s) (hX : va_X sc L xs s s.heap) (hbl : sc < s.heap.size) (hbA : ¬ A sc) (hA : ∀ q : Nat, s.heap.size ≤ q → A q) (hA2 : ∀ q, A q → s.heap.size ≤ q) (hL : L ≤ 3584) (hSh : ySh S) (hm_q0 : q0 ∈ S.1) (hk_q0 : S.2.1 q0 = 8) (hm_m0 : m0 ∈ S.1) (hk_m0 : S.2.1 m0 = 9) (hnk : S.2.2.1 q0 0 ≠ S.2.2.1 q0 1) {d : yD} {v : Int32} (hv0 : 0 ≤ v.toInt) (hv1 : v.toInt + 7 ≤ (L : Int)) (hPo : yPo S d) (hI : yMI S d m0) (hR : zR4 S d q0 m0) {H : Heap} {locs : List Loc} {ls : Array Slot} (hP : va_P G.1 xcl (yW G S d) H) (hD : va_D A (yW G S d)) (hS : va_S A s.heap H locs) (hl : lv_has ls 4 [(3, .int v), (2, .ref m0), (1, .ref q0), (0, .ref sc)]) (kk : ∀ (u : yD) (H1 : Heap) (locs1 : List Loc) (ls1 : Array Slot), va_P G.1 xcl (yW G S u) H1 → va_D A (yW G S u) → va_S A s.heap H1 locs1 → yPo S u → yMI S u m0 → zR4 S u q0 m0 → lv_has ls1 4 [(3, .int v), (2, .ref m0), (1, .ref q0), (0, .ref sc)] → W p l e room_1 s m #[Value.ref sc] below meth c H1 locs1 169 136076 (lw_Z below #[Value.ref sc] s) (F0 m 1786 ls1 [])) : W p l e room_1 s m #[Value.ref sc] below meth c H locs 169 136076 (lw_Z below #[Value.ref sc] s) (F0 m 1655 ls []) := by
  obtain ⟨hx, hb, hml, hown, htl⟩ := id C0
  refine lv_aload_n hx hb dL_law_1655 rfl (lv_at hl 2 rfl) ?_
  refine lv_aload_n hx hb dL_law_1656 rfl (lv_at hl 3 rfl) ?_
  refine lv_iload_n hx hb dL_law_1657 rfl (lv_at hl 0 rfl) ?_
  refine lv_iconst (v := 1) hx hb dL_law_1658 (by decide) ?_
  refine lv_iadd hx hb dL_law_1659 ?_
  refine lv_topi (fun z_1 ez_1 => ?_)
  have T_2 : (z_1 : Int32).toInt = (v : Int32).toInt + 1 := tadd ez_1 (rfl : (v : Int32).toInt = (v : Int32).toInt) (by decide +kernel : (1 : Int32).toInt = 1) (by omega) (by omega)
  refine va_sld hx hb hX hbl hbA hS (xinL (by omega) (by omega)) dL_law_1660 ?_
  refine lv_topi (fun z_3 ez_3 => ?_)
  refine lv_aload_n hx hb dL_law_1661 rfl (lv_at hl 3 rfl) ?_
  refine lv_iload_n hx hb dL_law_1662 rfl (lv_at hl 0 rfl) ?_
  refine lv_iconst (v := 2) hx hb dL_law_1663 (by decide) ?_
  refine lv_iadd hx hb dL_law_1664 ?_
  refine lv_topi (fun z_4 ez_4 => ?_)
  have T_5 : (z_4 : Int32).toInt = (v : Int32).toInt + 2 := tadd ez_4 (rfl : (v : Int32).toInt = (v : Int32).toInt) (by decide +kernel : (2 : Int32).toInt = 2) (by omega) (by omega)
  refine va_sld hx hb hX hbl hbA hS (xinL (by omega) (by omega)) dL_law_1665 ?_
  refine lv_topi (fun z_6 ez_6 => ?_)
  refine yVwi (As := [.int z_3, .int z_6]) (rest := []) C0 (g_X8_tell l G S d q0 z_3 z_6 hSh hPo hm_q0 hk_q0) ok_X8_tell (mW1038 : Cond.methodLink RL 156 yX8_tell ∈ wsT) ⟨Nat.le_of_ble_eq_true rfl, Nat.le_of_ble_eq_true rfl⟩ hP hD hS hA hK hN hm_q0 hk_q0 (by decide) rfl rfl rfl hl.1 rfl (Nat.le_of_ble_eq_true rfl) ⟨Nat.le_of_ble_eq_true rfl, Nat.le_of_ble_eq_true rfl⟩ dL_law_1666 (fun r_7 d_8 H locs hr_7 hP hD hS => ?_)
  obtain ⟨hgad_8, hpad_8, hxd_8⟩ := hr_7
  have hPod_8 : yPo S d_8 := hpad_8 hPo
  have hId_8 : yMI S d_8 m0 := yMI.ag hI hSh hm_m0 hk_m0 hgad_8 (yK.ag (F := []) yK.rf hgad_8 (by rw [hk_m0]; decide)) (by decide) (by decide)
  refine lv_aload_n hx hb dL_law_1669 rfl (lv_at hl 1 rfl) ?_
  refine lv_aload_n hx hb dL_law_1670 rfl (lv_at hl 3 rfl) ?_
  refine lv_iload_n hx hb dL_law_1671 rfl (lv_at hl 0 rfl) ?_
  refine lv_iconst (v := 1) hx hb dL_law_1672 (by decide) ?_
  refine lv_iadd hx hb dL_law_1673 ?_
  rw [← ez_1]
  refine va_sld hx hb hX hbl hbA hS (xinL (by omega) (by omega)) dL_law_1674 ?_
  rw [← ez_3]
  refine lv_aload_n hx hb dL_law_1675 rfl (lv_at hl 3 rfl) ?_
  refine lv_iload_n hx hb dL_law_1676 rfl (lv_at hl 0 rfl) ?_
  refine lv_iconst (v := 2) hx hb dL_law_1677 (by decide) ?_
  refine lv_iadd hx hb dL_law_1678 ?_
  rw [← ez_4]
  refine va_sld hx hb hX hbl hbA hS (xinL (by omega) (by omega)) dL_law_1679 ?_
  rw [← ez_6]
  refine yVwi (As := [.int z_3, .int z_6]) (rest := [.int r_7]) C0 (g_X9_tell l G S d_8 m0 z_3 z_6 hSh hPod_8 hm_m0 hk_m0 hId_8) ok_X9_tell (mW1048 : Cond.methodLink RL 159 yX9_tell ∈ wsT) ⟨Nat.le_of_ble_eq_true rfl, Nat.le_of_ble_eq_true rfl⟩ hP hD hS hA hK hN hm_m0 hk_m0 (by decide) rfl rfl rfl hl.1 rfl (Nat.le_of_ble_eq_true rfl) ⟨Nat.le_of_ble_eq_true rfl, Nat.le_of_ble_eq_true rfl⟩ dL_law_1680 (fun r_9 d_10 H locs hr_9 hP hD hS => ?_)
  obtain ⟨hgad_10, hpad_10, hfad_10, hxd_10⟩ := hr_9
  have hPod_10 : yPo S d_10 := hpad_10 hPod_8
  have hId_10 : yMI S d_10 m0 := hxd_10.1
  refine lv_icmp_eq (tgt := 1786) hx hb dL_law_1683 (by decide) (fun c_11 => ?_) (fun c_11 => absurd (zR4.tell hR hId_8 hPo hSh hm_q0 hk_q0 hm_m0 hk_m0 hnk hgad_8 hgad_10 hfad_10 hxd_8 hxd_10).1 c_11)
  exact kk d_10 _ _ ls hP hD hS hPod_10 hId_10 (zR4.tell hR hId_8 hPo hSh hm_q0 hk_q0 hm_m0 hk_m0 hnk hgad_8 hgad_10 hfad_10 hxd_8 hxd_10).2 (lv_sub hl [0, 1, 2, 3] rfl)
theorem dL_law_1688 : decode cL_law 1688 = .ok (.aload_n 1, 1) := by decide +kernel
theorem dL_law_1689 : decode cL_law 1689 = .ok (.aload_n 0, 1) := by decide +kernel
theorem dL_law_1690 : decode cL_law 1690 = .ok (.iload_n 3, 1) := by decide +kernel
theorem dL_law_1691 : decode cL_law 1691 = .ok (.iconst 1, 1) := by decide +kernel
theorem dL_law_1692 : decode cL_law 1692 = .ok (.iadd, 1) := by decide +kernel
theorem dL_law_1693 : decode cL_law 1693 = .ok (.iaload, 1) := by decide +kernel
theorem dL_law_1694 : decode cL_law 1694 = .ok (.aload_n 0, 1) := by decide +kernel
theorem dL_law_1695 : decode cL_law 1695 = .ok (.iload_n 3, 1) := by decide +kernel
theorem dL_law_1696 : decode cL_law 1696 = .ok (.iconst 2, 1) := by decide +kernel
theorem dL_law_1697 : decode cL_law 1697 = .ok (.iadd, 1) := by decide +kernel
theorem dL_law_1698 : decode cL_law 1698 = .ok (.iaload, 1) := by decide +kernel
theorem dL_law_1699 : decode cL_law 1699 = .ok (.ifCond .eq 7, 3) := by decide +kernel
theorem dL_law_1702 : decode cL_law 1702 = .ok (.iconst 1, 1) := by decide +kernel
theorem dL_law_1703 : decode cL_law 1703 = .ok (.goto 4, 3) := by decide +kernel
theorem dL_law_1706 : decode cL_law 1706 = .ok (.iconst 0, 1) := by decide +kernel
theorem dL_law_1707 : decode cL_law 1707 = .ok (.invokevirtual 160, 3) := by decide +kernel
theorem dL_law_1710 : decode cL_law 1710 = .ok (.pop, 1) := by decide +kernel
theorem dL_law_1711 : decode cL_law 1711 = .ok (.aload_n 2, 1) := by decide +kernel
theorem dL_law_1712 : decode cL_law 1712 = .ok (.aload_n 0, 1) := by decide +kernel
theorem dL_law_1713 : decode cL_law 1713 = .ok (.iload_n 3, 1) := by decide +kernel
theorem dL_law_1714 : decode cL_law 1714 = .ok (.iconst 1, 1) := by decide +kernel
theorem dL_law_1715 : decode cL_law 1715 = .ok (.iadd, 1) := by decide +kernel
theorem dL_law_1716 : decode cL_law 1716 = .ok (.iaload, 1) := by decide +kernel
theorem dL_law_1717 : decode cL_law 1717 = .ok (.aload_n 0, 1) := by decide +kernel
theorem dL_law_1718 : decode cL_law 1718 = .ok (.iload_n 3, 1) := by decide +kernel
theorem dL_law_1719 : decode cL_law 1719 = .ok (.iconst 2, 1) := by decide +kernel
theorem dL_law_1720 : decode cL_law 1720 = .ok (.iadd, 1) := by decide +kernel
theorem dL_law_1721 : decode cL_law 1721 = .ok (.iaload, 1) := by decide +kernel
theorem dL_law_1722 : decode cL_law 1722 = .ok (.ifCond .eq 7, 3) := by decide +kernel
theorem dL_law_1725 : decode cL_law 1725 = .ok (.iconst 1, 1) := by decide +kernel
theorem dL_law_1726 : decode cL_law 1726 = .ok (.goto 4, 3) := by decide +kernel
theorem dL_law_1729 : decode cL_law 1729 = .ok (.iconst 0, 1) := by decide +kernel
theorem dL_law_1730 : decode cL_law 1730 = .ok (.invokevirtual 164, 3) := by decide +kernel
theorem dL_law_1733 : decode cL_law 1733 = .ok (.pop, 1) := by decide +kernel
theorem dL_law_1734 : decode cL_law 1734 = .ok (.goto 52, 3) := by decide +kernel
set_option maxHeartbeats 4000000 in
set_option maxRecDepth 100000 in
/-- case 32: check -/
theorem law_32 {p : Program} {l : Launch} {e : Env} {s : State} {m : MethodId} {below : List Frame} {meth : Method} {c : Code} {G : xG} {sc L : Nat} {xs : Nat → Int32} {A : Nat → Prop} {S : yS} {q0 m0 : Nat} (C0 : CallFix p m c code 4 s #[Value.ref sc] wsT RL) (hr : meth.sig.returnType = ret) (hlocks : meth.locks = false) (hK : va_K G.1 xcl (xty G) s) (hN : xN s) (hX : va_X sc L xs s s.heap) (hbl : sc < s.heap.size) (hbA : ¬ A sc) (hA : ∀ q : Nat, s.heap.size ≤ q → A q) (hA2 : ∀ q, A q → s.heap.size ≤ q) (hL : L ≤ 3584) (hSh : ySh S) (hm_q0 : q0 ∈ S.1) (hk_q0 : S.2.1 q0 = 8) (hm_m0 : m0 ∈ S.1) (hk_m0 : S.2.1 m0 = 9) (hnk : S.2.2.1 q0 0 ≠ S.2.2.1 q0 1) {d : yD} {v : Int32} (hv0 : 0 ≤ v.toInt) (hv1 : v.toInt + 7 ≤ (L : Int)) (hPo : yPo S d) (hI : yMI S d m0) (hR : zR4 S d q0 m0) {H : Heap} {locs : List Loc} {ls : Array Slot} (hP : va_P G.1 xcl (yW G S d) H) (hD : va_D A (yW G S d)) (hS : va_S A s.heap H locs) (hl : lv_has ls 4 [(3, .int v), (2, .ref m0), (1, .ref q0), (0, .ref sc)]) (kk : ∀ (u : yD) (H1 : Heap) (locs1 : List Loc) (ls1 : Array Slot), va_P G.1 xcl (yW G S u) H1 → va_D A (yW G S u) → va_S A s.heap H1 locs1 → yPo S u → yMI S u m0 → zR4 S u q0 m0 → lv_has ls1 4 [(3, .int v), (2, .ref m0), (1, .ref q0), (0, .ref sc)] → W p l e room_1 s m #[Value.ref sc] below meth c H1 locs1 169 136076 (lw_Z below #[Value.ref sc] s) (F0 m 1786 ls1 [])) : W p l e room_1 s m #[Value.ref sc] below meth c H locs 169 136076 (lw_Z below #[Value.ref sc] s) (F0 m 1688 ls []) := by
  obtain ⟨hx, hb, hml, hown, htl⟩ := id C0
  refine lv_aload_n hx hb dL_law_1688 rfl (lv_at hl 2 rfl) ?_
  refine lv_aload_n hx hb dL_law_1689 rfl (lv_at hl 3 rfl) ?_
  refine lv_iload_n hx hb dL_law_1690 rfl (lv_at hl 0 rfl) ?_
  refine lv_iconst (v := 1) hx hb dL_law_1691 (by decide) ?_
  refine lv_iadd hx hb dL_law_1692 ?_
  refine lv_topi (fun z_1 ez_1 => ?_)
  have T_2 : (z_1 : Int32).toInt = (v : Int32).toInt + 1 := tadd ez_1 (rfl : (v : Int32).toInt = (v : Int32).toInt) (by decide +kernel : (1 : Int32).toInt = 1) (by omega) (by omega)
  refine va_sld hx hb hX hbl hbA hS (xinL (by omega) (by omega)) dL_law_1693 ?_
  refine lv_topi (fun z_3 ez_3 => ?_)
  refine lv_aload_n hx hb dL_law_1694 rfl (lv_at hl 3 rfl) ?_
  refine lv_iload_n hx hb dL_law_1695 rfl (lv_at hl 0 rfl) ?_
  refine lv_iconst (v := 2) hx hb dL_law_1696 (by decide) ?_
  refine lv_iadd hx hb dL_law_1697 ?_
  refine lv_topi (fun z_4 ez_4 => ?_)
  have T_5 : (z_4 : Int32).toInt = (v : Int32).toInt + 2 := tadd ez_4 (rfl : (v : Int32).toInt = (v : Int32).toInt) (by decide +kernel : (2 : Int32).toInt = 2) (by omega) (by omega)
  refine va_sld hx hb hX hbl hbA hS (xinL (by omega) (by omega)) dL_law_1698 ?_
  refine lv_topi (fun z_6 ez_6 => ?_)
  refine lv_if_eq (tgt := 1706) hx hb dL_law_1699 (by decide) (fun c_7 => ?_) (fun c_7 => ?_)
  · refine lv_iconst (v := 0) hx hb dL_law_1706 (by decide) ?_
    refine yVwi (As := [.int z_3, .int 0]) (rest := []) C0 (g_X8_check l G S d q0 z_3 0 hSh hPo hm_q0 hk_q0 (Or.inl rfl)) ok_X8_check (mW1052 : Cond.methodLink RL 160 yX8_check ∈ wsT) ⟨Nat.le_of_ble_eq_true rfl, Nat.le_of_ble_eq_true rfl⟩ hP hD hS hA hK hN hm_q0 hk_q0 (by decide) rfl rfl rfl hl.1 rfl (Nat.le_of_ble_eq_true rfl) ⟨Nat.le_of_ble_eq_true rfl, Nat.le_of_ble_eq_true rfl⟩ dL_law_1707 (fun r_8 d_9 H locs hr_8 hP hD hS => ?_)
    obtain ⟨hgad_9, hpad_9, hxd_9⟩ := hr_8
    have hPod_9 : yPo S d_9 := hpad_9 hPo
    have hId_9 : yMI S d_9 m0 := yMI.ag hI hSh hm_m0 hk_m0 hgad_9 (yK.ag (F := []) yK.rf hgad_9 (by rw [hk_m0]; decide)) (by decide) (by decide)
    refine lv_pop hx hb dL_law_1710 rfl ?_
    refine lv_aload_n hx hb dL_law_1711 rfl (lv_at hl 1 rfl) ?_
    refine lv_aload_n hx hb dL_law_1712 rfl (lv_at hl 3 rfl) ?_
    refine lv_iload_n hx hb dL_law_1713 rfl (lv_at hl 0 rfl) ?_
    refine lv_iconst (v := 1) hx hb dL_law_1714 (by decide) ?_
    refine lv_iadd hx hb dL_law_1715 ?_
    rw [← ez_1]
    have F_10 := feq (rfl : (z_6 : Int32).toInt = (z_6 : Int32).toInt) (by decide +kernel : (0 : Int32).toInt = 0) c_7
    refine va_sld hx hb hX hbl hbA hS (xinL (by omega) (by omega)) dL_law_1716 ?_
    rw [← ez_3]
    refine lv_aload_n hx hb dL_law_1717 rfl (lv_at hl 3 rfl) ?_
    refine lv_iload_n hx hb dL_law_1718 rfl (lv_at hl 0 rfl) ?_
    refine lv_iconst (v := 2) hx hb dL_law_1719 (by decide) ?_
    refine lv_iadd hx hb dL_law_1720 ?_
    rw [← ez_4]
    refine va_sld hx hb hX hbl hbA hS (xinL (by omega) (by omega)) dL_law_1721 ?_
    rw [← ez_6]
    refine lv_if_eq (tgt := 1729) hx hb dL_law_1722 (by decide) (fun c_11 => ?_) (fun c_11 => absurd c_7 c_11)
    refine lv_iconst (v := 0) hx hb dL_law_1729 (by decide) ?_
    refine yVwi (As := [.int z_3, .int 0]) (rest := []) C0 (g_X9_check l G S d_9 m0 z_3 0 hSh hPod_9 hm_m0 hk_m0 hId_9 (Or.inl rfl)) ok_X9_check (mW1064 : Cond.methodLink RL 164 yX9_check ∈ wsT) ⟨Nat.le_of_ble_eq_true rfl, Nat.le_of_ble_eq_true rfl⟩ hP hD hS hA hK hN hm_m0 hk_m0 (by decide) rfl rfl rfl hl.1 rfl (Nat.le_of_ble_eq_true rfl) ⟨Nat.le_of_ble_eq_true rfl, Nat.le_of_ble_eq_true rfl⟩ dL_law_1730 (fun r_12 d_13 H locs hr_12 hP hD hS => ?_)
    obtain ⟨hgad_13, hpad_13, hfad_13, hxd_13⟩ := hr_12
    have hPod_13 : yPo S d_13 := hpad_13 hPod_9
    have hId_13 : yMI S d_13 m0 := hxd_13
    refine lv_pop hx hb dL_law_1733 rfl ?_
    refine lv_goto (tgt := 1786) hx hb dL_law_1734 (by decide) ?_
    exact kk d_13 _ _ ls hP hD hS hPod_13 hId_13 (zR4.gen hR hSh hm_q0 hk_q0 hm_m0 hk_m0 hnk hgad_9 (by decide) (by decide) hxd_9 hgad_13 (by decide) (by decide) hfad_13 (by decide)) (lv_sub hl [0, 1, 2, 3] rfl)
  · refine lv_iconst (v := 1) hx hb dL_law_1702 (by decide) ?_
    refine lv_goto (tgt := 1707) hx hb dL_law_1703 (by decide) ?_
    refine yVwi (As := [.int z_3, .int 1]) (rest := []) C0 (g_X8_check l G S d q0 z_3 1 hSh hPo hm_q0 hk_q0 (Or.inr rfl)) ok_X8_check (mW1052 : Cond.methodLink RL 160 yX8_check ∈ wsT) ⟨Nat.le_of_ble_eq_true rfl, Nat.le_of_ble_eq_true rfl⟩ hP hD hS hA hK hN hm_q0 hk_q0 (by decide) rfl rfl rfl hl.1 rfl (Nat.le_of_ble_eq_true rfl) ⟨Nat.le_of_ble_eq_true rfl, Nat.le_of_ble_eq_true rfl⟩ dL_law_1707 (fun r_14 d_15 H locs hr_14 hP hD hS => ?_)
    obtain ⟨hgad_15, hpad_15, hxd_15⟩ := hr_14
    have hPod_15 : yPo S d_15 := hpad_15 hPo
    have hId_15 : yMI S d_15 m0 := yMI.ag hI hSh hm_m0 hk_m0 hgad_15 (yK.ag (F := []) yK.rf hgad_15 (by rw [hk_m0]; decide)) (by decide) (by decide)
    refine lv_pop hx hb dL_law_1710 rfl ?_
    refine lv_aload_n hx hb dL_law_1711 rfl (lv_at hl 1 rfl) ?_
    refine lv_aload_n hx hb dL_law_1712 rfl (lv_at hl 3 rfl) ?_
    refine lv_iload_n hx hb dL_law_1713 rfl (lv_at hl 0 rfl) ?_
    refine lv_iconst (v := 1) hx hb dL_law_1714 (by decide) ?_
    refine lv_iadd hx hb dL_law_1715 ?_
    rw [← ez_1]
    have F_16 := fne (rfl : (z_6 : Int32).toInt = (z_6 : Int32).toInt) (by decide +kernel : (0 : Int32).toInt = 0) c_7
    refine va_sld hx hb hX hbl hbA hS (xinL (by omega) (by omega)) dL_law_1716 ?_
    rw [← ez_3]
    refine lv_aload_n hx hb dL_law_1717 rfl (lv_at hl 3 rfl) ?_
    refine lv_iload_n hx hb dL_law_1718 rfl (lv_at hl 0 rfl) ?_
    refine lv_iconst (v := 2) hx hb dL_law_1719 (by decide) ?_
    refine lv_iadd hx hb dL_law_1720 ?_
    rw [← ez_4]
    refine va_sld hx hb hX hbl hbA hS (xinL (by omega) (by omega)) dL_law_1721 ?_
    rw [← ez_6]
    refine lv_if_eq (tgt := 1729) hx hb dL_law_1722 (by decide) (fun c_17 => absurd c_17 c_7) (fun c_17 => ?_)
    refine lv_iconst (v := 1) hx hb dL_law_1725 (by decide) ?_
    refine lv_goto (tgt := 1730) hx hb dL_law_1726 (by decide) ?_
    refine yVwi (As := [.int z_3, .int 1]) (rest := []) C0 (g_X9_check l G S d_15 m0 z_3 1 hSh hPod_15 hm_m0 hk_m0 hId_15 (Or.inr rfl)) ok_X9_check (mW1064 : Cond.methodLink RL 164 yX9_check ∈ wsT) ⟨Nat.le_of_ble_eq_true rfl, Nat.le_of_ble_eq_true rfl⟩ hP hD hS hA hK hN hm_m0 hk_m0 (by decide) rfl rfl rfl hl.1 rfl (Nat.le_of_ble_eq_true rfl) ⟨Nat.le_of_ble_eq_true rfl, Nat.le_of_ble_eq_true rfl⟩ dL_law_1730 (fun r_18 d_19 H locs hr_18 hP hD hS => ?_)
    obtain ⟨hgad_19, hpad_19, hfad_19, hxd_19⟩ := hr_18
    have hPod_19 : yPo S d_19 := hpad_19 hPod_15
    have hId_19 : yMI S d_19 m0 := hxd_19
    refine lv_pop hx hb dL_law_1733 rfl ?_
    refine lv_goto (tgt := 1786) hx hb dL_law_1734 (by decide) ?_
    exact kk d_19 _ _ ls hP hD hS hPod_19 hId_19 (zR4.gen hR hSh hm_q0 hk_q0 hm_m0 hk_m0 hnk hgad_15 (by decide) (by decide) hxd_15 hgad_19 (by decide) (by decide) hfad_19 (by decide)) (lv_sub hl [0, 1, 2, 3] rfl)
theorem dL_law_1737 : decode cL_law 1737 = .ok (.aload_n 1, 1) := by decide +kernel
theorem dL_law_1738 : decode cL_law 1738 = .ok (.invokevirtual 165, 3) := by decide +kernel
theorem dL_law_1741 : decode cL_law 1741 = .ok (.pop, 1) := by decide +kernel
theorem dL_law_1742 : decode cL_law 1742 = .ok (.aload_n 2, 1) := by decide +kernel
theorem dL_law_1743 : decode cL_law 1743 = .ok (.invokevirtual 169, 3) := by decide +kernel
theorem dL_law_1746 : decode cL_law 1746 = .ok (.pop, 1) := by decide +kernel
theorem dL_law_1747 : decode cL_law 1747 = .ok (.goto 39, 3) := by decide +kernel
set_option maxHeartbeats 4000000 in
set_option maxRecDepth 100000 in
/-- case 33: image -/
theorem law_33 {p : Program} {l : Launch} {e : Env} {s : State} {m : MethodId} {below : List Frame} {meth : Method} {c : Code} {G : xG} {sc L : Nat} {xs : Nat → Int32} {A : Nat → Prop} {S : yS} {q0 m0 : Nat} (C0 : CallFix p m c code 4 s #[Value.ref sc] wsT RL) (hr : meth.sig.returnType = ret) (hlocks : meth.locks = false) (hK : va_K G.1 xcl (xty G) s) (hN : xN s) (hX : va_X sc L xs s s.heap) (hbl : sc < s.heap.size) (hbA : ¬ A sc) (hA : ∀ q : Nat, s.heap.size ≤ q → A q) (hA2 : ∀ q, A q → s.heap.size ≤ q) (hL : L ≤ 3584) (hSh : ySh S) (hm_q0 : q0 ∈ S.1) (hk_q0 : S.2.1 q0 = 8) (hm_m0 : m0 ∈ S.1) (hk_m0 : S.2.1 m0 = 9) (hnk : S.2.2.1 q0 0 ≠ S.2.2.1 q0 1) {d : yD} {v : Int32} (hv0 : 0 ≤ v.toInt) (hv1 : v.toInt + 7 ≤ (L : Int)) (hPo : yPo S d) (hI : yMI S d m0) (hR : zR4 S d q0 m0) {H : Heap} {locs : List Loc} {ls : Array Slot} (hP : va_P G.1 xcl (yW G S d) H) (hD : va_D A (yW G S d)) (hS : va_S A s.heap H locs) (hl : lv_has ls 4 [(3, .int v), (2, .ref m0), (1, .ref q0), (0, .ref sc)]) (kk : ∀ (u : yD) (H1 : Heap) (locs1 : List Loc) (ls1 : Array Slot), va_P G.1 xcl (yW G S u) H1 → va_D A (yW G S u) → va_S A s.heap H1 locs1 → yPo S u → yMI S u m0 → zR4 S u q0 m0 → lv_has ls1 4 [(3, .int v), (2, .ref m0), (1, .ref q0), (0, .ref sc)] → W p l e room_1 s m #[Value.ref sc] below meth c H1 locs1 169 136076 (lw_Z below #[Value.ref sc] s) (F0 m 1786 ls1 [])) : W p l e room_1 s m #[Value.ref sc] below meth c H locs 169 136076 (lw_Z below #[Value.ref sc] s) (F0 m 1737 ls []) := by
  obtain ⟨hx, hb, hml, hown, htl⟩ := id C0
  refine lv_aload_n hx hb dL_law_1737 rfl (lv_at hl 2 rfl) ?_
  refine yVwi (As := []) (rest := []) C0 (g_X8_image l G S d q0 hSh hPo hm_q0 hk_q0 hnk) ok_X8_image (mW1068 : Cond.methodLink RL 165 yX8_image ∈ wsT) ⟨Nat.le_of_ble_eq_true rfl, Nat.le_of_ble_eq_true rfl⟩ hP hD hS hA hK hN hm_q0 hk_q0 (by decide) rfl rfl rfl hl.1 rfl (Nat.le_of_ble_eq_true rfl) ⟨Nat.le_of_ble_eq_true rfl, Nat.le_of_ble_eq_true rfl⟩ dL_law_1738 (fun r_1 d_2 H locs hr_1 hP hD hS => ?_)
  obtain ⟨hgad_2, hpad_2, hxd_2⟩ := hr_1
  have hPod_2 : yPo S d_2 := hpad_2 hPo
  have hId_2 : yMI S d_2 m0 := yMI.ag hI hSh hm_m0 hk_m0 hgad_2 (yK.ag (F := []) yK.rf hgad_2 (by rw [hk_m0]; decide)) (by decide) (by decide)
  refine lv_pop hx hb dL_law_1741 rfl ?_
  refine lv_aload_n hx hb dL_law_1742 rfl (lv_at hl 1 rfl) ?_
  refine yVwi (As := []) (rest := []) C0 (g_X9_image l G S d_2 m0 hSh hPod_2 hm_m0 hk_m0 hId_2) ok_X9_image (mW1097 : Cond.methodLink RL 169 yX9_image ∈ wsT) ⟨Nat.le_of_ble_eq_true rfl, Nat.le_of_ble_eq_true rfl⟩ hP hD hS hA hK hN hm_m0 hk_m0 (by decide) rfl rfl rfl hl.1 rfl (Nat.le_of_ble_eq_true rfl) ⟨Nat.le_of_ble_eq_true rfl, Nat.le_of_ble_eq_true rfl⟩ dL_law_1743 (fun r_3 d_4 H locs hr_3 hP hD hS => ?_)
  obtain ⟨hgad_4, hpad_4, hfad_4, hxd_4⟩ := hr_3
  have hPod_4 : yPo S d_4 := hpad_4 hPod_2
  have hId_4 : yMI S d_4 m0 := hxd_4.1
  refine lv_pop hx hb dL_law_1746 rfl ?_
  refine lv_goto (tgt := 1786) hx hb dL_law_1747 (by decide) ?_
  exact kk d_4 _ _ ls hP hD hS hPod_4 hId_4 (zR4.image hR hId_2 hPo hSh hm_q0 hk_q0 hm_m0 hk_m0 hnk hgad_2 hgad_4 hfad_4 hxd_2 hxd_4).2 (lv_sub hl [0, 1, 2, 3] rfl)
theorem dL_law_1750 : decode cL_law 1750 = .ok (.aload_n 1, 1) := by decide +kernel
theorem dL_law_1751 : decode cL_law 1751 = .ok (.invokevirtual 170, 3) := by decide +kernel
theorem dL_law_1754 : decode cL_law 1754 = .ok (.pop, 1) := by decide +kernel
theorem dL_law_1755 : decode cL_law 1755 = .ok (.aload_n 2, 1) := by decide +kernel
theorem dL_law_1756 : decode cL_law 1756 = .ok (.invokevirtual 173, 3) := by decide +kernel
theorem dL_law_1759 : decode cL_law 1759 = .ok (.pop, 1) := by decide +kernel
theorem dL_law_1760 : decode cL_law 1760 = .ok (.goto 26, 3) := by decide +kernel
set_option maxHeartbeats 4000000 in
set_option maxRecDepth 100000 in
/-- case 34: back -/
theorem law_34 {p : Program} {l : Launch} {e : Env} {s : State} {m : MethodId} {below : List Frame} {meth : Method} {c : Code} {G : xG} {sc L : Nat} {xs : Nat → Int32} {A : Nat → Prop} {S : yS} {q0 m0 : Nat} (C0 : CallFix p m c code 4 s #[Value.ref sc] wsT RL) (hr : meth.sig.returnType = ret) (hlocks : meth.locks = false) (hK : va_K G.1 xcl (xty G) s) (hN : xN s) (hX : va_X sc L xs s s.heap) (hbl : sc < s.heap.size) (hbA : ¬ A sc) (hA : ∀ q : Nat, s.heap.size ≤ q → A q) (hA2 : ∀ q, A q → s.heap.size ≤ q) (hL : L ≤ 3584) (hSh : ySh S) (hm_q0 : q0 ∈ S.1) (hk_q0 : S.2.1 q0 = 8) (hm_m0 : m0 ∈ S.1) (hk_m0 : S.2.1 m0 = 9) (hnk : S.2.2.1 q0 0 ≠ S.2.2.1 q0 1) {d : yD} {v : Int32} (hv0 : 0 ≤ v.toInt) (hv1 : v.toInt + 7 ≤ (L : Int)) (hPo : yPo S d) (hI : yMI S d m0) (hR : zR4 S d q0 m0) {H : Heap} {locs : List Loc} {ls : Array Slot} (hP : va_P G.1 xcl (yW G S d) H) (hD : va_D A (yW G S d)) (hS : va_S A s.heap H locs) (hl : lv_has ls 4 [(3, .int v), (2, .ref m0), (1, .ref q0), (0, .ref sc)]) (kk : ∀ (u : yD) (H1 : Heap) (locs1 : List Loc) (ls1 : Array Slot), va_P G.1 xcl (yW G S u) H1 → va_D A (yW G S u) → va_S A s.heap H1 locs1 → yPo S u → yMI S u m0 → zR4 S u q0 m0 → lv_has ls1 4 [(3, .int v), (2, .ref m0), (1, .ref q0), (0, .ref sc)] → W p l e room_1 s m #[Value.ref sc] below meth c H1 locs1 169 136076 (lw_Z below #[Value.ref sc] s) (F0 m 1786 ls1 [])) : W p l e room_1 s m #[Value.ref sc] below meth c H locs 169 136076 (lw_Z below #[Value.ref sc] s) (F0 m 1750 ls []) := by
  obtain ⟨hx, hb, hml, hown, htl⟩ := id C0
  refine lv_aload_n hx hb dL_law_1750 rfl (lv_at hl 2 rfl) ?_
  refine yVwi (As := []) (rest := []) C0 (g_X8_back l G S d q0 hSh hPo hm_q0 hk_q0 hnk) ok_X8_back (mW1102 : Cond.methodLink RL 170 yX8_back ∈ wsT) ⟨Nat.le_of_ble_eq_true rfl, Nat.le_of_ble_eq_true rfl⟩ hP hD hS hA hK hN hm_q0 hk_q0 (by decide) rfl rfl rfl hl.1 rfl (Nat.le_of_ble_eq_true rfl) ⟨Nat.le_of_ble_eq_true rfl, Nat.le_of_ble_eq_true rfl⟩ dL_law_1751 (fun r_1 d_2 H locs hr_1 hP hD hS => ?_)
  obtain ⟨hgad_2, hpad_2, hxd_2⟩ := hr_1
  have hPod_2 : yPo S d_2 := hpad_2 hPo
  have hId_2 : yMI S d_2 m0 := yMI.ag hI hSh hm_m0 hk_m0 hgad_2 (yK.ag (F := []) yK.rf hgad_2 (by rw [hk_m0]; decide)) (by decide) (by decide)
  refine lv_pop hx hb dL_law_1754 rfl ?_
  refine lv_aload_n hx hb dL_law_1755 rfl (lv_at hl 1 rfl) ?_
  refine yVwi (As := []) (rest := []) C0 (g_X9_back l G S d_2 m0 hSh hPod_2 hm_m0 hk_m0 hId_2) ok_X9_back (mW1106 : Cond.methodLink RL 173 yX9_back ∈ wsT) ⟨Nat.le_of_ble_eq_true rfl, Nat.le_of_ble_eq_true rfl⟩ hP hD hS hA hK hN hm_m0 hk_m0 (by decide) rfl rfl rfl hl.1 rfl (Nat.le_of_ble_eq_true rfl) ⟨Nat.le_of_ble_eq_true rfl, Nat.le_of_ble_eq_true rfl⟩ dL_law_1756 (fun r_3 d_4 H locs hr_3 hP hD hS => ?_)
  obtain ⟨hgad_4, hpad_4, hfad_4, hxd_4⟩ := hr_3
  have hPod_4 : yPo S d_4 := hpad_4 hPod_2
  have hId_4 : yMI S d_4 m0 := hxd_4.1
  refine lv_pop hx hb dL_law_1759 rfl ?_
  refine lv_goto (tgt := 1786) hx hb dL_law_1760 (by decide) ?_
  exact kk d_4 _ _ ls hP hD hS hPod_4 hId_4 (zR4.back hR hId_2 hPo hSh hm_q0 hk_q0 hm_m0 hk_m0 hnk hgad_2 hgad_4 hfad_4 hxd_2 hxd_4).2 (lv_sub hl [0, 1, 2, 3] rfl)
theorem dL_law_1763 : decode cL_law 1763 = .ok (.aload_n 1, 1) := by decide +kernel
theorem dL_law_1764 : decode cL_law 1764 = .ok (.aload_n 0, 1) := by decide +kernel
theorem dL_law_1765 : decode cL_law 1765 = .ok (.iload_n 3, 1) := by decide +kernel
theorem dL_law_1766 : decode cL_law 1766 = .ok (.iconst 1, 1) := by decide +kernel
theorem dL_law_1767 : decode cL_law 1767 = .ok (.iadd, 1) := by decide +kernel
theorem dL_law_1768 : decode cL_law 1768 = .ok (.iaload, 1) := by decide +kernel
theorem dL_law_1769 : decode cL_law 1769 = .ok (.invokevirtual 174, 3) := by decide +kernel
theorem dL_law_1772 : decode cL_law 1772 = .ok (.pop, 1) := by decide +kernel
theorem dL_law_1773 : decode cL_law 1773 = .ok (.aload_n 2, 1) := by decide +kernel
theorem dL_law_1774 : decode cL_law 1774 = .ok (.aload_n 0, 1) := by decide +kernel
theorem dL_law_1775 : decode cL_law 1775 = .ok (.iload_n 3, 1) := by decide +kernel
theorem dL_law_1776 : decode cL_law 1776 = .ok (.iconst 1, 1) := by decide +kernel
theorem dL_law_1777 : decode cL_law 1777 = .ok (.iadd, 1) := by decide +kernel
theorem dL_law_1778 : decode cL_law 1778 = .ok (.iaload, 1) := by decide +kernel
theorem dL_law_1779 : decode cL_law 1779 = .ok (.invokevirtual 178, 3) := by decide +kernel
theorem dL_law_1782 : decode cL_law 1782 = .ok (.pop, 1) := by decide +kernel
theorem dL_law_1783 : decode cL_law 1783 = .ok (.goto 3, 3) := by decide +kernel
set_option maxHeartbeats 4000000 in
set_option maxRecDepth 100000 in
/-- case 35: status -/
theorem law_35 {p : Program} {l : Launch} {e : Env} {s : State} {m : MethodId} {below : List Frame} {meth : Method} {c : Code} {G : xG} {sc L : Nat} {xs : Nat → Int32} {A : Nat → Prop} {S : yS} {q0 m0 : Nat} (C0 : CallFix p m c code 4 s #[Value.ref sc] wsT RL) (hr : meth.sig.returnType = ret) (hlocks : meth.locks = false) (hK : va_K G.1 xcl (xty G) s) (hN : xN s) (hX : va_X sc L xs s s.heap) (hbl : sc < s.heap.size) (hbA : ¬ A sc) (hA : ∀ q : Nat, s.heap.size ≤ q → A q) (hA2 : ∀ q, A q → s.heap.size ≤ q) (hL : L ≤ 3584) (hSh : ySh S) (hm_q0 : q0 ∈ S.1) (hk_q0 : S.2.1 q0 = 8) (hm_m0 : m0 ∈ S.1) (hk_m0 : S.2.1 m0 = 9) (hnk : S.2.2.1 q0 0 ≠ S.2.2.1 q0 1) {d : yD} {v : Int32} (hv0 : 0 ≤ v.toInt) (hv1 : v.toInt + 7 ≤ (L : Int)) (hPo : yPo S d) (hI : yMI S d m0) (hR : zR4 S d q0 m0) {H : Heap} {locs : List Loc} {ls : Array Slot} (hP : va_P G.1 xcl (yW G S d) H) (hD : va_D A (yW G S d)) (hS : va_S A s.heap H locs) (hl : lv_has ls 4 [(3, .int v), (2, .ref m0), (1, .ref q0), (0, .ref sc)]) (kk : ∀ (u : yD) (H1 : Heap) (locs1 : List Loc) (ls1 : Array Slot), va_P G.1 xcl (yW G S u) H1 → va_D A (yW G S u) → va_S A s.heap H1 locs1 → yPo S u → yMI S u m0 → zR4 S u q0 m0 → lv_has ls1 4 [(3, .int v), (2, .ref m0), (1, .ref q0), (0, .ref sc)] → W p l e room_1 s m #[Value.ref sc] below meth c H1 locs1 169 136076 (lw_Z below #[Value.ref sc] s) (F0 m 1786 ls1 [])) : W p l e room_1 s m #[Value.ref sc] below meth c H locs 169 136076 (lw_Z below #[Value.ref sc] s) (F0 m 1763 ls []) := by
  obtain ⟨hx, hb, hml, hown, htl⟩ := id C0
  refine lv_aload_n hx hb dL_law_1763 rfl (lv_at hl 2 rfl) ?_
  refine lv_aload_n hx hb dL_law_1764 rfl (lv_at hl 3 rfl) ?_
  refine lv_iload_n hx hb dL_law_1765 rfl (lv_at hl 0 rfl) ?_
  refine lv_iconst (v := 1) hx hb dL_law_1766 (by decide) ?_
  refine lv_iadd hx hb dL_law_1767 ?_
  refine lv_topi (fun z_1 ez_1 => ?_)
  have T_2 : (z_1 : Int32).toInt = (v : Int32).toInt + 1 := tadd ez_1 (rfl : (v : Int32).toInt = (v : Int32).toInt) (by decide +kernel : (1 : Int32).toInt = 1) (by omega) (by omega)
  refine va_sld hx hb hX hbl hbA hS (xinL (by omega) (by omega)) dL_law_1768 ?_
  refine lv_topi (fun z_3 ez_3 => ?_)
  refine yVri (As := [.int z_3]) (rest := []) C0 (g_X8_status l G S d q0 z_3 hSh hm_q0 hk_q0) ok_X8_status (mW1110 : Cond.methodLink RL 174 yX8_status ∈ wsT) ⟨Nat.le_of_ble_eq_true rfl, Nat.le_of_ble_eq_true rfl⟩ hP hD hK hN hm_q0 hk_q0 (by decide) rfl rfl rfl hl.1 rfl (Nat.le_of_ble_eq_true rfl) ⟨Nat.le_of_ble_eq_true rfl, Nat.le_of_ble_eq_true rfl⟩ dL_law_1769 (fun r_4 hr_4 => ?_)
  refine lv_pop hx hb dL_law_1772 rfl ?_
  refine lv_aload_n hx hb dL_law_1773 rfl (lv_at hl 1 rfl) ?_
  refine lv_aload_n hx hb dL_law_1774 rfl (lv_at hl 3 rfl) ?_
  refine lv_iload_n hx hb dL_law_1775 rfl (lv_at hl 0 rfl) ?_
  refine lv_iconst (v := 1) hx hb dL_law_1776 (by decide) ?_
  refine lv_iadd hx hb dL_law_1777 ?_
  rw [← ez_1]
  refine va_sld hx hb hX hbl hbA hS (xinL (by omega) (by omega)) dL_law_1778 ?_
  rw [← ez_3]
  refine yVri (As := [.int z_3]) (rest := []) C0 (g_X9_status l G S d m0 z_3 hSh hm_m0 hk_m0 hI) ok_X9_status (mW1114 : Cond.methodLink RL 178 yX9_status ∈ wsT) ⟨Nat.le_of_ble_eq_true rfl, Nat.le_of_ble_eq_true rfl⟩ hP hD hK hN hm_m0 hk_m0 (by decide) rfl rfl rfl hl.1 rfl (Nat.le_of_ble_eq_true rfl) ⟨Nat.le_of_ble_eq_true rfl, Nat.le_of_ble_eq_true rfl⟩ dL_law_1779 (fun r_5 hr_5 => ?_)
  refine lv_pop hx hb dL_law_1782 rfl ?_
  refine lv_goto (tgt := 1786) hx hb dL_law_1783 (by decide) ?_
  exact kk d _ _ ls hP hD hS hPo hI (zR4.gen hR hSh hm_q0 hk_q0 hm_m0 hk_m0 hnk (yAg.rf (M := [])) (by decide) (by decide) rfl (yAg.rf (M := [])) (by decide) (by decide) (yK.rf (F := [])) (by decide)) (lv_sub hl [0, 1, 2, 3] rfl)
