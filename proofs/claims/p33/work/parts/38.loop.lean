theorem dL_law_18 : decode cL_law 18 = .ok (.iload_n 3, 1) := by decide +kernel
theorem dL_law_19 : decode cL_law 19 = .ok (.aload_n 0, 1) := by decide +kernel
theorem dL_law_20 : decode cL_law 20 = .ok (.arraylength, 1) := by decide +kernel
theorem dL_law_21 : decode cL_law 21 = .ok (.bipush 7, 2) := by decide +kernel
theorem dL_law_23 : decode cL_law 23 = .ok (.isub, 1) := by decide +kernel
theorem dL_law_24 : decode cL_law 24 = .ok (.if_icmp .gt 1768, 3) := by decide +kernel
theorem dL_law_27 : decode cL_law 27 = .ok (.aload_n 0, 1) := by decide +kernel
theorem dL_law_28 : decode cL_law 28 = .ok (.iload_n 3, 1) := by decide +kernel
theorem dL_law_29 : decode cL_law 29 = .ok (.iaload, 1) := by decide +kernel
theorem dL_law_30 : decode cL_law 30 = .ok (.bipush 63, 2) := by decide +kernel
theorem dL_law_32 : decode cL_law 32 = .ok (.iand, 1) := by decide +kernel
theorem dL_law_33 : decode cL_law 33 = .ok (.tableswitch 1753 0 35 #[159, 172, 247, 290, 333, 376, 409, 442, 475, 518, 561, 584, 627, 686, 729, 792, 851, 914, 967, 1000, 1103, 1126, 1159, 1192, 1225, 1284, 1343, 1412, 1471, 1530, 1599, 1622, 1655, 1704, 1717, 1730], 159) := by decide +kernel
theorem dL_law_1786 : decode cL_law 1786 = .ok (.iinc 3 7, 3) := by decide +kernel
theorem dL_law_1789 : decode cL_law 1789 = .ok (.goto (-1771), 3) := by decide +kernel
theorem dL_law_1792 : decode cL_law 1792 = .ok (.iconst 1, 1) := by decide +kernel
theorem dL_law_1793 : decode cL_law 1793 = .ok (.ireturn, 1) := by decide +kernel
set_option maxHeartbeats 4000000 in
set_option maxRecDepth 100000 in
/-- the loop over the calls -/
theorem law_loop {p : Program} {l : Launch} {e : Env} {s : State} {m : MethodId} {below : List Frame} {meth : Method} {c : Code} {G : xG} {sc L : Nat} {xs : Nat → Int32} {A : Nat → Prop} {S : yS} {q0 m0 : Nat} (C0 : CallFix p m c code 4 s #[Value.ref sc] wsT RL) (hr : meth.sig.returnType = ret) (hlocks : meth.locks = false) (hK : va_K G.1 xcl (xty G) s) (hN : xN s) (hX : va_X sc L xs s s.heap) (hbl : sc < s.heap.size) (hbA : ¬ A sc) (hA : ∀ q : Nat, s.heap.size ≤ q → A q) (hA2 : ∀ q, A q → s.heap.size ≤ q) (hL : L ≤ 3584) (hSh : ySh S) (hm_q0 : q0 ∈ S.1) (hk_q0 : S.2.1 q0 = 8) (hm_m0 : m0 ∈ S.1) (hk_m0 : S.2.1 m0 = 9) (hnk : S.2.2.1 q0 0 ≠ S.2.2.1 q0 1) {d : yD} {v : Int32} (hv0 : 0 ≤ v.toInt) (hPo : yPo S d) (hI : yMI S d m0) (hR : zR4 S d q0 m0) {H : Heap} {locs : List Loc} {ls : Array Slot} (hP : va_P G.1 xcl (yW G S d) H) (hD : va_D A (yW G S d)) (hS : va_S A s.heap H locs) (hl : lv_has ls 4 [(3, .int v), (2, .ref m0), (1, .ref q0), (0, .ref sc)]) : W p l e room_1 s m #[Value.ref sc] below meth c H locs 169 136076 (lw_Z below #[Value.ref sc] s) (F0 m 18 ls []) := by
  obtain ⟨hx, hb, hml, hown, htl⟩ := id C0
  refine yloop (σ := Int32 × yD) (fun x => (4000 - x.1.toInt).toNat) 18 (fun x H locs ls => va_P G.1 xcl (yW G S x.2) H ∧ va_D A (yW G S x.2) ∧ va_S A s.heap H locs ∧ yPo S x.2 ∧ yMI S x.2 m0 ∧ zR4 S x.2 q0 m0 ∧ 0 ≤ x.1.toInt ∧ lv_has ls 4 [(3, .int x.1), (2, .ref m0), (1, .ref q0), (0, .ref sc)]) (fun x H locs ls hI hnext => ?_) (v, d) ⟨hP, hD, hS, hPo, hI, hR, hv0, hl⟩
  clear hP hD hS hPo hR hl hv0
  obtain ⟨v, d⟩ := x
  obtain ⟨hP, hD, hS, hPo, hI, hR, hv0, hl⟩ := hI
  have hv0 : 0 ≤ v.toInt := hv0
  have hl : lv_has ls 4 [(3, .int v), (2, .ref m0), (1, .ref q0), (0, .ref sc)] := hl
  refine lv_iload_n hx hb dL_law_18 rfl (lv_at hl 0 rfl) ?_
  refine lv_aload_n hx hb dL_law_19 rfl (lv_at hl 3 rfl) ?_
  refine va_slen hx hb hX hbl hbA hS dL_law_20 ?_
  refine lv_topi (fun z_1 ez_1 => ?_)
  have hle_ : (z_1 : Int32).toInt = (L : Int) := by rw [ez_1]; exact xlen hL
  refine lv_bipush (v := 7) hx hb dL_law_21 (by decide) ?_
  refine lv_isub hx hb dL_law_23 ?_
  refine lv_topi (fun z_2 ez_2 => ?_)
  refine lv_icmp_gt (tgt := 1792) hx hb dL_law_24 (by decide) (fun c_3 => ?_) (fun c_3 => ?_)
  · refine lv_iconst (v := 1) hx hb dL_law_1792 (by decide) ?_
    refine va_forget (fun q hq => hA2 _ (hS.2.2 q hq)) ?_
    refine W.widen (k := 600000) (n := 7302250) (Nat.le_of_ble_eq_true rfl) (Nat.le_of_ble_eq_true rfl) ?_
    exact lw_ret hx hb hr hlocks dL_law_1793
  · have T_4 : (z_2 : Int32).toInt = (z_1 : Int32).toInt - 7 := tsub ez_2 (rfl : (z_1 : Int32).toInt = (z_1 : Int32).toInt) (by decide +kernel : (7 : Int32).toInt = 7) (by omega) (by omega)
    have F_5 := fnlt (rfl : (z_2 : Int32).toInt = (z_2 : Int32).toInt) (rfl : (v : Int32).toInt = (v : Int32).toInt) c_3
    have hv1 : v.toInt + 7 ≤ (L : Int) := by omega
    have htail : ∀ (u : yD) (H1 : Heap) (locs1 : List Loc) (ls1 : Array Slot), va_P G.1 xcl (yW G S u) H1 → va_D A (yW G S u) → va_S A s.heap H1 locs1 → yPo S u → yMI S u m0 → zR4 S u q0 m0 → lv_has ls1 4 [(3, .int v), (2, .ref m0), (1, .ref q0), (0, .ref sc)] → W p l e room_1 s m #[Value.ref sc] below meth c H1 locs1 169 136076 (lw_Z below #[Value.ref sc] s) (F0 m 1786 ls1 []) := by
      intro u H locs ls hP hD hS hPo hI hR hl
      refine lv_iinc (v := v + 7) (lv' := [(3, .int (v + 7)), (2, .ref m0), (1, .ref q0), (0, .ref sc)]) hx hb dL_law_1786 hl (k := 0) rfl rfl (by decide) rfl (fun ls hl => ?_)
      refine lv_goto (tgt := 18) hx hb dL_law_1789 (by decide) ?_
      have hv7 : (v + 7).toInt = v.toInt + 7 := tadd rfl rfl (by decide +kernel : (7 : Int32).toInt = 7) (by omega) (by omega)
      exact hnext (v + 7, u) _ _ ls (by show (4000 - (v + 7).toInt).toNat < (4000 - v.toInt).toNat; omega) ⟨hP, hD, hS, hPo, hI, hR, (by show 0 ≤ (v + 7).toInt; omega), hl⟩
    refine lv_aload_n hx hb dL_law_27 rfl (lv_at hl 3 rfl) ?_
    refine lv_iload_n hx hb dL_law_28 rfl (lv_at hl 0 rfl) ?_
    refine va_sld hx hb hX hbl hbA hS (xinL (by omega) (by omega)) dL_law_29 ?_
    refine lv_topi (fun z_6 ez_6 => ?_)
    refine lv_bipush (v := 63) hx hb dL_law_30 (by decide) ?_
    refine lv_iand hx hb dL_law_32 ?_
    refine lv_topi (fun z_7 ez_7 => ?_)
    rcases xtab z_7 36 (by decide) with hsw_8 | ⟨k_9, hk_9, hsw_8⟩
    · refine lv_tableOut (tgt := 1786) hx hb dL_law_33 (by omega) (by decide) ?_
      exact htail d _ _ ls hP hD hS hPo hI hR (lv_sub hl [0, 1, 2, 3] rfl)
    · obtain rfl | rfl | rfl | rfl | rfl | rfl | rfl | rfl | rfl | rfl | rfl | rfl | rfl | rfl | rfl | rfl | rfl | rfl | rfl | rfl | rfl | rfl | rfl | rfl | rfl | rfl | rfl | rfl | rfl | rfl | rfl | rfl | rfl | rfl | rfl | rfl : k_9 = 0 ∨ k_9 = 1 ∨ k_9 = 2 ∨ k_9 = 3 ∨ k_9 = 4 ∨ k_9 = 5 ∨ k_9 = 6 ∨ k_9 = 7 ∨ k_9 = 8 ∨ k_9 = 9 ∨ k_9 = 10 ∨ k_9 = 11 ∨ k_9 = 12 ∨ k_9 = 13 ∨ k_9 = 14 ∨ k_9 = 15 ∨ k_9 = 16 ∨ k_9 = 17 ∨ k_9 = 18 ∨ k_9 = 19 ∨ k_9 = 20 ∨ k_9 = 21 ∨ k_9 = 22 ∨ k_9 = 23 ∨ k_9 = 24 ∨ k_9 = 25 ∨ k_9 = 26 ∨ k_9 = 27 ∨ k_9 = 28 ∨ k_9 = 29 ∨ k_9 = 30 ∨ k_9 = 31 ∨ k_9 = 32 ∨ k_9 = 33 ∨ k_9 = 34 ∨ k_9 = 35 := by omega
      · subst hsw_8
        refine lv_tableIn (tgt := 192) (off := 159) hx hb dL_law_33 (by decide +kernel) (by decide +kernel) (by decide +kernel) (by decide) ?_
        exact law_0 C0 hr hlocks hK hN hX hbl hbA hA hA2 hL hSh hm_q0 hk_q0 hm_m0 hk_m0 hnk hv0 hv1 hPo hI hR hP hD hS (lv_sub hl [0, 1, 2, 3] rfl) htail
      · subst hsw_8
        refine lv_tableIn (tgt := 205) (off := 172) hx hb dL_law_33 (by decide +kernel) (by decide +kernel) (by decide +kernel) (by decide) ?_
        exact law_1 C0 hr hlocks hK hN hX hbl hbA hA hA2 hL hSh hm_q0 hk_q0 hm_m0 hk_m0 hnk hv0 hv1 hPo hI hR hP hD hS (lv_sub hl [0, 1, 2, 3] rfl) htail
      · subst hsw_8
        refine lv_tableIn (tgt := 280) (off := 247) hx hb dL_law_33 (by decide +kernel) (by decide +kernel) (by decide +kernel) (by decide) ?_
        exact law_2 C0 hr hlocks hK hN hX hbl hbA hA hA2 hL hSh hm_q0 hk_q0 hm_m0 hk_m0 hnk hv0 hv1 hPo hI hR hP hD hS (lv_sub hl [0, 1, 2, 3] rfl) htail
      · subst hsw_8
        refine lv_tableIn (tgt := 323) (off := 290) hx hb dL_law_33 (by decide +kernel) (by decide +kernel) (by decide +kernel) (by decide) ?_
        exact law_3 C0 hr hlocks hK hN hX hbl hbA hA hA2 hL hSh hm_q0 hk_q0 hm_m0 hk_m0 hnk hv0 hv1 hPo hI hR hP hD hS (lv_sub hl [0, 1, 2, 3] rfl) htail
      · subst hsw_8
        refine lv_tableIn (tgt := 366) (off := 333) hx hb dL_law_33 (by decide +kernel) (by decide +kernel) (by decide +kernel) (by decide) ?_
        exact law_4 C0 hr hlocks hK hN hX hbl hbA hA hA2 hL hSh hm_q0 hk_q0 hm_m0 hk_m0 hnk hv0 hv1 hPo hI hR hP hD hS (lv_sub hl [0, 1, 2, 3] rfl) htail
      · subst hsw_8
        refine lv_tableIn (tgt := 409) (off := 376) hx hb dL_law_33 (by decide +kernel) (by decide +kernel) (by decide +kernel) (by decide) ?_
        exact law_5 C0 hr hlocks hK hN hX hbl hbA hA hA2 hL hSh hm_q0 hk_q0 hm_m0 hk_m0 hnk hv0 hv1 hPo hI hR hP hD hS (lv_sub hl [0, 1, 2, 3] rfl) htail
      · subst hsw_8
        refine lv_tableIn (tgt := 442) (off := 409) hx hb dL_law_33 (by decide +kernel) (by decide +kernel) (by decide +kernel) (by decide) ?_
        exact law_6 C0 hr hlocks hK hN hX hbl hbA hA hA2 hL hSh hm_q0 hk_q0 hm_m0 hk_m0 hnk hv0 hv1 hPo hI hR hP hD hS (lv_sub hl [0, 1, 2, 3] rfl) htail
      · subst hsw_8
        refine lv_tableIn (tgt := 475) (off := 442) hx hb dL_law_33 (by decide +kernel) (by decide +kernel) (by decide +kernel) (by decide) ?_
        exact law_7 C0 hr hlocks hK hN hX hbl hbA hA hA2 hL hSh hm_q0 hk_q0 hm_m0 hk_m0 hnk hv0 hv1 hPo hI hR hP hD hS (lv_sub hl [0, 1, 2, 3] rfl) htail
      · subst hsw_8
        refine lv_tableIn (tgt := 508) (off := 475) hx hb dL_law_33 (by decide +kernel) (by decide +kernel) (by decide +kernel) (by decide) ?_
        exact law_8 C0 hr hlocks hK hN hX hbl hbA hA hA2 hL hSh hm_q0 hk_q0 hm_m0 hk_m0 hnk hv0 hv1 hPo hI hR hP hD hS (lv_sub hl [0, 1, 2, 3] rfl) htail
      · subst hsw_8
        refine lv_tableIn (tgt := 551) (off := 518) hx hb dL_law_33 (by decide +kernel) (by decide +kernel) (by decide +kernel) (by decide) ?_
        exact law_9 C0 hr hlocks hK hN hX hbl hbA hA hA2 hL hSh hm_q0 hk_q0 hm_m0 hk_m0 hnk hv0 hv1 hPo hI hR hP hD hS (lv_sub hl [0, 1, 2, 3] rfl) htail
      · subst hsw_8
        refine lv_tableIn (tgt := 594) (off := 561) hx hb dL_law_33 (by decide +kernel) (by decide +kernel) (by decide +kernel) (by decide) ?_
        exact law_10 C0 hr hlocks hK hN hX hbl hbA hA hA2 hL hSh hm_q0 hk_q0 hm_m0 hk_m0 hnk hv0 hv1 hPo hI hR hP hD hS (lv_sub hl [0, 1, 2, 3] rfl) htail
      · subst hsw_8
        refine lv_tableIn (tgt := 617) (off := 584) hx hb dL_law_33 (by decide +kernel) (by decide +kernel) (by decide +kernel) (by decide) ?_
        exact law_11 C0 hr hlocks hK hN hX hbl hbA hA hA2 hL hSh hm_q0 hk_q0 hm_m0 hk_m0 hnk hv0 hv1 hPo hI hR hP hD hS (lv_sub hl [0, 1, 2, 3] rfl) htail
      · subst hsw_8
        refine lv_tableIn (tgt := 660) (off := 627) hx hb dL_law_33 (by decide +kernel) (by decide +kernel) (by decide +kernel) (by decide) ?_
        exact law_12 C0 hr hlocks hK hN hX hbl hbA hA hA2 hL hSh hm_q0 hk_q0 hm_m0 hk_m0 hnk hv0 hv1 hPo hI hR hP hD hS (lv_sub hl [0, 1, 2, 3] rfl) htail
      · subst hsw_8
        refine lv_tableIn (tgt := 719) (off := 686) hx hb dL_law_33 (by decide +kernel) (by decide +kernel) (by decide +kernel) (by decide) ?_
        exact law_13 C0 hr hlocks hK hN hX hbl hbA hA hA2 hL hSh hm_q0 hk_q0 hm_m0 hk_m0 hnk hv0 hv1 hPo hI hR hP hD hS (lv_sub hl [0, 1, 2, 3] rfl) htail
      · subst hsw_8
        refine lv_tableIn (tgt := 762) (off := 729) hx hb dL_law_33 (by decide +kernel) (by decide +kernel) (by decide +kernel) (by decide) ?_
        exact law_14 C0 hr hlocks hK hN hX hbl hbA hA hA2 hL hSh hm_q0 hk_q0 hm_m0 hk_m0 hnk hv0 hv1 hPo hI hR hP hD hS (lv_sub hl [0, 1, 2, 3] rfl) htail
      · subst hsw_8
        refine lv_tableIn (tgt := 825) (off := 792) hx hb dL_law_33 (by decide +kernel) (by decide +kernel) (by decide +kernel) (by decide) ?_
        exact law_15 C0 hr hlocks hK hN hX hbl hbA hA hA2 hL hSh hm_q0 hk_q0 hm_m0 hk_m0 hnk hv0 hv1 hPo hI hR hP hD hS (lv_sub hl [0, 1, 2, 3] rfl) htail
      · subst hsw_8
        refine lv_tableIn (tgt := 884) (off := 851) hx hb dL_law_33 (by decide +kernel) (by decide +kernel) (by decide +kernel) (by decide) ?_
        exact law_16 C0 hr hlocks hK hN hX hbl hbA hA hA2 hL hSh hm_q0 hk_q0 hm_m0 hk_m0 hnk hv0 hv1 hPo hI hR hP hD hS (lv_sub hl [0, 1, 2, 3] rfl) htail
      · subst hsw_8
        refine lv_tableIn (tgt := 947) (off := 914) hx hb dL_law_33 (by decide +kernel) (by decide +kernel) (by decide +kernel) (by decide) ?_
        exact law_17 C0 hr hlocks hK hN hX hbl hbA hA hA2 hL hSh hm_q0 hk_q0 hm_m0 hk_m0 hnk hv0 hv1 hPo hI hR hP hD hS (lv_sub hl [0, 1, 2, 3] rfl) htail
      · subst hsw_8
        refine lv_tableIn (tgt := 1000) (off := 967) hx hb dL_law_33 (by decide +kernel) (by decide +kernel) (by decide +kernel) (by decide) ?_
        exact law_18 C0 hr hlocks hK hN hX hbl hbA hA hA2 hL hSh hm_q0 hk_q0 hm_m0 hk_m0 hnk hv0 hv1 hPo hI hR hP hD hS (lv_sub hl [0, 1, 2, 3] rfl) htail
      · subst hsw_8
        refine lv_tableIn (tgt := 1033) (off := 1000) hx hb dL_law_33 (by decide +kernel) (by decide +kernel) (by decide +kernel) (by decide) ?_
        exact law_19 C0 hr hlocks hK hN hX hbl hbA hA hA2 hL hSh hm_q0 hk_q0 hm_m0 hk_m0 hnk hv0 hv1 hPo hI hR hP hD hS (lv_sub hl [0, 1, 2, 3] rfl) htail
      · subst hsw_8
        refine lv_tableIn (tgt := 1136) (off := 1103) hx hb dL_law_33 (by decide +kernel) (by decide +kernel) (by decide +kernel) (by decide) ?_
        exact law_20 C0 hr hlocks hK hN hX hbl hbA hA hA2 hL hSh hm_q0 hk_q0 hm_m0 hk_m0 hnk hv0 hv1 hPo hI hR hP hD hS (lv_sub hl [0, 1, 2, 3] rfl) htail
      · subst hsw_8
        refine lv_tableIn (tgt := 1159) (off := 1126) hx hb dL_law_33 (by decide +kernel) (by decide +kernel) (by decide +kernel) (by decide) ?_
        exact law_21 C0 hr hlocks hK hN hX hbl hbA hA hA2 hL hSh hm_q0 hk_q0 hm_m0 hk_m0 hnk hv0 hv1 hPo hI hR hP hD hS (lv_sub hl [0, 1, 2, 3] rfl) htail
      · subst hsw_8
        refine lv_tableIn (tgt := 1192) (off := 1159) hx hb dL_law_33 (by decide +kernel) (by decide +kernel) (by decide +kernel) (by decide) ?_
        exact law_22 C0 hr hlocks hK hN hX hbl hbA hA hA2 hL hSh hm_q0 hk_q0 hm_m0 hk_m0 hnk hv0 hv1 hPo hI hR hP hD hS (lv_sub hl [0, 1, 2, 3] rfl) htail
      · subst hsw_8
        refine lv_tableIn (tgt := 1225) (off := 1192) hx hb dL_law_33 (by decide +kernel) (by decide +kernel) (by decide +kernel) (by decide) ?_
        exact law_23 C0 hr hlocks hK hN hX hbl hbA hA hA2 hL hSh hm_q0 hk_q0 hm_m0 hk_m0 hnk hv0 hv1 hPo hI hR hP hD hS (lv_sub hl [0, 1, 2, 3] rfl) htail
      · subst hsw_8
        refine lv_tableIn (tgt := 1258) (off := 1225) hx hb dL_law_33 (by decide +kernel) (by decide +kernel) (by decide +kernel) (by decide) ?_
        exact law_24 C0 hr hlocks hK hN hX hbl hbA hA hA2 hL hSh hm_q0 hk_q0 hm_m0 hk_m0 hnk hv0 hv1 hPo hI hR hP hD hS (lv_sub hl [0, 1, 2, 3] rfl) htail
      · subst hsw_8
        refine lv_tableIn (tgt := 1317) (off := 1284) hx hb dL_law_33 (by decide +kernel) (by decide +kernel) (by decide +kernel) (by decide) ?_
        exact law_25 C0 hr hlocks hK hN hX hbl hbA hA hA2 hL hSh hm_q0 hk_q0 hm_m0 hk_m0 hnk hv0 hv1 hPo hI hR hP hD hS (lv_sub hl [0, 1, 2, 3] rfl) htail
      · subst hsw_8
        refine lv_tableIn (tgt := 1376) (off := 1343) hx hb dL_law_33 (by decide +kernel) (by decide +kernel) (by decide +kernel) (by decide) ?_
        exact law_26 C0 hr hlocks hK hN hX hbl hbA hA hA2 hL hSh hm_q0 hk_q0 hm_m0 hk_m0 hnk hv0 hv1 hPo hI hR hP hD hS (lv_sub hl [0, 1, 2, 3] rfl) htail
      · subst hsw_8
        refine lv_tableIn (tgt := 1445) (off := 1412) hx hb dL_law_33 (by decide +kernel) (by decide +kernel) (by decide +kernel) (by decide) ?_
        exact law_27 C0 hr hlocks hK hN hX hbl hbA hA hA2 hL hSh hm_q0 hk_q0 hm_m0 hk_m0 hnk hv0 hv1 hPo hI hR hP hD hS (lv_sub hl [0, 1, 2, 3] rfl) htail
      · subst hsw_8
        refine lv_tableIn (tgt := 1504) (off := 1471) hx hb dL_law_33 (by decide +kernel) (by decide +kernel) (by decide +kernel) (by decide) ?_
        exact law_28 C0 hr hlocks hK hN hX hbl hbA hA hA2 hL hSh hm_q0 hk_q0 hm_m0 hk_m0 hnk hv0 hv1 hPo hI hR hP hD hS (lv_sub hl [0, 1, 2, 3] rfl) htail
      · subst hsw_8
        refine lv_tableIn (tgt := 1563) (off := 1530) hx hb dL_law_33 (by decide +kernel) (by decide +kernel) (by decide +kernel) (by decide) ?_
        exact law_29 C0 hr hlocks hK hN hX hbl hbA hA hA2 hL hSh hm_q0 hk_q0 hm_m0 hk_m0 hnk hv0 hv1 hPo hI hR hP hD hS (lv_sub hl [0, 1, 2, 3] rfl) htail
      · subst hsw_8
        refine lv_tableIn (tgt := 1632) (off := 1599) hx hb dL_law_33 (by decide +kernel) (by decide +kernel) (by decide +kernel) (by decide) ?_
        exact law_30 C0 hr hlocks hK hN hX hbl hbA hA hA2 hL hSh hm_q0 hk_q0 hm_m0 hk_m0 hnk hv0 hv1 hPo hI hR hP hD hS (lv_sub hl [0, 1, 2, 3] rfl) htail
      · subst hsw_8
        refine lv_tableIn (tgt := 1655) (off := 1622) hx hb dL_law_33 (by decide +kernel) (by decide +kernel) (by decide +kernel) (by decide) ?_
        exact law_31 C0 hr hlocks hK hN hX hbl hbA hA hA2 hL hSh hm_q0 hk_q0 hm_m0 hk_m0 hnk hv0 hv1 hPo hI hR hP hD hS (lv_sub hl [0, 1, 2, 3] rfl) htail
      · subst hsw_8
        refine lv_tableIn (tgt := 1688) (off := 1655) hx hb dL_law_33 (by decide +kernel) (by decide +kernel) (by decide +kernel) (by decide) ?_
        exact law_32 C0 hr hlocks hK hN hX hbl hbA hA hA2 hL hSh hm_q0 hk_q0 hm_m0 hk_m0 hnk hv0 hv1 hPo hI hR hP hD hS (lv_sub hl [0, 1, 2, 3] rfl) htail
      · subst hsw_8
        refine lv_tableIn (tgt := 1737) (off := 1704) hx hb dL_law_33 (by decide +kernel) (by decide +kernel) (by decide +kernel) (by decide) ?_
        exact law_33 C0 hr hlocks hK hN hX hbl hbA hA hA2 hL hSh hm_q0 hk_q0 hm_m0 hk_m0 hnk hv0 hv1 hPo hI hR hP hD hS (lv_sub hl [0, 1, 2, 3] rfl) htail
      · subst hsw_8
        refine lv_tableIn (tgt := 1750) (off := 1717) hx hb dL_law_33 (by decide +kernel) (by decide +kernel) (by decide +kernel) (by decide) ?_
        exact law_34 C0 hr hlocks hK hN hX hbl hbA hA hA2 hL hSh hm_q0 hk_q0 hm_m0 hk_m0 hnk hv0 hv1 hPo hI hR hP hD hS (lv_sub hl [0, 1, 2, 3] rfl) htail
      · subst hsw_8
        refine lv_tableIn (tgt := 1763) (off := 1730) hx hb dL_law_33 (by decide +kernel) (by decide +kernel) (by decide +kernel) (by decide) ?_
        exact law_35 C0 hr hlocks hK hN hX hbl hbA hA hA2 hL hSh hm_q0 hk_q0 hm_m0 hk_m0 hnk hv0 hv1 hPo hI hR hP hD hS (lv_sub hl [0, 1, 2, 3] rfl) htail
