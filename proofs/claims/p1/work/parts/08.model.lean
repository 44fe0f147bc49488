theorem dX9_no_0 : decode cX9_no 0 = .ok (.aload_n 0, 1) := by decide +kernel
theorem dX9_no_1 : decode cX9_no 1 = .ok (.iload_n 1, 1) := by decide +kernel
theorem dX9_no_2 : decode cX9_no 2 = .ok (.putfield 147, 3) := by decide +kernel
theorem dX9_no_5 : decode cX9_no 5 = .ok (.aload_n 0, 1) := by decide +kernel
theorem dX9_no_6 : decode cX9_no 6 = .ok (.getfield 117, 3) := by decide +kernel
theorem dX9_no_9 : decode cX9_no 9 = .ok (.iload_n 1, 1) := by decide +kernel
theorem dX9_no_10 : decode cX9_no 10 = .ok (.dup2, 1) := by decide +kernel
theorem dX9_no_11 : decode cX9_no 11 = .ok (.iaload, 1) := by decide +kernel
theorem dX9_no_12 : decode cX9_no 12 = .ok (.iconst 1, 1) := by decide +kernel
theorem dX9_no_13 : decode cX9_no 13 = .ok (.iadd, 1) := by decide +kernel
theorem dX9_no_14 : decode cX9_no 14 = .ok (.iastore, 1) := by decide +kernel
theorem dX9_no_15 : decode cX9_no 15 = .ok (.iconst (-1), 1) := by decide +kernel
theorem dX9_no_16 : decode cX9_no 16 = .ok (.ireturn, 1) := by decide +kernel
set_option maxHeartbeats 4000000 in
set_option maxRecDepth 100000 in
theorem c_X9_no (l : Launch) (G : xG) (m0 : Nat) (ma : Nat → Nat) (p0 : Int32) (hin6 : vp_in p0 6) : xWi l G yX9_no cX9_no 2 (some .int) 0 0 0 0 [.ref m0, .int p0] [(m0, .inr (9, [.int 0, .int 0, .int 0, .int (-1), .ref (ma 4), .ref (ma 5), .ref (ma 6), .ref (ma 7), .ref (ma 8), .ref (ma 9), .ref (ma 10), .ref (ma 11), .ref (ma 12), .ref (ma 13), .ref (ma 14), .ref (ma 15), .ref (ma 16), .ref (ma 17), .ref (ma 18), .ref (ma 19), .int 0, .ref (ma 21), .ref (ma 22), .ref (ma 23), .ref (ma 24), .ref (ma 25), .ref (ma 26), .ref (ma 27), .ref (ma 28), .ref (ma 29), .ref (ma 30), .ref (ma 31), .ref (ma 32), .ref (ma 33), .ref (ma 34), .ref (ma 35), .ref (ma 36), .ref (ma 37), .int 0, .ref (ma 39), .ref (ma 40), .ref (ma 41), .ref (ma 42), .ref (ma 43), .ref (ma 44), .ref (ma 45), .ref (ma 46), .ref (ma 47), .ref (ma 48), .int 0, .int 0, .int 0, .int 0, .int 0, .int 0, .int 0, .long 0, .int 0, .long 0, .long 0, .long 0, .long 0, .int 0, .int 0, .int 0, .int 0, .long 0])), (ma 39, .inl (G.2 0, 6, .inl (fun _ => 0)))] (S := Unit) (fun r _ => r = (-1)) (fun _ => []) := by
  intro sz
  refine xstart (by decide) (Nat.le_of_ble_eq_true rfl) (fun p e s m args below meth c ls C0 hr hlocks hin hsz hP hK hD hN hl => ?_)
  obtain ⟨hx, hb, hml, hown, htl⟩ := id C0
  subst hsz
  have hD := hD.self (sz := s.heap.size)
  generalize hAe : va_A [(m0, .inr (9, [.int 0, .int 0, .int 0, .int (-1), .ref (ma 4), .ref (ma 5), .ref (ma 6), .ref (ma 7), .ref (ma 8), .ref (ma 9), .ref (ma 10), .ref (ma 11), .ref (ma 12), .ref (ma 13), .ref (ma 14), .ref (ma 15), .ref (ma 16), .ref (ma 17), .ref (ma 18), .ref (ma 19), .int 0, .ref (ma 21), .ref (ma 22), .ref (ma 23), .ref (ma 24), .ref (ma 25), .ref (ma 26), .ref (ma 27), .ref (ma 28), .ref (ma 29), .ref (ma 30), .ref (ma 31), .ref (ma 32), .ref (ma 33), .ref (ma 34), .ref (ma 35), .ref (ma 36), .ref (ma 37), .int 0, .ref (ma 39), .ref (ma 40), .ref (ma 41), .ref (ma 42), .ref (ma 43), .ref (ma 44), .ref (ma 45), .ref (ma 46), .ref (ma 47), .ref (ma 48), .int 0, .int 0, .int 0, .int 0, .int 0, .int 0, .int 0, .long 0, .int 0, .long 0, .long 0, .long 0, .long 0, .int 0, .int 0, .int 0, .int 0, .long 0])), (ma 39, .inl (G.2 0, 6, .inl (fun _ => 0)))] s.heap.size = A at hD ⊢
  have hA : ∀ q : Nat, s.heap.size ≤ q → A q := fun q h => by rw [← hAe]; exact Or.inr h
  have hS : va_S A s.heap s.heap [] := va_S.rf
  have hl : lv_has ls 2 [(0, .ref m0), (1, .int p0)] := hl
  refine lv_aload_n hx hb dX9_no_0 rfl (lv_at hl 0 rfl) ?_
  refine lv_iload_n hx hb dX9_no_1 rfl (lv_at hl 1 rfl) ?_
  refine va_put (D := G.1) (ci := 9) (v := .int p0) (ty := .int) (C := RX9) (T := TX9) (N := 67) hx hb htl inlX9 tyX9 tyX9_ok nmX9 hown hK hP hD hS 0 rfl rfl 38 (by decide) (htl (.fieldLink RX9 147 "LaytimeDeskModel" "reason" "I") mW175) (fun _ h9 => h9) rfl (by decide +kernel) rfl rfl (Nat.le_of_ble_eq_true rfl) dX9_no_2 (fun H locs hP hD hS => ?_)
  have hP : va_P G.1 xcl [(m0, .inr (9, [.int 0, .int 0, .int 0, .int (-1), .ref (ma 4), .ref (ma 5), .ref (ma 6), .ref (ma 7), .ref (ma 8), .ref (ma 9), .ref (ma 10), .ref (ma 11), .ref (ma 12), .ref (ma 13), .ref (ma 14), .ref (ma 15), .ref (ma 16), .ref (ma 17), .ref (ma 18), .ref (ma 19), .int 0, .ref (ma 21), .ref (ma 22), .ref (ma 23), .ref (ma 24), .ref (ma 25), .ref (ma 26), .ref (ma 27), .ref (ma 28), .ref (ma 29), .ref (ma 30), .ref (ma 31), .ref (ma 32), .ref (ma 33), .ref (ma 34), .ref (ma 35), .ref (ma 36), .ref (ma 37), .int p0, .ref (ma 39), .ref (ma 40), .ref (ma 41), .ref (ma 42), .ref (ma 43), .ref (ma 44), .ref (ma 45), .ref (ma 46), .ref (ma 47), .ref (ma 48), .int 0, .int 0, .int 0, .int 0, .int 0, .int 0, .int 0, .long 0, .int 0, .long 0, .long 0, .long 0, .long 0, .int 0, .int 0, .int 0, .int 0, .long 0])), (ma 39, .inl (G.2 0, 6, .inl (fun _ => 0)))] H := hP
  have hD : va_D A [(m0, .inr (9, [.int 0, .int 0, .int 0, .int (-1), .ref (ma 4), .ref (ma 5), .ref (ma 6), .ref (ma 7), .ref (ma 8), .ref (ma 9), .ref (ma 10), .ref (ma 11), .ref (ma 12), .ref (ma 13), .ref (ma 14), .ref (ma 15), .ref (ma 16), .ref (ma 17), .ref (ma 18), .ref (ma 19), .int 0, .ref (ma 21), .ref (ma 22), .ref (ma 23), .ref (ma 24), .ref (ma 25), .ref (ma 26), .ref (ma 27), .ref (ma 28), .ref (ma 29), .ref (ma 30), .ref (ma 31), .ref (ma 32), .ref (ma 33), .ref (ma 34), .ref (ma 35), .ref (ma 36), .ref (ma 37), .int p0, .ref (ma 39), .ref (ma 40), .ref (ma 41), .ref (ma 42), .ref (ma 43), .ref (ma 44), .ref (ma 45), .ref (ma 46), .ref (ma 47), .ref (ma 48), .int 0, .int 0, .int 0, .int 0, .int 0, .int 0, .int 0, .long 0, .int 0, .long 0, .long 0, .long 0, .long 0, .int 0, .int 0, .int 0, .int 0, .long 0])), (ma 39, .inl (G.2 0, 6, .inl (fun _ => 0)))] := hD
  refine lv_aload_n hx hb dX9_no_5 rfl (lv_at hl 0 rfl) ?_
  refine va_get (D := G.1) (ci := 9) (v := .ref (ma 39)) (C := RX9) (T := TX9) (N := 67) hx hb htl inlX9 hown hK hP 0 rfl rfl 39 (by decide) (htl (.fieldLink RX9 117 "LaytimeDeskModel" "refused" "[I") mW144) (fun _ h9 => h9) rfl dX9_no_6 ?_
  refine lv_iload_n hx hb dX9_no_9 rfl (lv_at hl 1 rfl) ?_
  refine lv_dup2_11 hx hb dX9_no_10 rfl rfl ?_
  refine va_iald hx hb hK hP 1 0 rfl rfl hin6 dX9_no_11 ?_
  refine lv_topi (fun z_1 ez_1 => ?_)
  obtain rfl : z_1 = 0 := ez_1.trans (by first | rfl | decide +kernel)
  refine lv_iconst (v := 1) hx hb dX9_no_12 (by decide) ?_
  refine lv_iadd hx hb dX9_no_13 ?_
  refine lv_topi (fun z_2 ez_2 => ?_)
  obtain rfl : z_2 = 1 := ez_2.trans (by first | rfl | decide +kernel)
  refine va_iast hx hb hK hP hD hS 1 0 rfl rfl hin6 dX9_no_14 (fun H locs hP hD hS => ?_)
  obtain ⟨g_3, eg_3⟩ : ∃ z : Nat → Int32, z = (upd (fun _ => 0) (p0 : Int32).toNatClampNeg 1) := ⟨_, rfl⟩
  have hP : va_P G.1 xcl [(m0, .inr (9, [.int 0, .int 0, .int 0, .int (-1), .ref (ma 4), .ref (ma 5), .ref (ma 6), .ref (ma 7), .ref (ma 8), .ref (ma 9), .ref (ma 10), .ref (ma 11), .ref (ma 12), .ref (ma 13), .ref (ma 14), .ref (ma 15), .ref (ma 16), .ref (ma 17), .ref (ma 18), .ref (ma 19), .int 0, .ref (ma 21), .ref (ma 22), .ref (ma 23), .ref (ma 24), .ref (ma 25), .ref (ma 26), .ref (ma 27), .ref (ma 28), .ref (ma 29), .ref (ma 30), .ref (ma 31), .ref (ma 32), .ref (ma 33), .ref (ma 34), .ref (ma 35), .ref (ma 36), .ref (ma 37), .int p0, .ref (ma 39), .ref (ma 40), .ref (ma 41), .ref (ma 42), .ref (ma 43), .ref (ma 44), .ref (ma 45), .ref (ma 46), .ref (ma 47), .ref (ma 48), .int 0, .int 0, .int 0, .int 0, .int 0, .int 0, .int 0, .long 0, .int 0, .long 0, .long 0, .long 0, .long 0, .int 0, .int 0, .int 0, .int 0, .long 0])), (ma 39, .inl (G.2 0, 6, .inl g_3))] H := by rw [eg_3]; exact hP
  have hD : va_D A [(m0, .inr (9, [.int 0, .int 0, .int 0, .int (-1), .ref (ma 4), .ref (ma 5), .ref (ma 6), .ref (ma 7), .ref (ma 8), .ref (ma 9), .ref (ma 10), .ref (ma 11), .ref (ma 12), .ref (ma 13), .ref (ma 14), .ref (ma 15), .ref (ma 16), .ref (ma 17), .ref (ma 18), .ref (ma 19), .int 0, .ref (ma 21), .ref (ma 22), .ref (ma 23), .ref (ma 24), .ref (ma 25), .ref (ma 26), .ref (ma 27), .ref (ma 28), .ref (ma 29), .ref (ma 30), .ref (ma 31), .ref (ma 32), .ref (ma 33), .ref (ma 34), .ref (ma 35), .ref (ma 36), .ref (ma 37), .int p0, .ref (ma 39), .ref (ma 40), .ref (ma 41), .ref (ma 42), .ref (ma 43), .ref (ma 44), .ref (ma 45), .ref (ma 46), .ref (ma 47), .ref (ma 48), .int 0, .int 0, .int 0, .int 0, .int 0, .int 0, .int 0, .long 0, .int 0, .long 0, .long 0, .long 0, .long 0, .int 0, .int 0, .int 0, .int 0, .long 0])), (ma 39, .inl (G.2 0, 6, .inl g_3))] := by rw [eg_3]; exact hD
  refine lv_iconst (v := (-1)) hx hb dX9_no_15 (by decide) ?_
  have hP9 := hP.sub (ws' := []) [] rfl
  have hD9 := hD.sub (ws' := []) [] (by decide) rfl
  exact W.iret (v := (-1)) hx hb hr (fun t ht hW => ⟨⟨(-1), (), rfl, rfl, by rw [ht]; exact hP9, hD9⟩, hS.F ht⟩) hS.2.2 dX9_no_16
theorem dX9_isOpen_0 : decode cX9_isOpen 0 = .ok (.iload_n 1, 1) := by decide +kernel
theorem dX9_isOpen_1 : decode cX9_isOpen 1 = .ok (.ifCond .lt 27, 3) := by decide +kernel
theorem dX9_isOpen_4 : decode cX9_isOpen 4 = .ok (.iload_n 1, 1) := by decide +kernel
theorem dX9_isOpen_5 : decode cX9_isOpen 5 = .ok (.bipush 8, 2) := by decide +kernel
theorem dX9_isOpen_7 : decode cX9_isOpen 7 = .ok (.if_icmp .ge 21, 3) := by decide +kernel
theorem dX9_isOpen_10 : decode cX9_isOpen 10 = .ok (.aload_n 0, 1) := by decide +kernel
theorem dX9_isOpen_11 : decode cX9_isOpen 11 = .ok (.getfield 36, 3) := by decide +kernel
theorem dX9_isOpen_14 : decode cX9_isOpen 14 = .ok (.bipush 12, 2) := by decide +kernel
theorem dX9_isOpen_16 : decode cX9_isOpen 16 = .ok (.iload_n 1, 1) := by decide +kernel
theorem dX9_isOpen_17 : decode cX9_isOpen 17 = .ok (.imul, 1) := by decide +kernel
theorem dX9_isOpen_18 : decode cX9_isOpen 18 = .ok (.laload, 1) := by decide +kernel
theorem dX9_isOpen_19 : decode cX9_isOpen 19 = .ok (.lconst 1, 1) := by decide +kernel
theorem dX9_isOpen_20 : decode cX9_isOpen 20 = .ok (.lcmp, 1) := by decide +kernel
theorem dX9_isOpen_21 : decode cX9_isOpen 21 = .ok (.ifCond .ne 7, 3) := by decide +kernel
theorem dX9_isOpen_28 : decode cX9_isOpen 28 = .ok (.iconst 0, 1) := by decide +kernel
theorem dX9_isOpen_29 : decode cX9_isOpen 29 = .ok (.ireturn, 1) := by decide +kernel
set_option maxHeartbeats 4000000 in
set_option maxRecDepth 100000 in
theorem c_X9_isOpen (l : Launch) (G : xG) (m0 : Nat) (ma : Nat → Nat) (p0 : Int32)  : xRi l G yX9_isOpen cX9_isOpen 2 (some .boolean) 0 0 [.ref m0, .int p0] [(m0, .inr (9, [.int 0, .int 0, .int 0, .int (-1), .ref (ma 4), .ref (ma 5), .ref (ma 6), .ref (ma 7), .ref (ma 8), .ref (ma 9), .ref (ma 10), .ref (ma 11), .ref (ma 12), .ref (ma 13), .ref (ma 14), .ref (ma 15), .ref (ma 16), .ref (ma 17), .ref (ma 18), .ref (ma 19), .int 0, .ref (ma 21), .ref (ma 22), .ref (ma 23), .ref (ma 24), .ref (ma 25), .ref (ma 26), .ref (ma 27), .ref (ma 28), .ref (ma 29), .ref (ma 30), .ref (ma 31), .ref (ma 32), .ref (ma 33), .ref (ma 34), .ref (ma 35), .ref (ma 36), .ref (ma 37), .int 0, .ref (ma 39), .ref (ma 40), .ref (ma 41), .ref (ma 42), .ref (ma 43), .ref (ma 44), .ref (ma 45), .ref (ma 46), .ref (ma 47), .ref (ma 48), .int 0, .int 0, .int 0, .int 0, .int 0, .int 0, .int 0, .long 0, .int 0, .long 0, .long 0, .long 0, .long 0, .int 0, .int 0, .int 0, .int 0, .long 0])), (ma 11, .inl (G.2 4, 96, .inr (.inl (fun _ => 0))))] (fun r => r = 0) := by
  intro sz
  refine xstart (by decide) (Nat.le_of_ble_eq_true rfl) (fun p e s m args below meth c ls C0 hr hlocks hin hsz hP hK hD hN hl => ?_)
  obtain ⟨hx, hb, hml, hown, htl⟩ := id C0
  have hl : lv_has ls 2 [(0, .ref m0), (1, .int p0)] := hl
  refine lv_iload_n hx hb dX9_isOpen_0 rfl (lv_at hl 1 rfl) ?_
  refine lv_if_lt (tgt := 28) hx hb dX9_isOpen_1 (by decide) (fun c_1 => ?_) (fun c_1 => ?_)
  · refine lv_iconst (v := 0) hx hb dX9_isOpen_28 (by decide) ?_
    exact W.zret (v := 0) (ty := .boolean) hx hb hr rfl (fun t ht hW => ⟨0, rfl, rfl, ht⟩) (fun q hq => by cases hq) dX9_isOpen_29
  · refine lv_iload_n hx hb dX9_isOpen_4 rfl (lv_at hl 1 rfl) ?_
    refine lv_bipush (v := 8) hx hb dX9_isOpen_5 (by decide) ?_
    refine lv_icmp_ge (tgt := 28) hx hb dX9_isOpen_7 (by decide) (fun c_2 => ?_) (fun c_2 => ?_)
    · refine lv_iconst (v := 0) hx hb dX9_isOpen_28 (by decide) ?_
      exact W.zret (v := 0) (ty := .boolean) hx hb hr rfl (fun t ht hW => ⟨0, rfl, rfl, ht⟩) (fun q hq => by cases hq) dX9_isOpen_29
    · refine lv_aload_n hx hb dX9_isOpen_10 rfl (lv_at hl 0 rfl) ?_
      refine va_get (D := G.1) (ci := 9) (v := .ref (ma 11)) (C := RX9) (T := TX9) (N := 67) hx hb htl inlX9 hown hK hP 0 rfl rfl 11 (by decide) (htl (.fieldLink RX9 36 "LaytimeDeskModel" "ports" "[J") mW116) (fun _ h9 => h9) rfl dX9_isOpen_11 ?_
      refine lv_bipush (v := 12) hx hb dX9_isOpen_14 (by decide) ?_
      refine lv_iload_n hx hb dX9_isOpen_16 rfl (lv_at hl 1 rfl) ?_
      refine lv_imul hx hb dX9_isOpen_17 ?_
      refine lv_topi (fun z_3 ez_3 => ?_)
      refine va_lald hx hb hK hP 1 4 rfl rfl (xin96 c_1 c_2 ez_3) dX9_isOpen_18 ?_
      refine lv_topl (fun z_4 ez_4 => ?_)
      obtain rfl : z_4 = 0 := ez_4.trans (by first | rfl | decide +kernel)
      refine lv_lconst (v := 1) hx hb dX9_isOpen_19 (by decide) ?_
      refine W.lcmp hx hb dX9_isOpen_20 ?_
      refine lv_topi (fun z_5 ez_5 => ?_)
      obtain rfl : z_5 = (-1) := ez_5.trans (by first | rfl | decide +kernel)
      refine lv_if_ne (tgt := 28) hx hb dX9_isOpen_21 (by decide) (fun c_6 => ?_) (fun c_6 => absurd c_6 (by decide +kernel))
      refine lv_iconst (v := 0) hx hb dX9_isOpen_28 (by decide) ?_
      exact W.zret (v := 0) (ty := .boolean) hx hb hr rfl (fun t ht hW => ⟨0, rfl, rfl, ht⟩) (fun q hq => by cases hq) dX9_isOpen_29
theorem dX9_portWhy_0 : decode cX9_portWhy 0 = .ok (.iload_n 1, 1) := by decide +kernel
theorem dX9_portWhy_1 : decode cX9_portWhy 1 = .ok (.ifCond .lt 9, 3) := by decide +kernel
theorem dX9_portWhy_4 : decode cX9_portWhy 4 = .ok (.iload_n 1, 1) := by decide +kernel
theorem dX9_portWhy_5 : decode cX9_portWhy 5 = .ok (.bipush 8, 2) := by decide +kernel
theorem dX9_portWhy_7 : decode cX9_portWhy 7 = .ok (.if_icmp .lt 7, 3) := by decide +kernel
theorem dX9_portWhy_10 : decode cX9_portWhy 10 = .ok (.iconst 1, 1) := by decide +kernel
theorem dX9_portWhy_11 : decode cX9_portWhy 11 = .ok (.goto 16, 3) := by decide +kernel
theorem dX9_portWhy_14 : decode cX9_portWhy 14 = .ok (.aload_n 0, 1) := by decide +kernel
theorem dX9_portWhy_15 : decode cX9_portWhy 15 = .ok (.iload_n 1, 1) := by decide +kernel
theorem dX9_portWhy_16 : decode cX9_portWhy 16 = .ok (.invokevirtual 157, 3) := by decide +kernel
theorem dX9_portWhy_19 : decode cX9_portWhy 19 = .ok (.ifCond .eq 7, 3) := by decide +kernel
theorem dX9_portWhy_26 : decode cX9_portWhy 26 = .ok (.iconst 2, 1) := by decide +kernel
theorem dX9_portWhy_27 : decode cX9_portWhy 27 = .ok (.ireturn, 1) := by decide +kernel
set_option maxHeartbeats 4000000 in
set_option maxRecDepth 100000 in
theorem c_X9_portWhy (l : Launch) (G : xG) (m0 : Nat) (ma : Nat → Nat) (p0 : Int32)  : xRi l G yX9_portWhy cX9_portWhy 2 (some .int) 1 21 [.ref m0, .int p0] [(m0, .inr (9, [.int 0, .int 0, .int 0, .int (-1), .ref (ma 4), .ref (ma 5), .ref (ma 6), .ref (ma 7), .ref (ma 8), .ref (ma 9), .ref (ma 10), .ref (ma 11), .ref (ma 12), .ref (ma 13), .ref (ma 14), .ref (ma 15), .ref (ma 16), .ref (ma 17), .ref (ma 18), .ref (ma 19), .int 0, .ref (ma 21), .ref (ma 22), .ref (ma 23), .ref (ma 24), .ref (ma 25), .ref (ma 26), .ref (ma 27), .ref (ma 28), .ref (ma 29), .ref (ma 30), .ref (ma 31), .ref (ma 32), .ref (ma 33), .ref (ma 34), .ref (ma 35), .ref (ma 36), .ref (ma 37), .int 0, .ref (ma 39), .ref (ma 40), .ref (ma 41), .ref (ma 42), .ref (ma 43), .ref (ma 44), .ref (ma 45), .ref (ma 46), .ref (ma 47), .ref (ma 48), .int 0, .int 0, .int 0, .int 0, .int 0, .int 0, .int 0, .long 0, .int 0, .long 0, .long 0, .long 0, .long 0, .int 0, .int 0, .int 0, .int 0, .long 0])), (ma 11, .inl (G.2 4, 96, .inr (.inl (fun _ => 0))))] (fun r => x2 r) := by
  intro sz
  refine xstart (by decide) (Nat.le_of_ble_eq_true rfl) (fun p e s m args below meth c ls C0 hr hlocks hin hsz hP hK hD hN hl => ?_)
  obtain ⟨hx, hb, hml, hown, htl⟩ := id C0
  have hl : lv_has ls 2 [(0, .ref m0), (1, .int p0)] := hl
  refine lv_iload_n hx hb dX9_portWhy_0 rfl (lv_at hl 1 rfl) ?_
  refine lv_if_lt (tgt := 10) hx hb dX9_portWhy_1 (by decide) (fun c_1 => ?_) (fun c_1 => ?_)
  · refine lv_iconst (v := 1) hx hb dX9_portWhy_10 (by decide) ?_
    refine lv_goto (tgt := 27) hx hb dX9_portWhy_11 (by decide) ?_
    exact W.iret (v := 1) hx hb hr (fun t ht hW => ⟨1, rfl, (Or.inl rfl : x2 1), ht⟩) (fun q hq => by cases hq) dX9_portWhy_27
  · refine lv_iload_n hx hb dX9_portWhy_4 rfl (lv_at hl 1 rfl) ?_
    refine lv_bipush (v := 8) hx hb dX9_portWhy_5 (by decide) ?_
    refine lv_icmp_lt (tgt := 14) hx hb dX9_portWhy_7 (by decide) (fun c_2 => ?_) (fun c_2 => ?_)
    · refine lv_aload_n hx hb dX9_portWhy_14 rfl (lv_at hl 0 rfl) ?_
      refine lv_iload_n hx hb dX9_portWhy_15 rfl (lv_at hl 1 rfl) ?_
      refine xVri (rq := 0) (ci := 9) (wc := [(m0, .inr (9, [.int 0, .int 0, .int 0, .int (-1), .ref (ma 4), .ref (ma 5), .ref (ma 6), .ref (ma 7), .ref (ma 8), .ref (ma 9), .ref (ma 10), .ref (ma 11), .ref (ma 12), .ref (ma 13), .ref (ma 14), .ref (ma 15), .ref (ma 16), .ref (ma 17), .ref (ma 18), .ref (ma 19), .int 0, .ref (ma 21), .ref (ma 22), .ref (ma 23), .ref (ma 24), .ref (ma 25), .ref (ma 26), .ref (ma 27), .ref (ma 28), .ref (ma 29), .ref (ma 30), .ref (ma 31), .ref (ma 32), .ref (ma 33), .ref (ma 34), .ref (ma 35), .ref (ma 36), .ref (ma 37), .int 0, .ref (ma 39), .ref (ma 40), .ref (ma 41), .ref (ma 42), .ref (ma 43), .ref (ma 44), .ref (ma 45), .ref (ma 46), .ref (ma 47), .ref (ma 48), .int 0, .int 0, .int 0, .int 0, .int 0, .int 0, .int 0, .long 0, .int 0, .long 0, .long 0, .long 0, .long 0, .int 0, .int 0, .int 0, .int 0, .long 0])), (ma 11, .inl (G.2 4, 96, .inr (.inl (fun _ => 0))))]) (As := [.int p0]) (rest := []) C0 (c_X9_isOpen l G m0 ma p0) ok_X9_isOpen (mW391 : Cond.methodLink RX9 157 yX9_isOpen ∈ wsT) ⟨Nat.le_of_ble_eq_true rfl, Nat.le_of_ble_eq_true rfl⟩ hP hD hK hN [0, 1] rfl (by decide) rfl rfl rfl rfl hl.1 rfl (Nat.le_of_ble_eq_true rfl) ⟨Nat.le_of_ble_eq_true rfl, Nat.le_of_ble_eq_true rfl⟩ dX9_portWhy_16 (fun r_3 hr_3 => ?_)
      obtain rfl : r_3 = 0 := hr_3
      refine lv_if_eq (tgt := 26) hx hb dX9_portWhy_19 (by decide) (fun c_4 => ?_) (fun c_4 => absurd c_4 (by decide +kernel))
      refine lv_iconst (v := 2) hx hb dX9_portWhy_26 (by decide) ?_
      exact W.iret (v := 2) hx hb hr (fun t ht hW => ⟨2, rfl, (Or.inr rfl : x2 2), ht⟩) (fun q hq => by cases hq) dX9_portWhy_27
    · refine lv_iconst (v := 1) hx hb dX9_portWhy_10 (by decide) ?_
      refine lv_goto (tgt := 27) hx hb dX9_portWhy_11 (by decide) ?_
      exact W.iret (v := 1) hx hb hr (fun t ht hW => ⟨1, rfl, (Or.inl rfl : x2 1), ht⟩) (fun q hq => by cases hq) dX9_portWhy_27
theorem dX9_dayWhy_0 : decode cX9_dayWhy 0 = .ok (.aload_n 0, 1) := by decide +kernel
theorem dX9_dayWhy_1 : decode cX9_dayWhy 1 = .ok (.iload_n 1, 1) := by decide +kernel
theorem dX9_dayWhy_2 : decode cX9_dayWhy 2 = .ok (.invokevirtual 157, 3) := by decide +kernel
theorem dX9_dayWhy_5 : decode cX9_dayWhy 5 = .ok (.ifCond .eq 12, 3) := by decide +kernel
theorem dX9_dayWhy_17 : decode cX9_dayWhy 17 = .ok (.bipush 90, 2) := by decide +kernel
theorem dX9_dayWhy_19 : decode cX9_dayWhy 19 = .ok (.istore_n 3, 1) := by decide +kernel
theorem dX9_dayWhy_20 : decode cX9_dayWhy 20 = .ok (.iload_n 2, 1) := by decide +kernel
theorem dX9_dayWhy_21 : decode cX9_dayWhy 21 = .ok (.ifCond .lt 8, 3) := by decide +kernel
theorem dX9_dayWhy_24 : decode cX9_dayWhy 24 = .ok (.iload_n 2, 1) := by decide +kernel
theorem dX9_dayWhy_25 : decode cX9_dayWhy 25 = .ok (.iload_n 3, 1) := by decide +kernel
theorem dX9_dayWhy_26 : decode cX9_dayWhy 26 = .ok (.if_icmp .lt 7, 3) := by decide +kernel
theorem dX9_dayWhy_29 : decode cX9_dayWhy 29 = .ok (.iconst 1, 1) := by decide +kernel
theorem dX9_dayWhy_30 : decode cX9_dayWhy 30 = .ok (.goto 8, 3) := by decide +kernel
theorem dX9_dayWhy_33 : decode cX9_dayWhy 33 = .ok (.aload_n 0, 1) := by decide +kernel
theorem dX9_dayWhy_34 : decode cX9_dayWhy 34 = .ok (.iload_n 1, 1) := by decide +kernel
theorem dX9_dayWhy_35 : decode cX9_dayWhy 35 = .ok (.invokevirtual 165, 3) := by decide +kernel
theorem dX9_dayWhy_38 : decode cX9_dayWhy 38 = .ok (.ireturn, 1) := by decide +kernel
set_option maxHeartbeats 4000000 in
set_option maxRecDepth 100000 in
theorem c_X9_dayWhy (l : Launch) (G : xG) (m0 : Nat) (ma : Nat → Nat) (p0 : Int32) (p1 : Int32)  : xRi l G yX9_dayWhy cX9_dayWhy 4 (some .int) 2 42 [.ref m0, .int p0, .int p1] [(m0, .inr (9, [.int 0, .int 0, .int 0, .int (-1), .ref (ma 4), .ref (ma 5), .ref (ma 6), .ref (ma 7), .ref (ma 8), .ref (ma 9), .ref (ma 10), .ref (ma 11), .ref (ma 12), .ref (ma 13), .ref (ma 14), .ref (ma 15), .ref (ma 16), .ref (ma 17), .ref (ma 18), .ref (ma 19), .int 0, .ref (ma 21), .ref (ma 22), .ref (ma 23), .ref (ma 24), .ref (ma 25), .ref (ma 26), .ref (ma 27), .ref (ma 28), .ref (ma 29), .ref (ma 30), .ref (ma 31), .ref (ma 32), .ref (ma 33), .ref (ma 34), .ref (ma 35), .ref (ma 36), .ref (ma 37), .int 0, .ref (ma 39), .ref (ma 40), .ref (ma 41), .ref (ma 42), .ref (ma 43), .ref (ma 44), .ref (ma 45), .ref (ma 46), .ref (ma 47), .ref (ma 48), .int 0, .int 0, .int 0, .int 0, .int 0, .int 0, .int 0, .long 0, .int 0, .long 0, .long 0, .long 0, .long 0, .int 0, .int 0, .int 0, .int 0, .long 0])), (ma 11, .inl (G.2 4, 96, .inr (.inl (fun _ => 0))))] (fun r => x2 r) := by
  intro sz
  refine xstart (by decide) (Nat.le_of_ble_eq_true rfl) (fun p e s m args below meth c ls C0 hr hlocks hin hsz hP hK hD hN hl => ?_)
  obtain ⟨hx, hb, hml, hown, htl⟩ := id C0
  have hl : lv_has ls 4 [(0, .ref m0), (1, .int p0), (2, .int p1)] := hl
  refine lv_aload_n hx hb dX9_dayWhy_0 rfl (lv_at hl 0 rfl) ?_
  refine lv_iload_n hx hb dX9_dayWhy_1 rfl (lv_at hl 1 rfl) ?_
  refine xVri (rq := 0) (ci := 9) (wc := [(m0, .inr (9, [.int 0, .int 0, .int 0, .int (-1), .ref (ma 4), .ref (ma 5), .ref (ma 6), .ref (ma 7), .ref (ma 8), .ref (ma 9), .ref (ma 10), .ref (ma 11), .ref (ma 12), .ref (ma 13), .ref (ma 14), .ref (ma 15), .ref (ma 16), .ref (ma 17), .ref (ma 18), .ref (ma 19), .int 0, .ref (ma 21), .ref (ma 22), .ref (ma 23), .ref (ma 24), .ref (ma 25), .ref (ma 26), .ref (ma 27), .ref (ma 28), .ref (ma 29), .ref (ma 30), .ref (ma 31), .ref (ma 32), .ref (ma 33), .ref (ma 34), .ref (ma 35), .ref (ma 36), .ref (ma 37), .int 0, .ref (ma 39), .ref (ma 40), .ref (ma 41), .ref (ma 42), .ref (ma 43), .ref (ma 44), .ref (ma 45), .ref (ma 46), .ref (ma 47), .ref (ma 48), .int 0, .int 0, .int 0, .int 0, .int 0, .int 0, .int 0, .long 0, .int 0, .long 0, .long 0, .long 0, .long 0, .int 0, .int 0, .int 0, .int 0, .long 0])), (ma 11, .inl (G.2 4, 96, .inr (.inl (fun _ => 0))))]) (As := [.int p0]) (rest := []) C0 (c_X9_isOpen l G m0 ma p0) ok_X9_isOpen (mW391 : Cond.methodLink RX9 157 yX9_isOpen ∈ wsT) ⟨Nat.le_of_ble_eq_true rfl, Nat.le_of_ble_eq_true rfl⟩ hP hD hK hN [0, 1] rfl (by decide) rfl rfl rfl rfl hl.1 rfl (Nat.le_of_ble_eq_true rfl) ⟨Nat.le_of_ble_eq_true rfl, Nat.le_of_ble_eq_true rfl⟩ dX9_dayWhy_2 (fun r_1 hr_1 => ?_)
  obtain rfl : r_1 = 0 := hr_1
  refine lv_if_eq (tgt := 17) hx hb dX9_dayWhy_5 (by decide) (fun c_2 => ?_) (fun c_2 => absurd c_2 (by decide +kernel))
  refine lv_bipush (v := 90) hx hb dX9_dayWhy_17 (by decide) ?_
  refine lv_istore_n (lv' := [(3, .int 90), (0, .ref m0), (1, .int p0), (2, .int p1)]) hx hb dX9_dayWhy_19 rfl hl (by decide) rfl (fun ls hl => ?_)
  refine lv_iload_n hx hb dX9_dayWhy_20 rfl (lv_at hl 3 rfl) ?_
  refine lv_if_lt (tgt := 29) hx hb dX9_dayWhy_21 (by decide) (fun c_3 => ?_) (fun c_3 => ?_)
  · refine lv_iconst (v := 1) hx hb dX9_dayWhy_29 (by decide) ?_
    refine lv_goto (tgt := 38) hx hb dX9_dayWhy_30 (by decide) ?_
    exact W.iret (v := 1) hx hb hr (fun t ht hW => ⟨1, rfl, (Or.inl rfl : x2 1), ht⟩) (fun q hq => by cases hq) dX9_dayWhy_38
  · refine lv_iload_n hx hb dX9_dayWhy_24 rfl (lv_at hl 3 rfl) ?_
    refine lv_iload_n hx hb dX9_dayWhy_25 rfl (lv_at hl 0 rfl) ?_
    refine lv_icmp_lt (tgt := 33) hx hb dX9_dayWhy_26 (by decide) (fun c_4 => ?_) (fun c_4 => ?_)
    · refine lv_aload_n hx hb dX9_dayWhy_33 rfl (lv_at hl 1 rfl) ?_
      refine lv_iload_n hx hb dX9_dayWhy_34 rfl (lv_at hl 2 rfl) ?_
      refine xVri (rq := 0) (ci := 9) (wc := [(m0, .inr (9, [.int 0, .int 0, .int 0, .int (-1), .ref (ma 4), .ref (ma 5), .ref (ma 6), .ref (ma 7), .ref (ma 8), .ref (ma 9), .ref (ma 10), .ref (ma 11), .ref (ma 12), .ref (ma 13), .ref (ma 14), .ref (ma 15), .ref (ma 16), .ref (ma 17), .ref (ma 18), .ref (ma 19), .int 0, .ref (ma 21), .ref (ma 22), .ref (ma 23), .ref (ma 24), .ref (ma 25), .ref (ma 26), .ref (ma 27), .ref (ma 28), .ref (ma 29), .ref (ma 30), .ref (ma 31), .ref (ma 32), .ref (ma 33), .ref (ma 34), .ref (ma 35), .ref (ma 36), .ref (ma 37), .int 0, .ref (ma 39), .ref (ma 40), .ref (ma 41), .ref (ma 42), .ref (ma 43), .ref (ma 44), .ref (ma 45), .ref (ma 46), .ref (ma 47), .ref (ma 48), .int 0, .int 0, .int 0, .int 0, .int 0, .int 0, .int 0, .long 0, .int 0, .long 0, .long 0, .long 0, .long 0, .int 0, .int 0, .int 0, .int 0, .long 0])), (ma 11, .inl (G.2 4, 96, .inr (.inl (fun _ => 0))))]) (As := [.int p0]) (rest := []) C0 (c_X9_portWhy l G m0 ma p0) ok_X9_portWhy (mW387 : Cond.methodLink RX9 165 yX9_portWhy ∈ wsT) ⟨Nat.le_of_ble_eq_true rfl, Nat.le_of_ble_eq_true rfl⟩ hP hD hK hN [0, 1] rfl (by decide) rfl rfl rfl rfl hl.1 rfl (Nat.le_of_ble_eq_true rfl) ⟨Nat.le_of_ble_eq_true rfl, Nat.le_of_ble_eq_true rfl⟩ dX9_dayWhy_35 (fun r_5 hr_5 => ?_)
      exact W.iret (v := r_5) hx hb hr (fun t ht hW => ⟨r_5, rfl, hr_5, ht⟩) (fun q hq => by cases hq) dX9_dayWhy_38
    · refine lv_iconst (v := 1) hx hb dX9_dayWhy_29 (by decide) ?_
      refine lv_goto (tgt := 38) hx hb dX9_dayWhy_30 (by decide) ?_
      exact W.iret (v := 1) hx hb hr (fun t ht hW => ⟨1, rfl, (Or.inl rfl : x2 1), ht⟩) (fun q hq => by cases hq) dX9_dayWhy_38
theorem dX9_minuteWhy_0 : decode cX9_minuteWhy 0 = .ok (.aload_n 0, 1) := by decide +kernel
theorem dX9_minuteWhy_1 : decode cX9_minuteWhy 1 = .ok (.iload_n 1, 1) := by decide +kernel
theorem dX9_minuteWhy_2 : decode cX9_minuteWhy 2 = .ok (.invokevirtual 157, 3) := by decide +kernel
theorem dX9_minuteWhy_5 : decode cX9_minuteWhy 5 = .ok (.ifCond .eq 12, 3) := by decide +kernel
theorem dX9_minuteWhy_17 : decode cX9_minuteWhy 17 = .ok (.bipush 90, 2) := by decide +kernel
theorem dX9_minuteWhy_19 : decode cX9_minuteWhy 19 = .ok (.istore_n 3, 1) := by decide +kernel
theorem dX9_minuteWhy_20 : decode cX9_minuteWhy 20 = .ok (.iload_n 2, 1) := by decide +kernel
theorem dX9_minuteWhy_21 : decode cX9_minuteWhy 21 = .ok (.ifCond .lt 12, 3) := by decide +kernel
theorem dX9_minuteWhy_24 : decode cX9_minuteWhy 24 = .ok (.iload_n 2, 1) := by decide +kernel
theorem dX9_minuteWhy_25 : decode cX9_minuteWhy 25 = .ok (.sipush 1440, 3) := by decide +kernel
theorem dX9_minuteWhy_28 : decode cX9_minuteWhy 28 = .ok (.iload_n 3, 1) := by decide +kernel
theorem dX9_minuteWhy_29 : decode cX9_minuteWhy 29 = .ok (.imul, 1) := by decide +kernel
theorem dX9_minuteWhy_30 : decode cX9_minuteWhy 30 = .ok (.if_icmp .lt 7, 3) := by decide +kernel
theorem dX9_minuteWhy_33 : decode cX9_minuteWhy 33 = .ok (.iconst 1, 1) := by decide +kernel
theorem dX9_minuteWhy_34 : decode cX9_minuteWhy 34 = .ok (.goto 8, 3) := by decide +kernel
theorem dX9_minuteWhy_37 : decode cX9_minuteWhy 37 = .ok (.aload_n 0, 1) := by decide +kernel
theorem dX9_minuteWhy_38 : decode cX9_minuteWhy 38 = .ok (.iload_n 1, 1) := by decide +kernel
theorem dX9_minuteWhy_39 : decode cX9_minuteWhy 39 = .ok (.invokevirtual 165, 3) := by decide +kernel
theorem dX9_minuteWhy_42 : decode cX9_minuteWhy 42 = .ok (.ireturn, 1) := by decide +kernel
set_option maxHeartbeats 4000000 in
set_option maxRecDepth 100000 in
theorem c_X9_minuteWhy (l : Launch) (G : xG) (m0 : Nat) (ma : Nat → Nat) (p0 : Int32) (p1 : Int32)  : xRi l G yX9_minuteWhy cX9_minuteWhy 4 (some .int) 2 42 [.ref m0, .int p0, .int p1] [(m0, .inr (9, [.int 0, .int 0, .int 0, .int (-1), .ref (ma 4), .ref (ma 5), .ref (ma 6), .ref (ma 7), .ref (ma 8), .ref (ma 9), .ref (ma 10), .ref (ma 11), .ref (ma 12), .ref (ma 13), .ref (ma 14), .ref (ma 15), .ref (ma 16), .ref (ma 17), .ref (ma 18), .ref (ma 19), .int 0, .ref (ma 21), .ref (ma 22), .ref (ma 23), .ref (ma 24), .ref (ma 25), .ref (ma 26), .ref (ma 27), .ref (ma 28), .ref (ma 29), .ref (ma 30), .ref (ma 31), .ref (ma 32), .ref (ma 33), .ref (ma 34), .ref (ma 35), .ref (ma 36), .ref (ma 37), .int 0, .ref (ma 39), .ref (ma 40), .ref (ma 41), .ref (ma 42), .ref (ma 43), .ref (ma 44), .ref (ma 45), .ref (ma 46), .ref (ma 47), .ref (ma 48), .int 0, .int 0, .int 0, .int 0, .int 0, .int 0, .int 0, .long 0, .int 0, .long 0, .long 0, .long 0, .long 0, .int 0, .int 0, .int 0, .int 0, .long 0])), (ma 11, .inl (G.2 4, 96, .inr (.inl (fun _ => 0))))] (fun r => x2 r) := by
  intro sz
  refine xstart (by decide) (Nat.le_of_ble_eq_true rfl) (fun p e s m args below meth c ls C0 hr hlocks hin hsz hP hK hD hN hl => ?_)
  obtain ⟨hx, hb, hml, hown, htl⟩ := id C0
  have hl : lv_has ls 4 [(0, .ref m0), (1, .int p0), (2, .int p1)] := hl
  refine lv_aload_n hx hb dX9_minuteWhy_0 rfl (lv_at hl 0 rfl) ?_
  refine lv_iload_n hx hb dX9_minuteWhy_1 rfl (lv_at hl 1 rfl) ?_
  refine xVri (rq := 0) (ci := 9) (wc := [(m0, .inr (9, [.int 0, .int 0, .int 0, .int (-1), .ref (ma 4), .ref (ma 5), .ref (ma 6), .ref (ma 7), .ref (ma 8), .ref (ma 9), .ref (ma 10), .ref (ma 11), .ref (ma 12), .ref (ma 13), .ref (ma 14), .ref (ma 15), .ref (ma 16), .ref (ma 17), .ref (ma 18), .ref (ma 19), .int 0, .ref (ma 21), .ref (ma 22), .ref (ma 23), .ref (ma 24), .ref (ma 25), .ref (ma 26), .ref (ma 27), .ref (ma 28), .ref (ma 29), .ref (ma 30), .ref (ma 31), .ref (ma 32), .ref (ma 33), .ref (ma 34), .ref (ma 35), .ref (ma 36), .ref (ma 37), .int 0, .ref (ma 39), .ref (ma 40), .ref (ma 41), .ref (ma 42), .ref (ma 43), .ref (ma 44), .ref (ma 45), .ref (ma 46), .ref (ma 47), .ref (ma 48), .int 0, .int 0, .int 0, .int 0, .int 0, .int 0, .int 0, .long 0, .int 0, .long 0, .long 0, .long 0, .long 0, .int 0, .int 0, .int 0, .int 0, .long 0])), (ma 11, .inl (G.2 4, 96, .inr (.inl (fun _ => 0))))]) (As := [.int p0]) (rest := []) C0 (c_X9_isOpen l G m0 ma p0) ok_X9_isOpen (mW391 : Cond.methodLink RX9 157 yX9_isOpen ∈ wsT) ⟨Nat.le_of_ble_eq_true rfl, Nat.le_of_ble_eq_true rfl⟩ hP hD hK hN [0, 1] rfl (by decide) rfl rfl rfl rfl hl.1 rfl (Nat.le_of_ble_eq_true rfl) ⟨Nat.le_of_ble_eq_true rfl, Nat.le_of_ble_eq_true rfl⟩ dX9_minuteWhy_2 (fun r_1 hr_1 => ?_)
  obtain rfl : r_1 = 0 := hr_1
  refine lv_if_eq (tgt := 17) hx hb dX9_minuteWhy_5 (by decide) (fun c_2 => ?_) (fun c_2 => absurd c_2 (by decide +kernel))
  refine lv_bipush (v := 90) hx hb dX9_minuteWhy_17 (by decide) ?_
  refine lv_istore_n (lv' := [(3, .int 90), (0, .ref m0), (1, .int p0), (2, .int p1)]) hx hb dX9_minuteWhy_19 rfl hl (by decide) rfl (fun ls hl => ?_)
  refine lv_iload_n hx hb dX9_minuteWhy_20 rfl (lv_at hl 3 rfl) ?_
  refine lv_if_lt (tgt := 33) hx hb dX9_minuteWhy_21 (by decide) (fun c_3 => ?_) (fun c_3 => ?_)
  · refine lv_iconst (v := 1) hx hb dX9_minuteWhy_33 (by decide) ?_
    refine lv_goto (tgt := 42) hx hb dX9_minuteWhy_34 (by decide) ?_
    exact W.iret (v := 1) hx hb hr (fun t ht hW => ⟨1, rfl, (Or.inl rfl : x2 1), ht⟩) (fun q hq => by cases hq) dX9_minuteWhy_42
  · refine lv_iload_n hx hb dX9_minuteWhy_24 rfl (lv_at hl 3 rfl) ?_
    refine lv_sipush (v := 1440) hx hb dX9_minuteWhy_25 (by decide) ?_
    refine lv_iload_n hx hb dX9_minuteWhy_28 rfl (lv_at hl 0 rfl) ?_
    refine lv_imul hx hb dX9_minuteWhy_29 ?_
    refine lv_topi (fun z_4 ez_4 => ?_)
    obtain rfl : z_4 = 129600 := ez_4.trans (by first | rfl | decide +kernel)
    refine lv_icmp_lt (tgt := 37) hx hb dX9_minuteWhy_30 (by decide) (fun c_5 => ?_) (fun c_5 => ?_)
    · refine lv_aload_n hx hb dX9_minuteWhy_37 rfl (lv_at hl 1 rfl) ?_
      refine lv_iload_n hx hb dX9_minuteWhy_38 rfl (lv_at hl 2 rfl) ?_
      refine xVri (rq := 0) (ci := 9) (wc := [(m0, .inr (9, [.int 0, .int 0, .int 0, .int (-1), .ref (ma 4), .ref (ma 5), .ref (ma 6), .ref (ma 7), .ref (ma 8), .ref (ma 9), .ref (ma 10), .ref (ma 11), .ref (ma 12), .ref (ma 13), .ref (ma 14), .ref (ma 15), .ref (ma 16), .ref (ma 17), .ref (ma 18), .ref (ma 19), .int 0, .ref (ma 21), .ref (ma 22), .ref (ma 23), .ref (ma 24), .ref (ma 25), .ref (ma 26), .ref (ma 27), .ref (ma 28), .ref (ma 29), .ref (ma 30), .ref (ma 31), .ref (ma 32), .ref (ma 33), .ref (ma 34), .ref (ma 35), .ref (ma 36), .ref (ma 37), .int 0, .ref (ma 39), .ref (ma 40), .ref (ma 41), .ref (ma 42), .ref (ma 43), .ref (ma 44), .ref (ma 45), .ref (ma 46), .ref (ma 47), .ref (ma 48), .int 0, .int 0, .int 0, .int 0, .int 0, .int 0, .int 0, .long 0, .int 0, .long 0, .long 0, .long 0, .long 0, .int 0, .int 0, .int 0, .int 0, .long 0])), (ma 11, .inl (G.2 4, 96, .inr (.inl (fun _ => 0))))]) (As := [.int p0]) (rest := []) C0 (c_X9_portWhy l G m0 ma p0) ok_X9_portWhy (mW387 : Cond.methodLink RX9 165 yX9_portWhy ∈ wsT) ⟨Nat.le_of_ble_eq_true rfl, Nat.le_of_ble_eq_true rfl⟩ hP hD hK hN [0, 1] rfl (by decide) rfl rfl rfl rfl hl.1 rfl (Nat.le_of_ble_eq_true rfl) ⟨Nat.le_of_ble_eq_true rfl, Nat.le_of_ble_eq_true rfl⟩ dX9_minuteWhy_39 (fun r_6 hr_6 => ?_)
      exact W.iret (v := r_6) hx hb hr (fun t ht hW => ⟨r_6, rfl, hr_6, ht⟩) (fun q hq => by cases hq) dX9_minuteWhy_42
    · refine lv_iconst (v := 1) hx hb dX9_minuteWhy_33 (by decide) ?_
      refine lv_goto (tgt := 42) hx hb dX9_minuteWhy_34 (by decide) ?_
      exact W.iret (v := 1) hx hb hr (fun t ht hW => ⟨1, rfl, (Or.inl rfl : x2 1), ht⟩) (fun q hq => by cases hq) dX9_minuteWhy_42
theorem dX9_contractWhy_0 : decode cX9_contractWhy 0 = .ok (.iload_n 1, 1) := by decide +kernel
theorem dX9_contractWhy_1 : decode cX9_contractWhy 1 = .ok (.ifCond .lt 9, 3) := by decide +kernel
theorem dX9_contractWhy_4 : decode cX9_contractWhy 4 = .ok (.iload_n 1, 1) := by decide +kernel
theorem dX9_contractWhy_5 : decode cX9_contractWhy 5 = .ok (.bipush 40, 2) := by decide +kernel
theorem dX9_contractWhy_7 : decode cX9_contractWhy 7 = .ok (.if_icmp .lt 7, 3) := by decide +kernel
theorem dX9_contractWhy_10 : decode cX9_contractWhy 10 = .ok (.iconst 1, 1) := by decide +kernel
theorem dX9_contractWhy_11 : decode cX9_contractWhy 11 = .ok (.goto 16, 3) := by decide +kernel
theorem dX9_contractWhy_14 : decode cX9_contractWhy 14 = .ok (.iload_n 1, 1) := by decide +kernel
theorem dX9_contractWhy_15 : decode cX9_contractWhy 15 = .ok (.aload_n 0, 1) := by decide +kernel
theorem dX9_contractWhy_16 : decode cX9_contractWhy 16 = .ok (.getfield 150, 3) := by decide +kernel
theorem dX9_contractWhy_19 : decode cX9_contractWhy 19 = .ok (.if_icmp .lt 7, 3) := by decide +kernel
theorem dX9_contractWhy_22 : decode cX9_contractWhy 22 = .ok (.iconst 2, 1) := by decide +kernel
theorem dX9_contractWhy_23 : decode cX9_contractWhy 23 = .ok (.goto 4, 3) := by decide +kernel
theorem dX9_contractWhy_27 : decode cX9_contractWhy 27 = .ok (.ireturn, 1) := by decide +kernel
set_option maxHeartbeats 4000000 in
set_option maxRecDepth 100000 in
theorem c_X9_contractWhy (l : Launch) (G : xG) (m0 : Nat) (ma : Nat → Nat) (p0 : Int32)  : xRi l G yX9_contractWhy cX9_contractWhy 2 (some .int) 0 0 [.ref m0, .int p0] [(m0, .inr (9, [.int 0, .int 0, .int 0, .int (-1), .ref (ma 4), .ref (ma 5), .ref (ma 6), .ref (ma 7), .ref (ma 8), .ref (ma 9), .ref (ma 10), .ref (ma 11), .ref (ma 12), .ref (ma 13), .ref (ma 14), .ref (ma 15), .ref (ma 16), .ref (ma 17), .ref (ma 18), .ref (ma 19), .int 0, .ref (ma 21), .ref (ma 22), .ref (ma 23), .ref (ma 24), .ref (ma 25), .ref (ma 26), .ref (ma 27), .ref (ma 28), .ref (ma 29), .ref (ma 30), .ref (ma 31), .ref (ma 32), .ref (ma 33), .ref (ma 34), .ref (ma 35), .ref (ma 36), .ref (ma 37), .int 0, .ref (ma 39), .ref (ma 40), .ref (ma 41), .ref (ma 42), .ref (ma 43), .ref (ma 44), .ref (ma 45), .ref (ma 46), .ref (ma 47), .ref (ma 48), .int 0, .int 0, .int 0, .int 0, .int 0, .int 0, .int 0, .long 0, .int 0, .long 0, .long 0, .long 0, .long 0, .int 0, .int 0, .int 0, .int 0, .long 0]))] (fun r => x2 r) := by
  intro sz
  refine xstart (by decide) (Nat.le_of_ble_eq_true rfl) (fun p e s m args below meth c ls C0 hr hlocks hin hsz hP hK hD hN hl => ?_)
  obtain ⟨hx, hb, hml, hown, htl⟩ := id C0
  have hl : lv_has ls 2 [(0, .ref m0), (1, .int p0)] := hl
  refine lv_iload_n hx hb dX9_contractWhy_0 rfl (lv_at hl 1 rfl) ?_
  refine lv_if_lt (tgt := 10) hx hb dX9_contractWhy_1 (by decide) (fun c_1 => ?_) (fun c_1 => ?_)
  · refine lv_iconst (v := 1) hx hb dX9_contractWhy_10 (by decide) ?_
    refine lv_goto (tgt := 27) hx hb dX9_contractWhy_11 (by decide) ?_
    exact W.iret (v := 1) hx hb hr (fun t ht hW => ⟨1, rfl, (Or.inl rfl : x2 1), ht⟩) (fun q hq => by cases hq) dX9_contractWhy_27
  · refine lv_iload_n hx hb dX9_contractWhy_4 rfl (lv_at hl 1 rfl) ?_
    refine lv_bipush (v := 40) hx hb dX9_contractWhy_5 (by decide) ?_
    refine lv_icmp_lt (tgt := 14) hx hb dX9_contractWhy_7 (by decide) (fun c_2 => ?_) (fun c_2 => ?_)
    · refine lv_iload_n hx hb dX9_contractWhy_14 rfl (lv_at hl 1 rfl) ?_
      refine lv_aload_n hx hb dX9_contractWhy_15 rfl (lv_at hl 0 rfl) ?_
      refine va_get (D := G.1) (ci := 9) (v := .int 0) (C := RX9) (T := TX9) (N := 67) hx hb htl inlX9 hown hK hP 0 rfl rfl 0 (by decide) (htl (.fieldLink RX9 150 "LaytimeDeskModel" "contracts" "I") mW176) (fun _ h9 => h9) rfl dX9_contractWhy_16 ?_
      refine lv_icmp_lt (tgt := 26) hx hb dX9_contractWhy_19 (by decide) (fun c_3 => absurd c_3 c_1) (fun c_3 => ?_)
      refine lv_iconst (v := 2) hx hb dX9_contractWhy_22 (by decide) ?_
      refine lv_goto (tgt := 27) hx hb dX9_contractWhy_23 (by decide) ?_
      exact W.iret (v := 2) hx hb hr (fun t ht hW => ⟨2, rfl, (Or.inr rfl : x2 2), ht⟩) (fun q hq => by cases hq) dX9_contractWhy_27
    · refine lv_iconst (v := 1) hx hb dX9_contractWhy_10 (by decide) ?_
      refine lv_goto (tgt := 27) hx hb dX9_contractWhy_11 (by decide) ?_
      exact W.iret (v := 1) hx hb hr (fun t ht hW => ⟨1, rfl, (Or.inl rfl : x2 1), ht⟩) (fun q hq => by cases hq) dX9_contractWhy_27
theorem dX9_placeWhy_0 : decode cX9_placeWhy 0 = .ok (.iload_n 2, 1) := by decide +kernel
theorem dX9_placeWhy_1 : decode cX9_placeWhy 1 = .ok (.ifCond .lt 9, 3) := by decide +kernel
theorem dX9_placeWhy_4 : decode cX9_placeWhy 4 = .ok (.iload_n 2, 1) := by decide +kernel
theorem dX9_placeWhy_5 : decode cX9_placeWhy 5 = .ok (.bipush 60, 2) := by decide +kernel
theorem dX9_placeWhy_7 : decode cX9_placeWhy 7 = .ok (.if_icmp .lt 7, 3) := by decide +kernel
theorem dX9_placeWhy_10 : decode cX9_placeWhy 10 = .ok (.iconst 1, 1) := by decide +kernel
theorem dX9_placeWhy_11 : decode cX9_placeWhy 11 = .ok (.goto 8, 3) := by decide +kernel
theorem dX9_placeWhy_14 : decode cX9_placeWhy 14 = .ok (.aload_n 0, 1) := by decide +kernel
theorem dX9_placeWhy_15 : decode cX9_placeWhy 15 = .ok (.iload_n 1, 1) := by decide +kernel
theorem dX9_placeWhy_16 : decode cX9_placeWhy 16 = .ok (.invokevirtual 153, 3) := by decide +kernel
theorem dX9_placeWhy_19 : decode cX9_placeWhy 19 = .ok (.ireturn, 1) := by decide +kernel
set_option maxHeartbeats 4000000 in
set_option maxRecDepth 100000 in
theorem c_X9_placeWhy (l : Launch) (G : xG) (m0 : Nat) (ma : Nat → Nat) (p0 : Int32) (p1 : Int32)  : xRi l G yX9_placeWhy cX9_placeWhy 3 (some .int) 1 21 [.ref m0, .int p0, .int p1] [(m0, .inr (9, [.int 0, .int 0, .int 0, .int (-1), .ref (ma 4), .ref (ma 5), .ref (ma 6), .ref (ma 7), .ref (ma 8), .ref (ma 9), .ref (ma 10), .ref (ma 11), .ref (ma 12), .ref (ma 13), .ref (ma 14), .ref (ma 15), .ref (ma 16), .ref (ma 17), .ref (ma 18), .ref (ma 19), .int 0, .ref (ma 21), .ref (ma 22), .ref (ma 23), .ref (ma 24), .ref (ma 25), .ref (ma 26), .ref (ma 27), .ref (ma 28), .ref (ma 29), .ref (ma 30), .ref (ma 31), .ref (ma 32), .ref (ma 33), .ref (ma 34), .ref (ma 35), .ref (ma 36), .ref (ma 37), .int 0, .ref (ma 39), .ref (ma 40), .ref (ma 41), .ref (ma 42), .ref (ma 43), .ref (ma 44), .ref (ma 45), .ref (ma 46), .ref (ma 47), .ref (ma 48), .int 0, .int 0, .int 0, .int 0, .int 0, .int 0, .int 0, .long 0, .int 0, .long 0, .long 0, .long 0, .long 0, .int 0, .int 0, .int 0, .int 0, .long 0]))] (fun r => x2 r) := by
  intro sz
  refine xstart (by decide) (Nat.le_of_ble_eq_true rfl) (fun p e s m args below meth c ls C0 hr hlocks hin hsz hP hK hD hN hl => ?_)
  obtain ⟨hx, hb, hml, hown, htl⟩ := id C0
  have hl : lv_has ls 3 [(0, .ref m0), (1, .int p0), (2, .int p1)] := hl
  refine lv_iload_n hx hb dX9_placeWhy_0 rfl (lv_at hl 2 rfl) ?_
  refine lv_if_lt (tgt := 10) hx hb dX9_placeWhy_1 (by decide) (fun c_1 => ?_) (fun c_1 => ?_)
  · refine lv_iconst (v := 1) hx hb dX9_placeWhy_10 (by decide) ?_
    refine lv_goto (tgt := 19) hx hb dX9_placeWhy_11 (by decide) ?_
    exact W.iret (v := 1) hx hb hr (fun t ht hW => ⟨1, rfl, (Or.inl rfl : x2 1), ht⟩) (fun q hq => by cases hq) dX9_placeWhy_19
  · refine lv_iload_n hx hb dX9_placeWhy_4 rfl (lv_at hl 2 rfl) ?_
    refine lv_bipush (v := 60) hx hb dX9_placeWhy_5 (by decide) ?_
    refine lv_icmp_lt (tgt := 14) hx hb dX9_placeWhy_7 (by decide) (fun c_2 => ?_) (fun c_2 => ?_)
    · refine lv_aload_n hx hb dX9_placeWhy_14 rfl (lv_at hl 0 rfl) ?_
      refine lv_iload_n hx hb dX9_placeWhy_15 rfl (lv_at hl 1 rfl) ?_
      refine xVri (rq := 0) (ci := 9) (wc := [(m0, .inr (9, [.int 0, .int 0, .int 0, .int (-1), .ref (ma 4), .ref (ma 5), .ref (ma 6), .ref (ma 7), .ref (ma 8), .ref (ma 9), .ref (ma 10), .ref (ma 11), .ref (ma 12), .ref (ma 13), .ref (ma 14), .ref (ma 15), .ref (ma 16), .ref (ma 17), .ref (ma 18), .ref (ma 19), .int 0, .ref (ma 21), .ref (ma 22), .ref (ma 23), .ref (ma 24), .ref (ma 25), .ref (ma 26), .ref (ma 27), .ref (ma 28), .ref (ma 29), .ref (ma 30), .ref (ma 31), .ref (ma 32), .ref (ma 33), .ref (ma 34), .ref (ma 35), .ref (ma 36), .ref (ma 37), .int 0, .ref (ma 39), .ref (ma 40), .ref (ma 41), .ref (ma 42), .ref (ma 43), .ref (ma 44), .ref (ma 45), .ref (ma 46), .ref (ma 47), .ref (ma 48), .int 0, .int 0, .int 0, .int 0, .int 0, .int 0, .int 0, .long 0, .int 0, .long 0, .long 0, .long 0, .long 0, .int 0, .int 0, .int 0, .int 0, .long 0]))]) (As := [.int p0]) (rest := []) C0 (c_X9_contractWhy l G m0 ma p0) ok_X9_contractWhy (mW226 : Cond.methodLink RX9 153 yX9_contractWhy ∈ wsT) ⟨Nat.le_of_ble_eq_true rfl, Nat.le_of_ble_eq_true rfl⟩ hP hD hK hN [0] rfl (by decide) rfl rfl rfl rfl hl.1 rfl (Nat.le_of_ble_eq_true rfl) ⟨Nat.le_of_ble_eq_true rfl, Nat.le_of_ble_eq_true rfl⟩ dX9_placeWhy_16 (fun r_3 hr_3 => ?_)
      exact W.iret (v := r_3) hx hb hr (fun t ht hW => ⟨r_3, rfl, hr_3, ht⟩) (fun q hq => by cases hq) dX9_placeWhy_19
    · refine lv_iconst (v := 1) hx hb dX9_placeWhy_10 (by decide) ?_
      refine lv_goto (tgt := 19) hx hb dX9_placeWhy_11 (by decide) ?_
      exact W.iret (v := 1) hx hb hr (fun t ht hW => ⟨1, rfl, (Or.inl rfl : x2 1), ht⟩) (fun q hq => by cases hq) dX9_placeWhy_19
theorem dX9_termWhy_0 : decode cX9_termWhy 0 = .ok (.aload_n 0, 1) := by decide +kernel
theorem dX9_termWhy_1 : decode cX9_termWhy 1 = .ok (.iload_n 1, 1) := by decide +kernel
theorem dX9_termWhy_2 : decode cX9_termWhy 2 = .ok (.iload_n 2, 1) := by decide +kernel
theorem dX9_termWhy_3 : decode cX9_termWhy 3 = .ok (.invokevirtual 171, 3) := by decide +kernel
theorem dX9_termWhy_6 : decode cX9_termWhy 6 = .ok (.istore_n 3, 1) := by decide +kernel
theorem dX9_termWhy_7 : decode cX9_termWhy 7 = .ok (.iload_n 3, 1) := by decide +kernel
theorem dX9_termWhy_8 : decode cX9_termWhy 8 = .ok (.ifCond .eq 7, 3) := by decide +kernel
theorem dX9_termWhy_11 : decode cX9_termWhy 11 = .ok (.iload_n 3, 1) := by decide +kernel
theorem dX9_termWhy_12 : decode cX9_termWhy 12 = .ok (.goto 41, 3) := by decide +kernel
theorem dX9_termWhy_53 : decode cX9_termWhy 53 = .ok (.ireturn, 1) := by decide +kernel
set_option maxHeartbeats 4000000 in
set_option maxRecDepth 100000 in
theorem c_X9_termWhy (l : Launch) (G : xG) (m0 : Nat) (ma : Nat → Nat) (p0 : Int32) (p1 : Int32)  : xRi l G yX9_termWhy cX9_termWhy 4 (some .int) 2 43 [.ref m0, .int p0, .int p1] [(m0, .inr (9, [.int 0, .int 0, .int 0, .int (-1), .ref (ma 4), .ref (ma 5), .ref (ma 6), .ref (ma 7), .ref (ma 8), .ref (ma 9), .ref (ma 10), .ref (ma 11), .ref (ma 12), .ref (ma 13), .ref (ma 14), .ref (ma 15), .ref (ma 16), .ref (ma 17), .ref (ma 18), .ref (ma 19), .int 0, .ref (ma 21), .ref (ma 22), .ref (ma 23), .ref (ma 24), .ref (ma 25), .ref (ma 26), .ref (ma 27), .ref (ma 28), .ref (ma 29), .ref (ma 30), .ref (ma 31), .ref (ma 32), .ref (ma 33), .ref (ma 34), .ref (ma 35), .ref (ma 36), .ref (ma 37), .int 0, .ref (ma 39), .ref (ma 40), .ref (ma 41), .ref (ma 42), .ref (ma 43), .ref (ma 44), .ref (ma 45), .ref (ma 46), .ref (ma 47), .ref (ma 48), .int 0, .int 0, .int 0, .int 0, .int 0, .int 0, .int 0, .long 0, .int 0, .long 0, .long 0, .long 0, .long 0, .int 0, .int 0, .int 0, .int 0, .long 0]))] (fun r => x2 r) := by
  intro sz
  refine xstart (by decide) (Nat.le_of_ble_eq_true rfl) (fun p e s m args below meth c ls C0 hr hlocks hin hsz hP hK hD hN hl => ?_)
  obtain ⟨hx, hb, hml, hown, htl⟩ := id C0
  have hl : lv_has ls 4 [(0, .ref m0), (1, .int p0), (2, .int p1)] := hl
  refine lv_aload_n hx hb dX9_termWhy_0 rfl (lv_at hl 0 rfl) ?_
  refine lv_iload_n hx hb dX9_termWhy_1 rfl (lv_at hl 1 rfl) ?_
  refine lv_iload_n hx hb dX9_termWhy_2 rfl (lv_at hl 2 rfl) ?_
  refine xVri (rq := 0) (ci := 9) (wc := [(m0, .inr (9, [.int 0, .int 0, .int 0, .int (-1), .ref (ma 4), .ref (ma 5), .ref (ma 6), .ref (ma 7), .ref (ma 8), .ref (ma 9), .ref (ma 10), .ref (ma 11), .ref (ma 12), .ref (ma 13), .ref (ma 14), .ref (ma 15), .ref (ma 16), .ref (ma 17), .ref (ma 18), .ref (ma 19), .int 0, .ref (ma 21), .ref (ma 22), .ref (ma 23), .ref (ma 24), .ref (ma 25), .ref (ma 26), .ref (ma 27), .ref (ma 28), .ref (ma 29), .ref (ma 30), .ref (ma 31), .ref (ma 32), .ref (ma 33), .ref (ma 34), .ref (ma 35), .ref (ma 36), .ref (ma 37), .int 0, .ref (ma 39), .ref (ma 40), .ref (ma 41), .ref (ma 42), .ref (ma 43), .ref (ma 44), .ref (ma 45), .ref (ma 46), .ref (ma 47), .ref (ma 48), .int 0, .int 0, .int 0, .int 0, .int 0, .int 0, .int 0, .long 0, .int 0, .long 0, .long 0, .long 0, .long 0, .int 0, .int 0, .int 0, .int 0, .long 0]))]) (As := [.int p0, .int p1]) (rest := []) C0 (c_X9_placeWhy l G m0 ma p0 p1) ok_X9_placeWhy (mW222 : Cond.methodLink RX9 171 yX9_placeWhy ∈ wsT) ⟨Nat.le_of_ble_eq_true rfl, Nat.le_of_ble_eq_true rfl⟩ hP hD hK hN [0] rfl (by decide) rfl rfl rfl rfl hl.1 rfl (Nat.le_of_ble_eq_true rfl) ⟨Nat.le_of_ble_eq_true rfl, Nat.le_of_ble_eq_true rfl⟩ dX9_termWhy_3 (fun r_1 hr_1 => ?_)
  refine lv_istore_n (lv' := [(3, .int r_1), (0, .ref m0), (1, .int p0), (2, .int p1)]) hx hb dX9_termWhy_6 rfl hl (by decide) rfl (fun ls hl => ?_)
  refine lv_iload_n hx hb dX9_termWhy_7 rfl (lv_at hl 0 rfl) ?_
  refine lv_if_eq (tgt := 15) hx hb dX9_termWhy_8 (by decide) (fun c_2 => absurd c_2 (xn0 hr_1)) (fun c_2 => ?_)
  refine lv_iload_n hx hb dX9_termWhy_11 rfl (lv_at hl 0 rfl) ?_
  refine lv_goto (tgt := 53) hx hb dX9_termWhy_12 (by decide) ?_
  exact W.iret (v := r_1) hx hb hr (fun t ht hW => ⟨r_1, rfl, hr_1, ht⟩) (fun q hq => by cases hq) dX9_termWhy_53
theorem dX9_lesser_0 : decode cX9_lesser 0 = .ok (.iload_n 1, 1) := by decide +kernel
theorem dX9_lesser_1 : decode cX9_lesser 1 = .ok (.ifCond .ne 7, 3) := by decide +kernel
theorem dX9_lesser_4 : decode cX9_lesser 4 = .ok (.iload_n 2, 1) := by decide +kernel
theorem dX9_lesser_5 : decode cX9_lesser 5 = .ok (.goto 21, 3) := by decide +kernel
theorem dX9_lesser_8 : decode cX9_lesser 8 = .ok (.iload_n 2, 1) := by decide +kernel
theorem dX9_lesser_9 : decode cX9_lesser 9 = .ok (.ifCond .ne 7, 3) := by decide +kernel
theorem dX9_lesser_12 : decode cX9_lesser 12 = .ok (.iload_n 1, 1) := by decide +kernel
theorem dX9_lesser_13 : decode cX9_lesser 13 = .ok (.goto 13, 3) := by decide +kernel
theorem dX9_lesser_16 : decode cX9_lesser 16 = .ok (.iload_n 1, 1) := by decide +kernel
theorem dX9_lesser_17 : decode cX9_lesser 17 = .ok (.iload_n 2, 1) := by decide +kernel
theorem dX9_lesser_18 : decode cX9_lesser 18 = .ok (.if_icmp .ge 7, 3) := by decide +kernel
theorem dX9_lesser_21 : decode cX9_lesser 21 = .ok (.iload_n 1, 1) := by decide +kernel
theorem dX9_lesser_22 : decode cX9_lesser 22 = .ok (.goto 4, 3) := by decide +kernel
theorem dX9_lesser_25 : decode cX9_lesser 25 = .ok (.iload_n 2, 1) := by decide +kernel
theorem dX9_lesser_26 : decode cX9_lesser 26 = .ok (.ireturn, 1) := by decide +kernel
set_option maxHeartbeats 4000000 in
set_option maxRecDepth 100000 in
theorem c_X9_lesser (l : Launch) (G : xG) (m0 : Nat) (p1 : Int32) (p2 : Int32)  : xRi l G yX9_lesser cX9_lesser 3 (some .int) 0 0 [.ref m0, .int p1, .int p2] [] (fun r => r = xles p1 p2) := by
  intro sz
  refine xstart (by decide) (Nat.le_of_ble_eq_true rfl) (fun p e s m args below meth c ls C0 hr hlocks hin hsz hP hK hD hN hl => ?_)
  obtain ⟨hx, hb, hml, hown, htl⟩ := id C0
  have hl : lv_has ls 3 [(0, .ref m0), (1, .int p1), (2, .int p2)] := hl
  refine lv_iload_n hx hb dX9_lesser_0 rfl (lv_at hl 1 rfl) ?_
  refine lv_if_ne (tgt := 8) hx hb dX9_lesser_1 (by decide) (fun c_1 => ?_) (fun c_1 => ?_)
  · refine lv_iload_n hx hb dX9_lesser_8 rfl (lv_at hl 2 rfl) ?_
    refine lv_if_ne (tgt := 16) hx hb dX9_lesser_9 (by decide) (fun c_2 => ?_) (fun c_2 => ?_)
    · refine lv_iload_n hx hb dX9_lesser_16 rfl (lv_at hl 1 rfl) ?_
      refine lv_iload_n hx hb dX9_lesser_17 rfl (lv_at hl 2 rfl) ?_
      refine lv_icmp_ge (tgt := 25) hx hb dX9_lesser_18 (by decide) (fun c_3 => ?_) (fun c_3 => ?_)
      · refine lv_iload_n hx hb dX9_lesser_25 rfl (lv_at hl 2 rfl) ?_
        exact W.iret (v := p2) hx hb hr (fun t ht hW => ⟨p2, rfl, ((if_neg c_1).trans ((if_neg c_2).trans (if_neg (Int32.not_lt.mpr c_3)))).symm, ht⟩) (fun q hq => by cases hq) dX9_lesser_26
      · refine lv_iload_n hx hb dX9_lesser_21 rfl (lv_at hl 1 rfl) ?_
        refine lv_goto (tgt := 26) hx hb dX9_lesser_22 (by decide) ?_
        exact W.iret (v := p1) hx hb hr (fun t ht hW => ⟨p1, rfl, ((if_neg c_1).trans ((if_neg c_2).trans (if_pos (Int32.not_le.mp c_3)))).symm, ht⟩) (fun q hq => by cases hq) dX9_lesser_26
    · refine lv_iload_n hx hb dX9_lesser_12 rfl (lv_at hl 1 rfl) ?_
      refine lv_goto (tgt := 26) hx hb dX9_lesser_13 (by decide) ?_
      exact W.iret (v := p1) hx hb hr (fun t ht hW => ⟨p1, rfl, ((if_neg c_1).trans (if_pos c_2)).symm, ht⟩) (fun q hq => by cases hq) dX9_lesser_26
  · refine lv_iload_n hx hb dX9_lesser_4 rfl (lv_at hl 2 rfl) ?_
    refine lv_goto (tgt := 26) hx hb dX9_lesser_5 (by decide) ?_
    exact W.iret (v := p2) hx hb hr (fun t ht hW => ⟨p2, rfl, (if_pos c_1).symm, ht⟩) (fun q hq => by cases hq) dX9_lesser_26
