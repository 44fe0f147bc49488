theorem dX9_put_0 : decode cX9_put 0 = .ok (.lload_n 3, 1) := by decide +kernel
theorem dX9_put_1 : decode cX9_put 1 = .ok (.lconst 0, 1) := by decide +kernel
theorem dX9_put_2 : decode cX9_put 2 = .ok (.lcmp, 1) := by decide +kernel
theorem dX9_put_3 : decode cX9_put 3 = .ok (.ifCond .lt 10, 3) := by decide +kernel
theorem dX9_put_6 : decode cX9_put 6 = .ok (.lload_n 3, 1) := by decide +kernel
theorem dX9_put_7 : decode cX9_put 7 = .ok (.lload 5, 2) := by decide +kernel
theorem dX9_put_9 : decode cX9_put 9 = .ok (.lcmp, 1) := by decide +kernel
theorem dX9_put_10 : decode cX9_put 10 = .ok (.ifCond .le 7, 3) := by decide +kernel
theorem dX9_put_13 : decode cX9_put 13 = .ok (.iconst 1, 1) := by decide +kernel
theorem dX9_put_14 : decode cX9_put 14 = .ok (.goto 8, 3) := by decide +kernel
theorem dX9_put_17 : decode cX9_put 17 = .ok (.aload_n 0, 1) := by decide +kernel
theorem dX9_put_18 : decode cX9_put 18 = .ok (.iload_n 1, 1) := by decide +kernel
theorem dX9_put_19 : decode cX9_put 19 = .ok (.invokevirtual 165, 3) := by decide +kernel
theorem dX9_put_22 : decode cX9_put 22 = .ok (.istore 7, 2) := by decide +kernel
theorem dX9_put_24 : decode cX9_put 24 = .ok (.iload 7, 2) := by decide +kernel
theorem dX9_put_26 : decode cX9_put 26 = .ok (.ifCond .eq 12, 3) := by decide +kernel
theorem dX9_put_29 : decode cX9_put 29 = .ok (.aload_n 0, 1) := by decide +kernel
theorem dX9_put_30 : decode cX9_put 30 = .ok (.iload 7, 2) := by decide +kernel
theorem dX9_put_32 : decode cX9_put 32 = .ok (.invokevirtual 168, 3) := by decide +kernel
theorem dX9_put_35 : decode cX9_put 35 = .ok (.pop, 1) := by decide +kernel
theorem dX9_put_36 : decode cX9_put 36 = .ok (.iconst 0, 1) := by decide +kernel
theorem dX9_put_37 : decode cX9_put 37 = .ok (.ireturn, 1) := by decide +kernel
set_option maxHeartbeats 4000000 in
set_option maxRecDepth 100000 in
theorem c_X9_put (l : Launch) (G : xG) (m0 : Nat) (ma : Nat → Nat) (p0 : Int32) (p1 : Int32) (p2 : Int64) (p3 : Int64)  : xWi l G yX9_put cX9_put 8 (some .boolean) 2 42 0 0 [.ref m0, .int p0, .int p1, .long p2, .long p3] [(m0, .inr (9, [.int 0, .int 0, .int 0, .int (-1), .ref (ma 4), .ref (ma 5), .ref (ma 6), .ref (ma 7), .ref (ma 8), .ref (ma 9), .ref (ma 10), .ref (ma 11), .ref (ma 12), .ref (ma 13), .ref (ma 14), .ref (ma 15), .ref (ma 16), .ref (ma 17), .ref (ma 18), .ref (ma 19), .int 0, .ref (ma 21), .ref (ma 22), .ref (ma 23), .ref (ma 24), .ref (ma 25), .ref (ma 26), .ref (ma 27), .ref (ma 28), .ref (ma 29), .ref (ma 30), .ref (ma 31), .ref (ma 32), .ref (ma 33), .ref (ma 34), .ref (ma 35), .ref (ma 36), .ref (ma 37), .int 0, .ref (ma 39), .ref (ma 40), .ref (ma 41), .ref (ma 42), .ref (ma 43), .ref (ma 44), .ref (ma 45), .ref (ma 46), .ref (ma 47), .ref (ma 48), .int 0, .int 0, .int 0, .int 0, .int 0, .int 0, .int 0, .long 0, .int 0, .long 0, .long 0, .long 0, .long 0, .int 0, .int 0, .int 0, .int 0, .long 0])), (ma 39, .inl (G.2 0, 6, .inl (fun _ => 0))), (ma 11, .inl (G.2 4, 96, .inr (.inl (fun _ => 0))))] (S := Unit) (fun r _ => r = 0) (fun _ => []) := by
  intro sz
  refine xstart (by decide) (Nat.le_of_ble_eq_true rfl) (fun p e s m args below meth c ls C0 hr hlocks hin hsz hP hK hD hN hl => ?_)
  obtain ⟨hx, hb, hml, hown, htl⟩ := id C0
  subst hsz
  have hD := hD.self (sz := s.heap.size)
  generalize hAe : va_A [(m0, .inr (9, [.int 0, .int 0, .int 0, .int (-1), .ref (ma 4), .ref (ma 5), .ref (ma 6), .ref (ma 7), .ref (ma 8), .ref (ma 9), .ref (ma 10), .ref (ma 11), .ref (ma 12), .ref (ma 13), .ref (ma 14), .ref (ma 15), .ref (ma 16), .ref (ma 17), .ref (ma 18), .ref (ma 19), .int 0, .ref (ma 21), .ref (ma 22), .ref (ma 23), .ref (ma 24), .ref (ma 25), .ref (ma 26), .ref (ma 27), .ref (ma 28), .ref (ma 29), .ref (ma 30), .ref (ma 31), .ref (ma 32), .ref (ma 33), .ref (ma 34), .ref (ma 35), .ref (ma 36), .ref (ma 37), .int 0, .ref (ma 39), .ref (ma 40), .ref (ma 41), .ref (ma 42), .ref (ma 43), .ref (ma 44), .ref (ma 45), .ref (ma 46), .ref (ma 47), .ref (ma 48), .int 0, .int 0, .int 0, .int 0, .int 0, .int 0, .int 0, .long 0, .int 0, .long 0, .long 0, .long 0, .long 0, .int 0, .int 0, .int 0, .int 0, .long 0])), (ma 39, .inl (G.2 0, 6, .inl (fun _ => 0))), (ma 11, .inl (G.2 4, 96, .inr (.inl (fun _ => 0))))] s.heap.size = A at hD ⊢
  have hA : ∀ q : Nat, s.heap.size ≤ q → A q := fun q h => by rw [← hAe]; exact Or.inr h
  have hS : va_S A s.heap s.heap [] := va_S.rf
  have hl : lv_has ls 8 [(0, .ref m0), (1, .int p0), (2, .int p1), (3, .long p2), (5, .long p3)] := hl
  refine lv_lload_n hx hb dX9_put_0 rfl (lv_at hl 3 rfl) ?_
  refine lv_lconst (v := 0) hx hb dX9_put_1 (by decide) ?_
  refine W.lcmp hx hb dX9_put_2 ?_
  refine lv_topi (fun z_1 ez_1 => ?_)
  refine lv_if_lt (tgt := 13) hx hb dX9_put_3 (by decide) (fun c_2 => ?_) (fun c_2 => ?_)
  · refine lv_iconst (v := 1) hx hb dX9_put_13 (by decide) ?_
    refine lv_goto (tgt := 22) hx hb dX9_put_14 (by decide) ?_
    refine lv_istore (lv' := [(7, .int 1), (0, .ref m0), (1, .int p0), (2, .int p1), (3, .long p2), (5, .long p3)]) hx hb dX9_put_22 hl (by decide) rfl (fun ls hl => ?_)
    refine lv_iload hx hb dX9_put_24 (lv_at hl 0 rfl) ?_
    refine lv_if_eq (tgt := 38) hx hb dX9_put_26 (by decide) (fun c_3 => absurd c_3 (by decide +kernel)) (fun c_3 => ?_)
    refine lv_aload_n hx hb dX9_put_29 rfl (lv_at hl 1 rfl) ?_
    refine lv_iload hx hb dX9_put_30 (lv_at hl 0 rfl) ?_
    refine xVwi (rq := 0) (ci := 9) (wc := [(m0, .inr (9, [.int 0, .int 0, .int 0, .int (-1), .ref (ma 4), .ref (ma 5), .ref (ma 6), .ref (ma 7), .ref (ma 8), .ref (ma 9), .ref (ma 10), .ref (ma 11), .ref (ma 12), .ref (ma 13), .ref (ma 14), .ref (ma 15), .ref (ma 16), .ref (ma 17), .ref (ma 18), .ref (ma 19), .int 0, .ref (ma 21), .ref (ma 22), .ref (ma 23), .ref (ma 24), .ref (ma 25), .ref (ma 26), .ref (ma 27), .ref (ma 28), .ref (ma 29), .ref (ma 30), .ref (ma 31), .ref (ma 32), .ref (ma 33), .ref (ma 34), .ref (ma 35), .ref (ma 36), .ref (ma 37), .int 0, .ref (ma 39), .ref (ma 40), .ref (ma 41), .ref (ma 42), .ref (ma 43), .ref (ma 44), .ref (ma 45), .ref (ma 46), .ref (ma 47), .ref (ma 48), .int 0, .int 0, .int 0, .int 0, .int 0, .int 0, .int 0, .long 0, .int 0, .long 0, .long 0, .long 0, .long 0, .int 0, .int 0, .int 0, .int 0, .long 0])), (ma 39, .inl (G.2 0, 6, .inl (fun _ => 0)))]) (wr := [(ma 11, .inl (G.2 4, 96, .inr (.inl (fun _ => 0))))]) (As := [.int 1]) (rest := []) C0 (c_X9_no l G m0 ma 1 (by unfold vp_in; decide +kernel)) ok_X9_no (mW177 : Cond.methodLink RX9 168 yX9_no ∈ wsT) ⟨Nat.le_of_ble_eq_true rfl, Nat.le_of_ble_eq_true rfl⟩ hP hD hS hA hK hN [0, 1] [2] rfl rfl (by decide) (by decide) (by decide) rfl rfl rfl rfl hl.1 rfl (Nat.le_of_ble_eq_true rfl) ⟨Nat.le_of_ble_eq_true rfl, Nat.le_of_ble_eq_true rfl⟩ dX9_put_32 (fun r_4 u_5 H locs hr_4 hP hD hS => ?_)
    have hP : va_P G.1 xcl [(ma 11, .inl (G.2 4, 96, .inr (.inl (fun _ => 0))))] H := hP
    have hD : va_D A [(ma 11, .inl (G.2 4, 96, .inr (.inl (fun _ => 0))))] := hD
    obtain rfl : r_4 = (-1) := hr_4
    refine lv_pop hx hb dX9_put_35 rfl ?_
    refine lv_iconst (v := 0) hx hb dX9_put_36 (by decide) ?_
    have hP9 := hP.sub (ws' := []) [] rfl
    have hD9 := hD.sub (ws' := []) [] (by decide) rfl
    exact W.zret (v := 0) (ty := .boolean) hx hb hr rfl (fun t ht hW => ⟨⟨0, (), rfl, rfl, by rw [ht]; exact hP9, hD9⟩, hS.F ht⟩) hS.2.2 dX9_put_37
  · refine lv_lload_n hx hb dX9_put_6 rfl (lv_at hl 3 rfl) ?_
    refine lv_lload hx hb dX9_put_7 (lv_at hl 4 rfl) ?_
    refine W.lcmp hx hb dX9_put_9 ?_
    refine lv_topi (fun z_6 ez_6 => ?_)
    refine lv_if_le (tgt := 17) hx hb dX9_put_10 (by decide) (fun c_7 => ?_) (fun c_7 => ?_)
    · refine lv_aload_n hx hb dX9_put_17 rfl (lv_at hl 0 rfl) ?_
      refine lv_iload_n hx hb dX9_put_18 rfl (lv_at hl 1 rfl) ?_
      refine xVri (rq := 0) (ci := 9) (wc := [(m0, .inr (9, [.int 0, .int 0, .int 0, .int (-1), .ref (ma 4), .ref (ma 5), .ref (ma 6), .ref (ma 7), .ref (ma 8), .ref (ma 9), .ref (ma 10), .ref (ma 11), .ref (ma 12), .ref (ma 13), .ref (ma 14), .ref (ma 15), .ref (ma 16), .ref (ma 17), .ref (ma 18), .ref (ma 19), .int 0, .ref (ma 21), .ref (ma 22), .ref (ma 23), .ref (ma 24), .ref (ma 25), .ref (ma 26), .ref (ma 27), .ref (ma 28), .ref (ma 29), .ref (ma 30), .ref (ma 31), .ref (ma 32), .ref (ma 33), .ref (ma 34), .ref (ma 35), .ref (ma 36), .ref (ma 37), .int 0, .ref (ma 39), .ref (ma 40), .ref (ma 41), .ref (ma 42), .ref (ma 43), .ref (ma 44), .ref (ma 45), .ref (ma 46), .ref (ma 47), .ref (ma 48), .int 0, .int 0, .int 0, .int 0, .int 0, .int 0, .int 0, .long 0, .int 0, .long 0, .long 0, .long 0, .long 0, .int 0, .int 0, .int 0, .int 0, .long 0])), (ma 11, .inl (G.2 4, 96, .inr (.inl (fun _ => 0))))]) (As := [.int p0]) (rest := []) C0 (c_X9_portWhy l G m0 ma p0) ok_X9_portWhy (mW387 : Cond.methodLink RX9 165 yX9_portWhy ∈ wsT) ⟨Nat.le_of_ble_eq_true rfl, Nat.le_of_ble_eq_true rfl⟩ hP hD hK hN [0, 2] rfl (by decide) rfl rfl rfl rfl hl.1 rfl (Nat.le_of_ble_eq_true rfl) ⟨Nat.le_of_ble_eq_true rfl, Nat.le_of_ble_eq_true rfl⟩ dX9_put_19 (fun r_8 hr_8 => ?_)
      refine lv_istore (lv' := [(7, .int r_8), (0, .ref m0), (1, .int p0), (2, .int p1), (3, .long p2), (5, .long p3)]) hx hb dX9_put_22 hl (by decide) rfl (fun ls hl => ?_)
      refine lv_iload hx hb dX9_put_24 (lv_at hl 0 rfl) ?_
      refine lv_if_eq (tgt := 38) hx hb dX9_put_26 (by decide) (fun c_9 => absurd c_9 (xn0 hr_8)) (fun c_9 => ?_)
      refine lv_aload_n hx hb dX9_put_29 rfl (lv_at hl 1 rfl) ?_
      refine lv_iload hx hb dX9_put_30 (lv_at hl 0 rfl) ?_
      refine xVwi (rq := 0) (ci := 9) (wc := [(m0, .inr (9, [.int 0, .int 0, .int 0, .int (-1), .ref (ma 4), .ref (ma 5), .ref (ma 6), .ref (ma 7), .ref (ma 8), .ref (ma 9), .ref (ma 10), .ref (ma 11), .ref (ma 12), .ref (ma 13), .ref (ma 14), .ref (ma 15), .ref (ma 16), .ref (ma 17), .ref (ma 18), .ref (ma 19), .int 0, .ref (ma 21), .ref (ma 22), .ref (ma 23), .ref (ma 24), .ref (ma 25), .ref (ma 26), .ref (ma 27), .ref (ma 28), .ref (ma 29), .ref (ma 30), .ref (ma 31), .ref (ma 32), .ref (ma 33), .ref (ma 34), .ref (ma 35), .ref (ma 36), .ref (ma 37), .int 0, .ref (ma 39), .ref (ma 40), .ref (ma 41), .ref (ma 42), .ref (ma 43), .ref (ma 44), .ref (ma 45), .ref (ma 46), .ref (ma 47), .ref (ma 48), .int 0, .int 0, .int 0, .int 0, .int 0, .int 0, .int 0, .long 0, .int 0, .long 0, .long 0, .long 0, .long 0, .int 0, .int 0, .int 0, .int 0, .long 0])), (ma 39, .inl (G.2 0, 6, .inl (fun _ => 0)))]) (wr := [(ma 11, .inl (G.2 4, 96, .inr (.inl (fun _ => 0))))]) (As := [.int r_8]) (rest := []) C0 (c_X9_no l G m0 ma r_8 (xin6 hr_8)) ok_X9_no (mW177 : Cond.methodLink RX9 168 yX9_no ∈ wsT) ⟨Nat.le_of_ble_eq_true rfl, Nat.le_of_ble_eq_true rfl⟩ hP hD hS hA hK hN [0, 1] [2] rfl rfl (by decide) (by decide) (by decide) rfl rfl rfl rfl hl.1 rfl (Nat.le_of_ble_eq_true rfl) ⟨Nat.le_of_ble_eq_true rfl, Nat.le_of_ble_eq_true rfl⟩ dX9_put_32 (fun r_10 u_11 H locs hr_10 hP hD hS => ?_)
      have hP : va_P G.1 xcl [(ma 11, .inl (G.2 4, 96, .inr (.inl (fun _ => 0))))] H := hP
      have hD : va_D A [(ma 11, .inl (G.2 4, 96, .inr (.inl (fun _ => 0))))] := hD
      obtain rfl : r_10 = (-1) := hr_10
      refine lv_pop hx hb dX9_put_35 rfl ?_
      refine lv_iconst (v := 0) hx hb dX9_put_36 (by decide) ?_
      have hP9 := hP.sub (ws' := []) [] rfl
      have hD9 := hD.sub (ws' := []) [] (by decide) rfl
      exact W.zret (v := 0) (ty := .boolean) hx hb hr rfl (fun t ht hW => ⟨⟨0, (), rfl, rfl, by rw [ht]; exact hP9, hD9⟩, hS.F ht⟩) hS.2.2 dX9_put_37
    · refine lv_iconst (v := 1) hx hb dX9_put_13 (by decide) ?_
      refine lv_goto (tgt := 22) hx hb dX9_put_14 (by decide) ?_
      refine lv_istore (lv' := [(7, .int 1), (0, .ref m0), (1, .int p0), (2, .int p1), (3, .long p2), (5, .long p3)]) hx hb dX9_put_22 hl (by decide) rfl (fun ls hl => ?_)
      refine lv_iload hx hb dX9_put_24 (lv_at hl 0 rfl) ?_
      refine lv_if_eq (tgt := 38) hx hb dX9_put_26 (by decide) (fun c_12 => absurd c_12 (by decide +kernel)) (fun c_12 => ?_)
      refine lv_aload_n hx hb dX9_put_29 rfl (lv_at hl 1 rfl) ?_
      refine lv_iload hx hb dX9_put_30 (lv_at hl 0 rfl) ?_
      refine xVwi (rq := 0) (ci := 9) (wc := [(m0, .inr (9, [.int 0, .int 0, .int 0, .int (-1), .ref (ma 4), .ref (ma 5), .ref (ma 6), .ref (ma 7), .ref (ma 8), .ref (ma 9), .ref (ma 10), .ref (ma 11), .ref (ma 12), .ref (ma 13), .ref (ma 14), .ref (ma 15), .ref (ma 16), .ref (ma 17), .ref (ma 18), .ref (ma 19), .int 0, .ref (ma 21), .ref (ma 22), .ref (ma 23), .ref (ma 24), .ref (ma 25), .ref (ma 26), .ref (ma 27), .ref (ma 28), .ref (ma 29), .ref (ma 30), .ref (ma 31), .ref (ma 32), .ref (ma 33), .ref (ma 34), .ref (ma 35), .ref (ma 36), .ref (ma 37), .int 0, .ref (ma 39), .ref (ma 40), .ref (ma 41), .ref (ma 42), .ref (ma 43), .ref (ma 44), .ref (ma 45), .ref (ma 46), .ref (ma 47), .ref (ma 48), .int 0, .int 0, .int 0, .int 0, .int 0, .int 0, .int 0, .long 0, .int 0, .long 0, .long 0, .long 0, .long 0, .int 0, .int 0, .int 0, .int 0, .long 0])), (ma 39, .inl (G.2 0, 6, .inl (fun _ => 0)))]) (wr := [(ma 11, .inl (G.2 4, 96, .inr (.inl (fun _ => 0))))]) (As := [.int 1]) (rest := []) C0 (c_X9_no l G m0 ma 1 (by unfold vp_in; decide +kernel)) ok_X9_no (mW177 : Cond.methodLink RX9 168 yX9_no ∈ wsT) ⟨Nat.le_of_ble_eq_true rfl, Nat.le_of_ble_eq_true rfl⟩ hP hD hS hA hK hN [0, 1] [2] rfl rfl (by decide) (by decide) (by decide) rfl rfl rfl rfl hl.1 rfl (Nat.le_of_ble_eq_true rfl) ⟨Nat.le_of_ble_eq_true rfl, Nat.le_of_ble_eq_true rfl⟩ dX9_put_32 (fun r_13 u_14 H locs hr_13 hP hD hS => ?_)
      have hP : va_P G.1 xcl [(ma 11, .inl (G.2 4, 96, .inr (.inl (fun _ => 0))))] H := hP
      have hD : va_D A [(ma 11, .inl (G.2 4, 96, .inr (.inl (fun _ => 0))))] := hD
      obtain rfl : r_13 = (-1) := hr_13
      refine lv_pop hx hb dX9_put_35 rfl ?_
      refine lv_iconst (v := 0) hx hb dX9_put_36 (by decide) ?_
      have hP9 := hP.sub (ws' := []) [] rfl
      have hD9 := hD.sub (ws' := []) [] (by decide) rfl
      exact W.zret (v := 0) (ty := .boolean) hx hb hr rfl (fun t ht hW => ⟨⟨0, (), rfl, rfl, by rw [ht]; exact hP9, hD9⟩, hS.F ht⟩) hS.2.2 dX9_put_37
theorem dX9_term_0 : decode cX9_term 0 = .ok (.aload_n 0, 1) := by decide +kernel
theorem dX9_term_1 : decode cX9_term 1 = .ok (.iconst 0, 1) := by decide +kernel
theorem dX9_term_2 : decode cX9_term 2 = .ok (.putfield 147, 3) := by decide +kernel
theorem dX9_term_5 : decode cX9_term 5 = .ok (.aload_n 0, 1) := by decide +kernel
theorem dX9_term_6 : decode cX9_term 6 = .ok (.iload_n 1, 1) := by decide +kernel
theorem dX9_term_7 : decode cX9_term 7 = .ok (.iload_n 2, 1) := by decide +kernel
theorem dX9_term_8 : decode cX9_term 8 = .ok (.invokevirtual 171, 3) := by decide +kernel
theorem dX9_term_11 : decode cX9_term 11 = .ok (.istore 7, 2) := by decide +kernel
theorem dX9_term_13 : decode cX9_term 13 = .ok (.iload_n 3, 1) := by decide +kernel
theorem dX9_term_14 : decode cX9_term 14 = .ok (.ifCond .lt 19, 3) := by decide +kernel
theorem dX9_term_17 : decode cX9_term 17 = .ok (.iload_n 3, 1) := by decide +kernel
theorem dX9_term_18 : decode cX9_term 18 = .ok (.iconst 4, 1) := by decide +kernel
theorem dX9_term_19 : decode cX9_term 19 = .ok (.if_icmp .gt 14, 3) := by decide +kernel
theorem dX9_term_22 : decode cX9_term 22 = .ok (.iload 4, 2) := by decide +kernel
theorem dX9_term_24 : decode cX9_term 24 = .ok (.ifCond .lt 9, 3) := by decide +kernel
theorem dX9_term_27 : decode cX9_term 27 = .ok (.iload 4, 2) := by decide +kernel
theorem dX9_term_29 : decode cX9_term 29 = .ok (.iconst 4, 1) := by decide +kernel
theorem dX9_term_30 : decode cX9_term 30 = .ok (.if_icmp .le 7, 3) := by decide +kernel
theorem dX9_term_33 : decode cX9_term 33 = .ok (.iconst 1, 1) := by decide +kernel
theorem dX9_term_34 : decode cX9_term 34 = .ok (.goto 4, 3) := by decide +kernel
theorem dX9_term_37 : decode cX9_term 37 = .ok (.iconst 0, 1) := by decide +kernel
theorem dX9_term_38 : decode cX9_term 38 = .ok (.istore 8, 2) := by decide +kernel
theorem dX9_term_40 : decode cX9_term 40 = .ok (.iload 4, 2) := by decide +kernel
theorem dX9_term_42 : decode cX9_term 42 = .ok (.iconst 1, 1) := by decide +kernel
theorem dX9_term_43 : decode cX9_term 43 = .ok (.if_icmp .ne 41, 3) := by decide +kernel
theorem dX9_term_46 : decode cX9_term 46 = .ok (.iload 8, 2) := by decide +kernel
theorem dX9_term_48 : decode cX9_term 48 = .ok (.ifCond .ne 29, 3) := by decide +kernel
theorem dX9_term_51 : decode cX9_term 51 = .ok (.iload 5, 2) := by decide +kernel
theorem dX9_term_53 : decode cX9_term 53 = .ok (.ifCond .lt 24, 3) := by decide +kernel
theorem dX9_term_56 : decode cX9_term 56 = .ok (.iload 5, 2) := by decide +kernel
theorem dX9_term_58 : decode cX9_term 58 = .ok (.sipush 1440, 3) := by decide +kernel
theorem dX9_term_61 : decode cX9_term 61 = .ok (.if_icmp .gt 16, 3) := by decide +kernel
theorem dX9_term_64 : decode cX9_term 64 = .ok (.iload 6, 2) := by decide +kernel
theorem dX9_term_66 : decode cX9_term 66 = .ok (.ifCond .lt 11, 3) := by decide +kernel
theorem dX9_term_69 : decode cX9_term 69 = .ok (.iload 6, 2) := by decide +kernel
theorem dX9_term_71 : decode cX9_term 71 = .ok (.sipush 1440, 3) := by decide +kernel
theorem dX9_term_74 : decode cX9_term 74 = .ok (.if_icmp .le 7, 3) := by decide +kernel
theorem dX9_term_77 : decode cX9_term 77 = .ok (.iconst 1, 1) := by decide +kernel
theorem dX9_term_78 : decode cX9_term 78 = .ok (.goto 4, 3) := by decide +kernel
theorem dX9_term_81 : decode cX9_term 81 = .ok (.iconst 0, 1) := by decide +kernel
theorem dX9_term_82 : decode cX9_term 82 = .ok (.istore 8, 2) := by decide +kernel
theorem dX9_term_84 : decode cX9_term 84 = .ok (.iload 4, 2) := by decide +kernel
theorem dX9_term_86 : decode cX9_term 86 = .ok (.iconst 3, 1) := by decide +kernel
theorem dX9_term_87 : decode cX9_term 87 = .ok (.if_icmp .ne 26, 3) := by decide +kernel
theorem dX9_term_90 : decode cX9_term 90 = .ok (.iload 8, 2) := by decide +kernel
theorem dX9_term_92 : decode cX9_term 92 = .ok (.ifCond .ne 14, 3) := by decide +kernel
theorem dX9_term_95 : decode cX9_term 95 = .ok (.iload 5, 2) := by decide +kernel
theorem dX9_term_97 : decode cX9_term 97 = .ok (.ifCond .lt 9, 3) := by decide +kernel
theorem dX9_term_100 : decode cX9_term 100 = .ok (.iload 5, 2) := by decide +kernel
theorem dX9_term_102 : decode cX9_term 102 = .ok (.iconst 4, 1) := by decide +kernel
theorem dX9_term_103 : decode cX9_term 103 = .ok (.if_icmp .le 7, 3) := by decide +kernel
theorem dX9_term_106 : decode cX9_term 106 = .ok (.iconst 1, 1) := by decide +kernel
theorem dX9_term_107 : decode cX9_term 107 = .ok (.goto 4, 3) := by decide +kernel
theorem dX9_term_110 : decode cX9_term 110 = .ok (.iconst 0, 1) := by decide +kernel
theorem dX9_term_111 : decode cX9_term 111 = .ok (.istore 8, 2) := by decide +kernel
theorem dX9_term_113 : decode cX9_term 113 = .ok (.iload 4, 2) := by decide +kernel
theorem dX9_term_115 : decode cX9_term 115 = .ok (.iconst 4, 1) := by decide +kernel
theorem dX9_term_116 : decode cX9_term 116 = .ok (.if_icmp .ne 39, 3) := by decide +kernel
theorem dX9_term_119 : decode cX9_term 119 = .ok (.iload 8, 2) := by decide +kernel
theorem dX9_term_121 : decode cX9_term 121 = .ok (.ifCond .ne 27, 3) := by decide +kernel
theorem dX9_term_124 : decode cX9_term 124 = .ok (.iload 5, 2) := by decide +kernel
theorem dX9_term_126 : decode cX9_term 126 = .ok (.ifCond .lt 22, 3) := by decide +kernel
theorem dX9_term_129 : decode cX9_term 129 = .ok (.iload 5, 2) := by decide +kernel
theorem dX9_term_131 : decode cX9_term 131 = .ok (.ldc 174, 2) := by decide +kernel
theorem dX9_term_133 : decode cX9_term 133 = .ok (.if_icmp .gt 15, 3) := by decide +kernel
theorem dX9_term_136 : decode cX9_term 136 = .ok (.iload 6, 2) := by decide +kernel
theorem dX9_term_138 : decode cX9_term 138 = .ok (.ifCond .lt 10, 3) := by decide +kernel
theorem dX9_term_141 : decode cX9_term 141 = .ok (.iload 6, 2) := by decide +kernel
theorem dX9_term_143 : decode cX9_term 143 = .ok (.ldc 174, 2) := by decide +kernel
theorem dX9_term_145 : decode cX9_term 145 = .ok (.if_icmp .le 7, 3) := by decide +kernel
theorem dX9_term_148 : decode cX9_term 148 = .ok (.iconst 1, 1) := by decide +kernel
theorem dX9_term_149 : decode cX9_term 149 = .ok (.goto 4, 3) := by decide +kernel
theorem dX9_term_152 : decode cX9_term 152 = .ok (.iconst 0, 1) := by decide +kernel
theorem dX9_term_153 : decode cX9_term 153 = .ok (.istore 8, 2) := by decide +kernel
theorem dX9_term_155 : decode cX9_term 155 = .ok (.iload 8, 2) := by decide +kernel
theorem dX9_term_157 : decode cX9_term 157 = .ok (.ifCond .eq 6, 3) := by decide +kernel
theorem dX9_term_160 : decode cX9_term 160 = .ok (.iconst 1, 1) := by decide +kernel
theorem dX9_term_161 : decode cX9_term 161 = .ok (.istore 7, 2) := by decide +kernel
theorem dX9_term_163 : decode cX9_term 163 = .ok (.iload 7, 2) := by decide +kernel
theorem dX9_term_165 : decode cX9_term 165 = .ok (.ifCond .eq 12, 3) := by decide +kernel
theorem dX9_term_168 : decode cX9_term 168 = .ok (.aload_n 0, 1) := by decide +kernel
theorem dX9_term_169 : decode cX9_term 169 = .ok (.iload 7, 2) := by decide +kernel
theorem dX9_term_171 : decode cX9_term 171 = .ok (.invokevirtual 168, 3) := by decide +kernel
theorem dX9_term_174 : decode cX9_term 174 = .ok (.pop, 1) := by decide +kernel
theorem dX9_term_175 : decode cX9_term 175 = .ok (.iconst 0, 1) := by decide +kernel
theorem dX9_term_176 : decode cX9_term 176 = .ok (.ireturn, 1) := by decide +kernel
set_option maxHeartbeats 4000000 in
set_option maxRecDepth 100000 in
theorem c_X9_term (l : Launch) (G : xG) (m0 : Nat) (ma : Nat → Nat) (p0 : Int32) (p1 : Int32) (p2 : Int32) (p3 : Int32) (p4 : Int32) (p5 : Int32)  : xWi l G yX9_term cX9_term 10 (some .boolean) 2 43 0 0 [.ref m0, .int p0, .int p1, .int p2, .int p3, .int p4, .int p5] [(m0, .inr (9, [.int 0, .int 0, .int 0, .int (-1), .ref (ma 4), .ref (ma 5), .ref (ma 6), .ref (ma 7), .ref (ma 8), .ref (ma 9), .ref (ma 10), .ref (ma 11), .ref (ma 12), .ref (ma 13), .ref (ma 14), .ref (ma 15), .ref (ma 16), .ref (ma 17), .ref (ma 18), .ref (ma 19), .int 0, .ref (ma 21), .ref (ma 22), .ref (ma 23), .ref (ma 24), .ref (ma 25), .ref (ma 26), .ref (ma 27), .ref (ma 28), .ref (ma 29), .ref (ma 30), .ref (ma 31), .ref (ma 32), .ref (ma 33), .ref (ma 34), .ref (ma 35), .ref (ma 36), .ref (ma 37), .int 0, .ref (ma 39), .ref (ma 40), .ref (ma 41), .ref (ma 42), .ref (ma 43), .ref (ma 44), .ref (ma 45), .ref (ma 46), .ref (ma 47), .ref (ma 48), .int 0, .int 0, .int 0, .int 0, .int 0, .int 0, .int 0, .long 0, .int 0, .long 0, .long 0, .long 0, .long 0, .int 0, .int 0, .int 0, .int 0, .long 0])), (ma 39, .inl (G.2 0, 6, .inl (fun _ => 0)))] (S := Unit) (fun r _ => r = 0) (fun _ => []) := by
  intro sz
  refine xstart (by decide) (Nat.le_of_ble_eq_true rfl) (fun p e s m args below meth c ls C0 hr hlocks hin hsz hP hK hD hN hl => ?_)
  obtain ⟨hx, hb, hml, hown, htl⟩ := id C0
  subst hsz
  have hD := hD.self (sz := s.heap.size)
  generalize hAe : va_A [(m0, .inr (9, [.int 0, .int 0, .int 0, .int (-1), .ref (ma 4), .ref (ma 5), .ref (ma 6), .ref (ma 7), .ref (ma 8), .ref (ma 9), .ref (ma 10), .ref (ma 11), .ref (ma 12), .ref (ma 13), .ref (ma 14), .ref (ma 15), .ref (ma 16), .ref (ma 17), .ref (ma 18), .ref (ma 19), .int 0, .ref (ma 21), .ref (ma 22), .ref (ma 23), .ref (ma 24), .ref (ma 25), .ref (ma 26), .ref (ma 27), .ref (ma 28), .ref (ma 29), .ref (ma 30), .ref (ma 31), .ref (ma 32), .ref (ma 33), .ref (ma 34), .ref (ma 35), .ref (ma 36), .ref (ma 37), .int 0, .ref (ma 39), .ref (ma 40), .ref (ma 41), .ref (ma 42), .ref (ma 43), .ref (ma 44), .ref (ma 45), .ref (ma 46), .ref (ma 47), .ref (ma 48), .int 0, .int 0, .int 0, .int 0, .int 0, .int 0, .int 0, .long 0, .int 0, .long 0, .long 0, .long 0, .long 0, .int 0, .int 0, .int 0, .int 0, .long 0])), (ma 39, .inl (G.2 0, 6, .inl (fun _ => 0)))] s.heap.size = A at hD ⊢
  have hA : ∀ q : Nat, s.heap.size ≤ q → A q := fun q h => by rw [← hAe]; exact Or.inr h
  have hS : va_S A s.heap s.heap [] := va_S.rf
  have hl : lv_has ls 10 [(0, .ref m0), (1, .int p0), (2, .int p1), (3, .int p2), (4, .int p3), (5, .int p4), (6, .int p5)] := hl
  refine lv_aload_n hx hb dX9_term_0 rfl (lv_at hl 0 rfl) ?_
  refine lv_iconst (v := 0) hx hb dX9_term_1 (by decide) ?_
  refine va_put (D := G.1) (ci := 9) (v := .int 0) (ty := .int) (C := RX9) (T := TX9) (N := 67) hx hb htl inlX9 tyX9 tyX9_ok nmX9 hown hK hP hD hS 0 rfl rfl 38 (by decide) (htl (.fieldLink RX9 147 "LaytimeDeskModel" "reason" "I") mW175) (fun _ h9 => h9) rfl (by decide +kernel) rfl rfl (Nat.le_of_ble_eq_true rfl) dX9_term_2 (fun H locs hP hD hS => ?_)
  have hP : va_P G.1 xcl [(m0, .inr (9, [.int 0, .int 0, .int 0, .int (-1), .ref (ma 4), .ref (ma 5), .ref (ma 6), .ref (ma 7), .ref (ma 8), .ref (ma 9), .ref (ma 10), .ref (ma 11), .ref (ma 12), .ref (ma 13), .ref (ma 14), .ref (ma 15), .ref (ma 16), .ref (ma 17), .ref (ma 18), .ref (ma 19), .int 0, .ref (ma 21), .ref (ma 22), .ref (ma 23), .ref (ma 24), .ref (ma 25), .ref (ma 26), .ref (ma 27), .ref (ma 28), .ref (ma 29), .ref (ma 30), .ref (ma 31), .ref (ma 32), .ref (ma 33), .ref (ma 34), .ref (ma 35), .ref (ma 36), .ref (ma 37), .int 0, .ref (ma 39), .ref (ma 40), .ref (ma 41), .ref (ma 42), .ref (ma 43), .ref (ma 44), .ref (ma 45), .ref (ma 46), .ref (ma 47), .ref (ma 48), .int 0, .int 0, .int 0, .int 0, .int 0, .int 0, .int 0, .long 0, .int 0, .long 0, .long 0, .long 0, .long 0, .int 0, .int 0, .int 0, .int 0, .long 0])), (ma 39, .inl (G.2 0, 6, .inl (fun _ => 0)))] H := hP
  have hD : va_D A [(m0, .inr (9, [.int 0, .int 0, .int 0, .int (-1), .ref (ma 4), .ref (ma 5), .ref (ma 6), .ref (ma 7), .ref (ma 8), .ref (ma 9), .ref (ma 10), .ref (ma 11), .ref (ma 12), .ref (ma 13), .ref (ma 14), .ref (ma 15), .ref (ma 16), .ref (ma 17), .ref (ma 18), .ref (ma 19), .int 0, .ref (ma 21), .ref (ma 22), .ref (ma 23), .ref (ma 24), .ref (ma 25), .ref (ma 26), .ref (ma 27), .ref (ma 28), .ref (ma 29), .ref (ma 30), .ref (ma 31), .ref (ma 32), .ref (ma 33), .ref (ma 34), .ref (ma 35), .ref (ma 36), .ref (ma 37), .int 0, .ref (ma 39), .ref (ma 40), .ref (ma 41), .ref (ma 42), .ref (ma 43), .ref (ma 44), .ref (ma 45), .ref (ma 46), .ref (ma 47), .ref (ma 48), .int 0, .int 0, .int 0, .int 0, .int 0, .int 0, .int 0, .long 0, .int 0, .long 0, .long 0, .long 0, .long 0, .int 0, .int 0, .int 0, .int 0, .long 0])), (ma 39, .inl (G.2 0, 6, .inl (fun _ => 0)))] := hD
  refine lv_aload_n hx hb dX9_term_5 rfl (lv_at hl 0 rfl) ?_
  refine lv_iload_n hx hb dX9_term_6 rfl (lv_at hl 1 rfl) ?_
  refine lv_iload_n hx hb dX9_term_7 rfl (lv_at hl 2 rfl) ?_
  refine xVri (rq := 0) (ci := 9) (wc := [(m0, .inr (9, [.int 0, .int 0, .int 0, .int (-1), .ref (ma 4), .ref (ma 5), .ref (ma 6), .ref (ma 7), .ref (ma 8), .ref (ma 9), .ref (ma 10), .ref (ma 11), .ref (ma 12), .ref (ma 13), .ref (ma 14), .ref (ma 15), .ref (ma 16), .ref (ma 17), .ref (ma 18), .ref (ma 19), .int 0, .ref (ma 21), .ref (ma 22), .ref (ma 23), .ref (ma 24), .ref (ma 25), .ref (ma 26), .ref (ma 27), .ref (ma 28), .ref (ma 29), .ref (ma 30), .ref (ma 31), .ref (ma 32), .ref (ma 33), .ref (ma 34), .ref (ma 35), .ref (ma 36), .ref (ma 37), .int 0, .ref (ma 39), .ref (ma 40), .ref (ma 41), .ref (ma 42), .ref (ma 43), .ref (ma 44), .ref (ma 45), .ref (ma 46), .ref (ma 47), .ref (ma 48), .int 0, .int 0, .int 0, .int 0, .int 0, .int 0, .int 0, .long 0, .int 0, .long 0, .long 0, .long 0, .long 0, .int 0, .int 0, .int 0, .int 0, .long 0]))]) (As := [.int p0, .int p1]) (rest := []) C0 (c_X9_placeWhy l G m0 ma p0 p1) ok_X9_placeWhy (mW222 : Cond.methodLink RX9 171 yX9_placeWhy ∈ wsT) ⟨Nat.le_of_ble_eq_true rfl, Nat.le_of_ble_eq_true rfl⟩ hP hD hK hN [0] rfl (by decide) rfl rfl rfl rfl hl.1 rfl (Nat.le_of_ble_eq_true rfl) ⟨Nat.le_of_ble_eq_true rfl, Nat.le_of_ble_eq_true rfl⟩ dX9_term_8 (fun r_1 hr_1 => ?_)
  refine lv_istore (lv' := [(7, .int r_1), (0, .ref m0), (1, .int p0), (2, .int p1), (3, .int p2), (4, .int p3), (5, .int p4), (6, .int p5)]) hx hb dX9_term_11 hl (by decide) rfl (fun ls hl => ?_)
  refine xj1 (n := 10) 155 (fun vv => [(8, .int vv), (7, .int r_1), (0, .ref m0), (1, .int p0), (2, .int p1), (3, .int p2), (4, .int p3), (5, .int p4), (6, .int p5)]) (fun v_2 ls hl => ?_) (fun J_155 => ?_)
  · have hl : lv_has ls 10 [(8, .int v_2), (7, .int r_1), (0, .ref m0), (1, .int p0), (2, .int p1), (3, .int p2), (4, .int p3), (5, .int p4), (6, .int p5)] := hl
    refine lv_iload hx hb dX9_term_155 (lv_at hl 0 rfl) ?_
    refine lv_if_eq (tgt := 163) hx hb dX9_term_157 (by decide) (fun c_3 => ?_) (fun c_3 => ?_)
    · refine lv_iload hx hb dX9_term_163 (lv_at hl 1 rfl) ?_
      refine lv_if_eq (tgt := 177) hx hb dX9_term_165 (by decide) (fun c_4 => absurd c_4 (xn0 hr_1)) (fun c_4 => ?_)
      refine lv_aload_n hx hb dX9_term_168 rfl (lv_at hl 2 rfl) ?_
      refine lv_iload hx hb dX9_term_169 (lv_at hl 1 rfl) ?_
      refine xVwi (rq := 0) (ci := 9) (wc := [(m0, .inr (9, [.int 0, .int 0, .int 0, .int (-1), .ref (ma 4), .ref (ma 5), .ref (ma 6), .ref (ma 7), .ref (ma 8), .ref (ma 9), .ref (ma 10), .ref (ma 11), .ref (ma 12), .ref (ma 13), .ref (ma 14), .ref (ma 15), .ref (ma 16), .ref (ma 17), .ref (ma 18), .ref (ma 19), .int 0, .ref (ma 21), .ref (ma 22), .ref (ma 23), .ref (ma 24), .ref (ma 25), .ref (ma 26), .ref (ma 27), .ref (ma 28), .ref (ma 29), .ref (ma 30), .ref (ma 31), .ref (ma 32), .ref (ma 33), .ref (ma 34), .ref (ma 35), .ref (ma 36), .ref (ma 37), .int 0, .ref (ma 39), .ref (ma 40), .ref (ma 41), .ref (ma 42), .ref (ma 43), .ref (ma 44), .ref (ma 45), .ref (ma 46), .ref (ma 47), .ref (ma 48), .int 0, .int 0, .int 0, .int 0, .int 0, .int 0, .int 0, .long 0, .int 0, .long 0, .long 0, .long 0, .long 0, .int 0, .int 0, .int 0, .int 0, .long 0])), (ma 39, .inl (G.2 0, 6, .inl (fun _ => 0)))]) (wr := []) (As := [.int r_1]) (rest := []) C0 (c_X9_no l G m0 ma r_1 (xin6 hr_1)) ok_X9_no (mW177 : Cond.methodLink RX9 168 yX9_no ∈ wsT) ⟨Nat.le_of_ble_eq_true rfl, Nat.le_of_ble_eq_true rfl⟩ hP hD hS hA hK hN [0, 1] [] rfl rfl (by decide) (by decide) (by decide) rfl rfl rfl rfl hl.1 rfl (Nat.le_of_ble_eq_true rfl) ⟨Nat.le_of_ble_eq_true rfl, Nat.le_of_ble_eq_true rfl⟩ dX9_term_171 (fun r_5 u_6 H locs hr_5 hP hD hS => ?_)
      have hP : va_P G.1 xcl [] H := hP
      have hD : va_D A [] := hD
      obtain rfl : r_5 = (-1) := hr_5
      refine lv_pop hx hb dX9_term_174 rfl ?_
      refine lv_iconst (v := 0) hx hb dX9_term_175 (by decide) ?_
      have hP9 := hP.sub (ws' := []) [] rfl
      have hD9 := hD.sub (ws' := []) [] (by decide) rfl
      exact W.zret (v := 0) (ty := .boolean) hx hb hr rfl (fun t ht hW => ⟨⟨0, (), rfl, rfl, by rw [ht]; exact hP9, hD9⟩, hS.F ht⟩) hS.2.2 dX9_term_176
    · refine lv_iconst (v := 1) hx hb dX9_term_160 (by decide) ?_
      refine lv_istore (lv' := [(7, .int 1), (8, .int v_2), (0, .ref m0), (1, .int p0), (2, .int p1), (3, .int p2), (4, .int p3), (5, .int p4), (6, .int p5)]) hx hb dX9_term_161 hl (by decide) rfl (fun ls hl => ?_)
      refine lv_iload hx hb dX9_term_163 (lv_at hl 0 rfl) ?_
      refine lv_if_eq (tgt := 177) hx hb dX9_term_165 (by decide) (fun c_7 => absurd c_7 (by decide +kernel)) (fun c_7 => ?_)
      refine lv_aload_n hx hb dX9_term_168 rfl (lv_at hl 2 rfl) ?_
      refine lv_iload hx hb dX9_term_169 (lv_at hl 0 rfl) ?_
      refine xVwi (rq := 0) (ci := 9) (wc := [(m0, .inr (9, [.int 0, .int 0, .int 0, .int (-1), .ref (ma 4), .ref (ma 5), .ref (ma 6), .ref (ma 7), .ref (ma 8), .ref (ma 9), .ref (ma 10), .ref (ma 11), .ref (ma 12), .ref (ma 13), .ref (ma 14), .ref (ma 15), .ref (ma 16), .ref (ma 17), .ref (ma 18), .ref (ma 19), .int 0, .ref (ma 21), .ref (ma 22), .ref (ma 23), .ref (ma 24), .ref (ma 25), .ref (ma 26), .ref (ma 27), .ref (ma 28), .ref (ma 29), .ref (ma 30), .ref (ma 31), .ref (ma 32), .ref (ma 33), .ref (ma 34), .ref (ma 35), .ref (ma 36), .ref (ma 37), .int 0, .ref (ma 39), .ref (ma 40), .ref (ma 41), .ref (ma 42), .ref (ma 43), .ref (ma 44), .ref (ma 45), .ref (ma 46), .ref (ma 47), .ref (ma 48), .int 0, .int 0, .int 0, .int 0, .int 0, .int 0, .int 0, .long 0, .int 0, .long 0, .long 0, .long 0, .long 0, .int 0, .int 0, .int 0, .int 0, .long 0])), (ma 39, .inl (G.2 0, 6, .inl (fun _ => 0)))]) (wr := []) (As := [.int 1]) (rest := []) C0 (c_X9_no l G m0 ma 1 (by unfold vp_in; decide +kernel)) ok_X9_no (mW177 : Cond.methodLink RX9 168 yX9_no ∈ wsT) ⟨Nat.le_of_ble_eq_true rfl, Nat.le_of_ble_eq_true rfl⟩ hP hD hS hA hK hN [0, 1] [] rfl rfl (by decide) (by decide) (by decide) rfl rfl rfl rfl hl.1 rfl (Nat.le_of_ble_eq_true rfl) ⟨Nat.le_of_ble_eq_true rfl, Nat.le_of_ble_eq_true rfl⟩ dX9_term_171 (fun r_8 u_9 H locs hr_8 hP hD hS => ?_)
      have hP : va_P G.1 xcl [] H := hP
      have hD : va_D A [] := hD
      obtain rfl : r_8 = (-1) := hr_8
      refine lv_pop hx hb dX9_term_174 rfl ?_
      refine lv_iconst (v := 0) hx hb dX9_term_175 (by decide) ?_
      have hP9 := hP.sub (ws' := []) [] rfl
      have hD9 := hD.sub (ws' := []) [] (by decide) rfl
      exact W.zret (v := 0) (ty := .boolean) hx hb hr rfl (fun t ht hW => ⟨⟨0, (), rfl, rfl, by rw [ht]; exact hP9, hD9⟩, hS.F ht⟩) hS.2.2 dX9_term_176
  refine xj1 (n := 10) 113 (fun vv => [(8, .int vv), (7, .int r_1), (0, .ref m0), (1, .int p0), (2, .int p1), (3, .int p2), (4, .int p3), (5, .int p4), (6, .int p5)]) (fun v_10 ls hl => ?_) (fun J_113 => ?_)
  · have hl : lv_has ls 10 [(8, .int v_10), (7, .int r_1), (0, .ref m0), (1, .int p0), (2, .int p1), (3, .int p2), (4, .int p3), (5, .int p4), (6, .int p5)] := hl
    refine lv_iload hx hb dX9_term_113 (lv_at hl 6 rfl) ?_
    refine lv_iconst (v := 4) hx hb dX9_term_115 (by decide) ?_
    refine lv_icmp_ne (tgt := 155) hx hb dX9_term_116 (by decide) (fun c_11 => ?_) (fun c_11 => ?_)
    · exact J_155 v_10 ls (lv_sub hl [0, 1, 2, 3, 4, 5, 6, 7, 8] rfl)
    · refine lv_iload hx hb dX9_term_119 (lv_at hl 0 rfl) ?_
      refine lv_if_ne (tgt := 148) hx hb dX9_term_121 (by decide) (fun c_12 => ?_) (fun c_12 => ?_)
      · refine lv_iconst (v := 1) hx hb dX9_term_148 (by decide) ?_
        refine lv_goto (tgt := 153) hx hb dX9_term_149 (by decide) ?_
        refine lv_istore (lv' := [(8, .int 1), (7, .int r_1), (0, .ref m0), (1, .int p0), (2, .int p1), (3, .int p2), (4, .int p3), (5, .int p4), (6, .int p5)]) hx hb dX9_term_153 hl (by decide) rfl (fun ls hl => ?_)
        exact J_155 1 ls (lv_sub hl [0, 1, 2, 3, 4, 5, 6, 7, 8] rfl)
      · refine lv_iload hx hb dX9_term_124 (lv_at hl 7 rfl) ?_
        refine lv_if_lt (tgt := 148) hx hb dX9_term_126 (by decide) (fun c_13 => ?_) (fun c_13 => ?_)
        · refine lv_iconst (v := 1) hx hb dX9_term_148 (by decide) ?_
          refine lv_goto (tgt := 153) hx hb dX9_term_149 (by decide) ?_
          refine lv_istore (lv' := [(8, .int 1), (7, .int r_1), (0, .ref m0), (1, .int p0), (2, .int p1), (3, .int p2), (4, .int p3), (5, .int p4), (6, .int p5)]) hx hb dX9_term_153 hl (by decide) rfl (fun ls hl => ?_)
          exact J_155 1 ls (lv_sub hl [0, 1, 2, 3, 4, 5, 6, 7, 8] rfl)
        · refine lv_iload hx hb dX9_term_129 (lv_at hl 7 rfl) ?_
          refine lv_ldc (v := 129600) hx hb hown (htl (.constant RX9 174 (129600)) mW221) dX9_term_131 ?_
          refine lv_icmp_gt (tgt := 148) hx hb dX9_term_133 (by decide) (fun c_14 => ?_) (fun c_14 => ?_)
          · refine lv_iconst (v := 1) hx hb dX9_term_148 (by decide) ?_
            refine lv_goto (tgt := 153) hx hb dX9_term_149 (by decide) ?_
            refine lv_istore (lv' := [(8, .int 1), (7, .int r_1), (0, .ref m0), (1, .int p0), (2, .int p1), (3, .int p2), (4, .int p3), (5, .int p4), (6, .int p5)]) hx hb dX9_term_153 hl (by decide) rfl (fun ls hl => ?_)
            exact J_155 1 ls (lv_sub hl [0, 1, 2, 3, 4, 5, 6, 7, 8] rfl)
          · refine lv_iload hx hb dX9_term_136 (lv_at hl 8 rfl) ?_
            refine lv_if_lt (tgt := 148) hx hb dX9_term_138 (by decide) (fun c_15 => ?_) (fun c_15 => ?_)
            · refine lv_iconst (v := 1) hx hb dX9_term_148 (by decide) ?_
              refine lv_goto (tgt := 153) hx hb dX9_term_149 (by decide) ?_
              refine lv_istore (lv' := [(8, .int 1), (7, .int r_1), (0, .ref m0), (1, .int p0), (2, .int p1), (3, .int p2), (4, .int p3), (5, .int p4), (6, .int p5)]) hx hb dX9_term_153 hl (by decide) rfl (fun ls hl => ?_)
              exact J_155 1 ls (lv_sub hl [0, 1, 2, 3, 4, 5, 6, 7, 8] rfl)
            · refine lv_iload hx hb dX9_term_141 (lv_at hl 8 rfl) ?_
              refine lv_ldc (v := 129600) hx hb hown (htl (.constant RX9 174 (129600)) mW221) dX9_term_143 ?_
              refine lv_icmp_le (tgt := 152) hx hb dX9_term_145 (by decide) (fun c_16 => ?_) (fun c_16 => ?_)
              · refine lv_iconst (v := 0) hx hb dX9_term_152 (by decide) ?_
                refine lv_istore (lv' := [(8, .int 0), (7, .int r_1), (0, .ref m0), (1, .int p0), (2, .int p1), (3, .int p2), (4, .int p3), (5, .int p4), (6, .int p5)]) hx hb dX9_term_153 hl (by decide) rfl (fun ls hl => ?_)
                exact J_155 0 ls (lv_sub hl [0, 1, 2, 3, 4, 5, 6, 7, 8] rfl)
              · refine lv_iconst (v := 1) hx hb dX9_term_148 (by decide) ?_
                refine lv_goto (tgt := 153) hx hb dX9_term_149 (by decide) ?_
                refine lv_istore (lv' := [(8, .int 1), (7, .int r_1), (0, .ref m0), (1, .int p0), (2, .int p1), (3, .int p2), (4, .int p3), (5, .int p4), (6, .int p5)]) hx hb dX9_term_153 hl (by decide) rfl (fun ls hl => ?_)
                exact J_155 1 ls (lv_sub hl [0, 1, 2, 3, 4, 5, 6, 7, 8] rfl)
  refine xj1 (n := 10) 84 (fun vv => [(8, .int vv), (7, .int r_1), (0, .ref m0), (1, .int p0), (2, .int p1), (3, .int p2), (4, .int p3), (5, .int p4), (6, .int p5)]) (fun v_17 ls hl => ?_) (fun J_84 => ?_)
  · have hl : lv_has ls 10 [(8, .int v_17), (7, .int r_1), (0, .ref m0), (1, .int p0), (2, .int p1), (3, .int p2), (4, .int p3), (5, .int p4), (6, .int p5)] := hl
    refine lv_iload hx hb dX9_term_84 (lv_at hl 6 rfl) ?_
    refine lv_iconst (v := 3) hx hb dX9_term_86 (by decide) ?_
    refine lv_icmp_ne (tgt := 113) hx hb dX9_term_87 (by decide) (fun c_18 => ?_) (fun c_18 => ?_)
    · exact J_113 v_17 ls (lv_sub hl [0, 1, 2, 3, 4, 5, 6, 7, 8] rfl)
    · refine lv_iload hx hb dX9_term_90 (lv_at hl 0 rfl) ?_
      refine lv_if_ne (tgt := 106) hx hb dX9_term_92 (by decide) (fun c_19 => ?_) (fun c_19 => ?_)
      · refine lv_iconst (v := 1) hx hb dX9_term_106 (by decide) ?_
        refine lv_goto (tgt := 111) hx hb dX9_term_107 (by decide) ?_
        refine lv_istore (lv' := [(8, .int 1), (7, .int r_1), (0, .ref m0), (1, .int p0), (2, .int p1), (3, .int p2), (4, .int p3), (5, .int p4), (6, .int p5)]) hx hb dX9_term_111 hl (by decide) rfl (fun ls hl => ?_)
        exact J_113 1 ls (lv_sub hl [0, 1, 2, 3, 4, 5, 6, 7, 8] rfl)
      · refine lv_iload hx hb dX9_term_95 (lv_at hl 7 rfl) ?_
        refine lv_if_lt (tgt := 106) hx hb dX9_term_97 (by decide) (fun c_20 => ?_) (fun c_20 => ?_)
        · refine lv_iconst (v := 1) hx hb dX9_term_106 (by decide) ?_
          refine lv_goto (tgt := 111) hx hb dX9_term_107 (by decide) ?_
          refine lv_istore (lv' := [(8, .int 1), (7, .int r_1), (0, .ref m0), (1, .int p0), (2, .int p1), (3, .int p2), (4, .int p3), (5, .int p4), (6, .int p5)]) hx hb dX9_term_111 hl (by decide) rfl (fun ls hl => ?_)
          exact J_113 1 ls (lv_sub hl [0, 1, 2, 3, 4, 5, 6, 7, 8] rfl)
        · refine lv_iload hx hb dX9_term_100 (lv_at hl 7 rfl) ?_
          refine lv_iconst (v := 4) hx hb dX9_term_102 (by decide) ?_
          refine lv_icmp_le (tgt := 110) hx hb dX9_term_103 (by decide) (fun c_21 => ?_) (fun c_21 => ?_)
          · refine lv_iconst (v := 0) hx hb dX9_term_110 (by decide) ?_
            refine lv_istore (lv' := [(8, .int 0), (7, .int r_1), (0, .ref m0), (1, .int p0), (2, .int p1), (3, .int p2), (4, .int p3), (5, .int p4), (6, .int p5)]) hx hb dX9_term_111 hl (by decide) rfl (fun ls hl => ?_)
            exact J_113 0 ls (lv_sub hl [0, 1, 2, 3, 4, 5, 6, 7, 8] rfl)
          · refine lv_iconst (v := 1) hx hb dX9_term_106 (by decide) ?_
            refine lv_goto (tgt := 111) hx hb dX9_term_107 (by decide) ?_
            refine lv_istore (lv' := [(8, .int 1), (7, .int r_1), (0, .ref m0), (1, .int p0), (2, .int p1), (3, .int p2), (4, .int p3), (5, .int p4), (6, .int p5)]) hx hb dX9_term_111 hl (by decide) rfl (fun ls hl => ?_)
            exact J_113 1 ls (lv_sub hl [0, 1, 2, 3, 4, 5, 6, 7, 8] rfl)
  refine xj1 (n := 10) 40 (fun vv => [(8, .int vv), (7, .int r_1), (0, .ref m0), (1, .int p0), (2, .int p1), (3, .int p2), (4, .int p3), (5, .int p4), (6, .int p5)]) (fun v_22 ls hl => ?_) (fun J_40 => ?_)
  · have hl : lv_has ls 10 [(8, .int v_22), (7, .int r_1), (0, .ref m0), (1, .int p0), (2, .int p1), (3, .int p2), (4, .int p3), (5, .int p4), (6, .int p5)] := hl
    refine lv_iload hx hb dX9_term_40 (lv_at hl 6 rfl) ?_
    refine lv_iconst (v := 1) hx hb dX9_term_42 (by decide) ?_
    refine lv_icmp_ne (tgt := 84) hx hb dX9_term_43 (by decide) (fun c_23 => ?_) (fun c_23 => ?_)
    · exact J_84 v_22 ls (lv_sub hl [0, 1, 2, 3, 4, 5, 6, 7, 8] rfl)
    · refine lv_iload hx hb dX9_term_46 (lv_at hl 0 rfl) ?_
      refine lv_if_ne (tgt := 77) hx hb dX9_term_48 (by decide) (fun c_24 => ?_) (fun c_24 => ?_)
      · refine lv_iconst (v := 1) hx hb dX9_term_77 (by decide) ?_
        refine lv_goto (tgt := 82) hx hb dX9_term_78 (by decide) ?_
        refine lv_istore (lv' := [(8, .int 1), (7, .int r_1), (0, .ref m0), (1, .int p0), (2, .int p1), (3, .int p2), (4, .int p3), (5, .int p4), (6, .int p5)]) hx hb dX9_term_82 hl (by decide) rfl (fun ls hl => ?_)
        exact J_84 1 ls (lv_sub hl [0, 1, 2, 3, 4, 5, 6, 7, 8] rfl)
      · refine lv_iload hx hb dX9_term_51 (lv_at hl 7 rfl) ?_
        refine lv_if_lt (tgt := 77) hx hb dX9_term_53 (by decide) (fun c_25 => ?_) (fun c_25 => ?_)
        · refine lv_iconst (v := 1) hx hb dX9_term_77 (by decide) ?_
          refine lv_goto (tgt := 82) hx hb dX9_term_78 (by decide) ?_
          refine lv_istore (lv' := [(8, .int 1), (7, .int r_1), (0, .ref m0), (1, .int p0), (2, .int p1), (3, .int p2), (4, .int p3), (5, .int p4), (6, .int p5)]) hx hb dX9_term_82 hl (by decide) rfl (fun ls hl => ?_)
          exact J_84 1 ls (lv_sub hl [0, 1, 2, 3, 4, 5, 6, 7, 8] rfl)
        · refine lv_iload hx hb dX9_term_56 (lv_at hl 7 rfl) ?_
          refine lv_sipush (v := 1440) hx hb dX9_term_58 (by decide) ?_
          refine lv_icmp_gt (tgt := 77) hx hb dX9_term_61 (by decide) (fun c_26 => ?_) (fun c_26 => ?_)
          · refine lv_iconst (v := 1) hx hb dX9_term_77 (by decide) ?_
            refine lv_goto (tgt := 82) hx hb dX9_term_78 (by decide) ?_
            refine lv_istore (lv' := [(8, .int 1), (7, .int r_1), (0, .ref m0), (1, .int p0), (2, .int p1), (3, .int p2), (4, .int p3), (5, .int p4), (6, .int p5)]) hx hb dX9_term_82 hl (by decide) rfl (fun ls hl => ?_)
            exact J_84 1 ls (lv_sub hl [0, 1, 2, 3, 4, 5, 6, 7, 8] rfl)
          · refine lv_iload hx hb dX9_term_64 (lv_at hl 8 rfl) ?_
            refine lv_if_lt (tgt := 77) hx hb dX9_term_66 (by decide) (fun c_27 => ?_) (fun c_27 => ?_)
            · refine lv_iconst (v := 1) hx hb dX9_term_77 (by decide) ?_
              refine lv_goto (tgt := 82) hx hb dX9_term_78 (by decide) ?_
              refine lv_istore (lv' := [(8, .int 1), (7, .int r_1), (0, .ref m0), (1, .int p0), (2, .int p1), (3, .int p2), (4, .int p3), (5, .int p4), (6, .int p5)]) hx hb dX9_term_82 hl (by decide) rfl (fun ls hl => ?_)
              exact J_84 1 ls (lv_sub hl [0, 1, 2, 3, 4, 5, 6, 7, 8] rfl)
            · refine lv_iload hx hb dX9_term_69 (lv_at hl 8 rfl) ?_
              refine lv_sipush (v := 1440) hx hb dX9_term_71 (by decide) ?_
              refine lv_icmp_le (tgt := 81) hx hb dX9_term_74 (by decide) (fun c_28 => ?_) (fun c_28 => ?_)
              · refine lv_iconst (v := 0) hx hb dX9_term_81 (by decide) ?_
                refine lv_istore (lv' := [(8, .int 0), (7, .int r_1), (0, .ref m0), (1, .int p0), (2, .int p1), (3, .int p2), (4, .int p3), (5, .int p4), (6, .int p5)]) hx hb dX9_term_82 hl (by decide) rfl (fun ls hl => ?_)
                exact J_84 0 ls (lv_sub hl [0, 1, 2, 3, 4, 5, 6, 7, 8] rfl)
              · refine lv_iconst (v := 1) hx hb dX9_term_77 (by decide) ?_
                refine lv_goto (tgt := 82) hx hb dX9_term_78 (by decide) ?_
                refine lv_istore (lv' := [(8, .int 1), (7, .int r_1), (0, .ref m0), (1, .int p0), (2, .int p1), (3, .int p2), (4, .int p3), (5, .int p4), (6, .int p5)]) hx hb dX9_term_82 hl (by decide) rfl (fun ls hl => ?_)
                exact J_84 1 ls (lv_sub hl [0, 1, 2, 3, 4, 5, 6, 7, 8] rfl)
  refine lv_iload_n hx hb dX9_term_13 rfl (lv_at hl 4 rfl) ?_
  refine lv_if_lt (tgt := 33) hx hb dX9_term_14 (by decide) (fun c_29 => ?_) (fun c_29 => ?_)
  · refine lv_iconst (v := 1) hx hb dX9_term_33 (by decide) ?_
    refine lv_goto (tgt := 38) hx hb dX9_term_34 (by decide) ?_
    refine lv_istore (lv' := [(8, .int 1), (7, .int r_1), (0, .ref m0), (1, .int p0), (2, .int p1), (3, .int p2), (4, .int p3), (5, .int p4), (6, .int p5)]) hx hb dX9_term_38 hl (by decide) rfl (fun ls hl => ?_)
    exact J_40 1 ls (lv_sub hl [0, 1, 2, 3, 4, 5, 6, 7, 8] rfl)
  · refine lv_iload_n hx hb dX9_term_17 rfl (lv_at hl 4 rfl) ?_
    refine lv_iconst (v := 4) hx hb dX9_term_18 (by decide) ?_
    refine lv_icmp_gt (tgt := 33) hx hb dX9_term_19 (by decide) (fun c_30 => ?_) (fun c_30 => ?_)
    · refine lv_iconst (v := 1) hx hb dX9_term_33 (by decide) ?_
      refine lv_goto (tgt := 38) hx hb dX9_term_34 (by decide) ?_
      refine lv_istore (lv' := [(8, .int 1), (7, .int r_1), (0, .ref m0), (1, .int p0), (2, .int p1), (3, .int p2), (4, .int p3), (5, .int p4), (6, .int p5)]) hx hb dX9_term_38 hl (by decide) rfl (fun ls hl => ?_)
      exact J_40 1 ls (lv_sub hl [0, 1, 2, 3, 4, 5, 6, 7, 8] rfl)
    · refine lv_iload hx hb dX9_term_22 (lv_at hl 5 rfl) ?_
      refine lv_if_lt (tgt := 33) hx hb dX9_term_24 (by decide) (fun c_31 => ?_) (fun c_31 => ?_)
      · refine lv_iconst (v := 1) hx hb dX9_term_33 (by decide) ?_
        refine lv_goto (tgt := 38) hx hb dX9_term_34 (by decide) ?_
        refine lv_istore (lv' := [(8, .int 1), (7, .int r_1), (0, .ref m0), (1, .int p0), (2, .int p1), (3, .int p2), (4, .int p3), (5, .int p4), (6, .int p5)]) hx hb dX9_term_38 hl (by decide) rfl (fun ls hl => ?_)
        exact J_40 1 ls (lv_sub hl [0, 1, 2, 3, 4, 5, 6, 7, 8] rfl)
      · refine lv_iload hx hb dX9_term_27 (lv_at hl 5 rfl) ?_
        refine lv_iconst (v := 4) hx hb dX9_term_29 (by decide) ?_
        refine lv_icmp_le (tgt := 37) hx hb dX9_term_30 (by decide) (fun c_32 => ?_) (fun c_32 => ?_)
        · refine lv_iconst (v := 0) hx hb dX9_term_37 (by decide) ?_
          refine lv_istore (lv' := [(8, .int 0), (7, .int r_1), (0, .ref m0), (1, .int p0), (2, .int p1), (3, .int p2), (4, .int p3), (5, .int p4), (6, .int p5)]) hx hb dX9_term_38 hl (by decide) rfl (fun ls hl => ?_)
          exact J_40 0 ls (lv_sub hl [0, 1, 2, 3, 4, 5, 6, 7, 8] rfl)
        · refine lv_iconst (v := 1) hx hb dX9_term_33 (by decide) ?_
          refine lv_goto (tgt := 38) hx hb dX9_term_34 (by decide) ?_
          refine lv_istore (lv' := [(8, .int 1), (7, .int r_1), (0, .ref m0), (1, .int p0), (2, .int p1), (3, .int p2), (4, .int p3), (5, .int p4), (6, .int p5)]) hx hb dX9_term_38 hl (by decide) rfl (fun ls hl => ?_)
          exact J_40 1 ls (lv_sub hl [0, 1, 2, 3, 4, 5, 6, 7, 8] rfl)
theorem dX9_yields_0 : decode cX9_yields 0 = .ok (.aload_n 0, 1) := by decide +kernel
theorem dX9_yields_1 : decode cX9_yields 1 = .ok (.iconst 0, 1) := by decide +kernel
theorem dX9_yields_2 : decode cX9_yields 2 = .ok (.putfield 147, 3) := by decide +kernel
theorem dX9_yields_5 : decode cX9_yields 5 = .ok (.iload_n 3, 1) := by decide +kernel
theorem dX9_yields_6 : decode cX9_yields 6 = .ok (.ifCond .lt 9, 3) := by decide +kernel
theorem dX9_yields_9 : decode cX9_yields 9 = .ok (.iload_n 3, 1) := by decide +kernel
theorem dX9_yields_10 : decode cX9_yields 10 = .ok (.bipush 31, 2) := by decide +kernel
theorem dX9_yields_12 : decode cX9_yields 12 = .ok (.if_icmp .le 7, 3) := by decide +kernel
theorem dX9_yields_15 : decode cX9_yields 15 = .ok (.iconst 1, 1) := by decide +kernel
theorem dX9_yields_16 : decode cX9_yields 16 = .ok (.goto 9, 3) := by decide +kernel
theorem dX9_yields_19 : decode cX9_yields 19 = .ok (.aload_n 0, 1) := by decide +kernel
theorem dX9_yields_20 : decode cX9_yields 20 = .ok (.iload_n 1, 1) := by decide +kernel
theorem dX9_yields_21 : decode cX9_yields 21 = .ok (.iload_n 2, 1) := by decide +kernel
theorem dX9_yields_22 : decode cX9_yields 22 = .ok (.invokevirtual 175, 3) := by decide +kernel
theorem dX9_yields_25 : decode cX9_yields 25 = .ok (.istore 4, 2) := by decide +kernel
theorem dX9_yields_27 : decode cX9_yields 27 = .ok (.iload 4, 2) := by decide +kernel
theorem dX9_yields_29 : decode cX9_yields 29 = .ok (.ifCond .eq 10, 3) := by decide +kernel
theorem dX9_yields_32 : decode cX9_yields 32 = .ok (.aload_n 0, 1) := by decide +kernel
theorem dX9_yields_33 : decode cX9_yields 33 = .ok (.iload 4, 2) := by decide +kernel
theorem dX9_yields_35 : decode cX9_yields 35 = .ok (.invokevirtual 168, 3) := by decide +kernel
theorem dX9_yields_38 : decode cX9_yields 38 = .ok (.ireturn, 1) := by decide +kernel
set_option maxHeartbeats 4000000 in
set_option maxRecDepth 100000 in
theorem c_X9_yields (l : Launch) (G : xG) (m0 : Nat) (ma : Nat → Nat) (p0 : Int32) (p1 : Int32) (p2 : Int32)  : xWi l G yX9_yields cX9_yields 6 (some .int) 3 66 0 0 [.ref m0, .int p0, .int p1, .int p2] [(m0, .inr (9, [.int 0, .int 0, .int 0, .int (-1), .ref (ma 4), .ref (ma 5), .ref (ma 6), .ref (ma 7), .ref (ma 8), .ref (ma 9), .ref (ma 10), .ref (ma 11), .ref (ma 12), .ref (ma 13), .ref (ma 14), .ref (ma 15), .ref (ma 16), .ref (ma 17), .ref (ma 18), .ref (ma 19), .int 0, .ref (ma 21), .ref (ma 22), .ref (ma 23), .ref (ma 24), .ref (ma 25), .ref (ma 26), .ref (ma 27), .ref (ma 28), .ref (ma 29), .ref (ma 30), .ref (ma 31), .ref (ma 32), .ref (ma 33), .ref (ma 34), .ref (ma 35), .ref (ma 36), .ref (ma 37), .int 0, .ref (ma 39), .ref (ma 40), .ref (ma 41), .ref (ma 42), .ref (ma 43), .ref (ma 44), .ref (ma 45), .ref (ma 46), .ref (ma 47), .ref (ma 48), .int 0, .int 0, .int 0, .int 0, .int 0, .int 0, .int 0, .long 0, .int 0, .long 0, .long 0, .long 0, .long 0, .int 0, .int 0, .int 0, .int 0, .long 0])), (ma 39, .inl (G.2 0, 6, .inl (fun _ => 0)))] (S := Unit) (fun r _ => r = (-1)) (fun _ => []) := by
  intro sz
  refine xstart (by decide) (Nat.le_of_ble_eq_true rfl) (fun p e s m args below meth c ls C0 hr hlocks hin hsz hP hK hD hN hl => ?_)
  obtain ⟨hx, hb, hml, hown, htl⟩ := id C0
  subst hsz
  have hD := hD.self (sz := s.heap.size)
  generalize hAe : va_A [(m0, .inr (9, [.int 0, .int 0, .int 0, .int (-1), .ref (ma 4), .ref (ma 5), .ref (ma 6), .ref (ma 7), .ref (ma 8), .ref (ma 9), .ref (ma 10), .ref (ma 11), .ref (ma 12), .ref (ma 13), .ref (ma 14), .ref (ma 15), .ref (ma 16), .ref (ma 17), .ref (ma 18), .ref (ma 19), .int 0, .ref (ma 21), .ref (ma 22), .ref (ma 23), .ref (ma 24), .ref (ma 25), .ref (ma 26), .ref (ma 27), .ref (ma 28), .ref (ma 29), .ref (ma 30), .ref (ma 31), .ref (ma 32), .ref (ma 33), .ref (ma 34), .ref (ma 35), .ref (ma 36), .ref (ma 37), .int 0, .ref (ma 39), .ref (ma 40), .ref (ma 41), .ref (ma 42), .ref (ma 43), .ref (ma 44), .ref (ma 45), .ref (ma 46), .ref (ma 47), .ref (ma 48), .int 0, .int 0, .int 0, .int 0, .int 0, .int 0, .int 0, .long 0, .int 0, .long 0, .long 0, .long 0, .long 0, .int 0, .int 0, .int 0, .int 0, .long 0])), (ma 39, .inl (G.2 0, 6, .inl (fun _ => 0)))] s.heap.size = A at hD ⊢
  have hA : ∀ q : Nat, s.heap.size ≤ q → A q := fun q h => by rw [← hAe]; exact Or.inr h
  have hS : va_S A s.heap s.heap [] := va_S.rf
  have hl : lv_has ls 6 [(0, .ref m0), (1, .int p0), (2, .int p1), (3, .int p2)] := hl
  refine lv_aload_n hx hb dX9_yields_0 rfl (lv_at hl 0 rfl) ?_
  refine lv_iconst (v := 0) hx hb dX9_yields_1 (by decide) ?_
  refine va_put (D := G.1) (ci := 9) (v := .int 0) (ty := .int) (C := RX9) (T := TX9) (N := 67) hx hb htl inlX9 tyX9 tyX9_ok nmX9 hown hK hP hD hS 0 rfl rfl 38 (by decide) (htl (.fieldLink RX9 147 "LaytimeDeskModel" "reason" "I") mW175) (fun _ h9 => h9) rfl (by decide +kernel) rfl rfl (Nat.le_of_ble_eq_true rfl) dX9_yields_2 (fun H locs hP hD hS => ?_)
  have hP : va_P G.1 xcl [(m0, .inr (9, [.int 0, .int 0, .int 0, .int (-1), .ref (ma 4), .ref (ma 5), .ref (ma 6), .ref (ma 7), .ref (ma 8), .ref (ma 9), .ref (ma 10), .ref (ma 11), .ref (ma 12), .ref (ma 13), .ref (ma 14), .ref (ma 15), .ref (ma 16), .ref (ma 17), .ref (ma 18), .ref (ma 19), .int 0, .ref (ma 21), .ref (ma 22), .ref (ma 23), .ref (ma 24), .ref (ma 25), .ref (ma 26), .ref (ma 27), .ref (ma 28), .ref (ma 29), .ref (ma 30), .ref (ma 31), .ref (ma 32), .ref (ma 33), .ref (ma 34), .ref (ma 35), .ref (ma 36), .ref (ma 37), .int 0, .ref (ma 39), .ref (ma 40), .ref (ma 41), .ref (ma 42), .ref (ma 43), .ref (ma 44), .ref (ma 45), .ref (ma 46), .ref (ma 47), .ref (ma 48), .int 0, .int 0, .int 0, .int 0, .int 0, .int 0, .int 0, .long 0, .int 0, .long 0, .long 0, .long 0, .long 0, .int 0, .int 0, .int 0, .int 0, .long 0])), (ma 39, .inl (G.2 0, 6, .inl (fun _ => 0)))] H := hP
  have hD : va_D A [(m0, .inr (9, [.int 0, .int 0, .int 0, .int (-1), .ref (ma 4), .ref (ma 5), .ref (ma 6), .ref (ma 7), .ref (ma 8), .ref (ma 9), .ref (ma 10), .ref (ma 11), .ref (ma 12), .ref (ma 13), .ref (ma 14), .ref (ma 15), .ref (ma 16), .ref (ma 17), .ref (ma 18), .ref (ma 19), .int 0, .ref (ma 21), .ref (ma 22), .ref (ma 23), .ref (ma 24), .ref (ma 25), .ref (ma 26), .ref (ma 27), .ref (ma 28), .ref (ma 29), .ref (ma 30), .ref (ma 31), .ref (ma 32), .ref (ma 33), .ref (ma 34), .ref (ma 35), .ref (ma 36), .ref (ma 37), .int 0, .ref (ma 39), .ref (ma 40), .ref (ma 41), .ref (ma 42), .ref (ma 43), .ref (ma 44), .ref (ma 45), .ref (ma 46), .ref (ma 47), .ref (ma 48), .int 0, .int 0, .int 0, .int 0, .int 0, .int 0, .int 0, .long 0, .int 0, .long 0, .long 0, .long 0, .long 0, .int 0, .int 0, .int 0, .int 0, .long 0])), (ma 39, .inl (G.2 0, 6, .inl (fun _ => 0)))] := hD
  refine lv_iload_n hx hb dX9_yields_5 rfl (lv_at hl 3 rfl) ?_
  refine lv_if_lt (tgt := 15) hx hb dX9_yields_6 (by decide) (fun c_1 => ?_) (fun c_1 => ?_)
  · refine lv_iconst (v := 1) hx hb dX9_yields_15 (by decide) ?_
    refine lv_goto (tgt := 25) hx hb dX9_yields_16 (by decide) ?_
    refine lv_istore (lv' := [(4, .int 1), (0, .ref m0), (1, .int p0), (2, .int p1), (3, .int p2)]) hx hb dX9_yields_25 hl (by decide) rfl (fun ls hl => ?_)
    refine lv_iload hx hb dX9_yields_27 (lv_at hl 0 rfl) ?_
    refine lv_if_eq (tgt := 39) hx hb dX9_yields_29 (by decide) (fun c_2 => absurd c_2 (by decide +kernel)) (fun c_2 => ?_)
    refine lv_aload_n hx hb dX9_yields_32 rfl (lv_at hl 1 rfl) ?_
    refine lv_iload hx hb dX9_yields_33 (lv_at hl 0 rfl) ?_
    refine xVwi (rq := 0) (ci := 9) (wc := [(m0, .inr (9, [.int 0, .int 0, .int 0, .int (-1), .ref (ma 4), .ref (ma 5), .ref (ma 6), .ref (ma 7), .ref (ma 8), .ref (ma 9), .ref (ma 10), .ref (ma 11), .ref (ma 12), .ref (ma 13), .ref (ma 14), .ref (ma 15), .ref (ma 16), .ref (ma 17), .ref (ma 18), .ref (ma 19), .int 0, .ref (ma 21), .ref (ma 22), .ref (ma 23), .ref (ma 24), .ref (ma 25), .ref (ma 26), .ref (ma 27), .ref (ma 28), .ref (ma 29), .ref (ma 30), .ref (ma 31), .ref (ma 32), .ref (ma 33), .ref (ma 34), .ref (ma 35), .ref (ma 36), .ref (ma 37), .int 0, .ref (ma 39), .ref (ma 40), .ref (ma 41), .ref (ma 42), .ref (ma 43), .ref (ma 44), .ref (ma 45), .ref (ma 46), .ref (ma 47), .ref (ma 48), .int 0, .int 0, .int 0, .int 0, .int 0, .int 0, .int 0, .long 0, .int 0, .long 0, .long 0, .long 0, .long 0, .int 0, .int 0, .int 0, .int 0, .long 0])), (ma 39, .inl (G.2 0, 6, .inl (fun _ => 0)))]) (wr := []) (As := [.int 1]) (rest := []) C0 (c_X9_no l G m0 ma 1 (by unfold vp_in; decide +kernel)) ok_X9_no (mW177 : Cond.methodLink RX9 168 yX9_no ∈ wsT) ⟨Nat.le_of_ble_eq_true rfl, Nat.le_of_ble_eq_true rfl⟩ hP hD hS hA hK hN [0, 1] [] rfl rfl (by decide) (by decide) (by decide) rfl rfl rfl rfl hl.1 rfl (Nat.le_of_ble_eq_true rfl) ⟨Nat.le_of_ble_eq_true rfl, Nat.le_of_ble_eq_true rfl⟩ dX9_yields_35 (fun r_3 u_4 H locs hr_3 hP hD hS => ?_)
    have hP : va_P G.1 xcl [] H := hP
    have hD : va_D A [] := hD
    obtain rfl : r_3 = (-1) := hr_3
    have hP9 := hP.sub (ws' := []) [] rfl
    have hD9 := hD.sub (ws' := []) [] (by decide) rfl
    exact W.iret (v := (-1)) hx hb hr (fun t ht hW => ⟨⟨(-1), (), rfl, rfl, by rw [ht]; exact hP9, hD9⟩, hS.F ht⟩) hS.2.2 dX9_yields_38
  · refine lv_iload_n hx hb dX9_yields_9 rfl (lv_at hl 3 rfl) ?_
    refine lv_bipush (v := 31) hx hb dX9_yields_10 (by decide) ?_
    refine lv_icmp_le (tgt := 19) hx hb dX9_yields_12 (by decide) (fun c_5 => ?_) (fun c_5 => ?_)
    · refine lv_aload_n hx hb dX9_yields_19 rfl (lv_at hl 0 rfl) ?_
      refine lv_iload_n hx hb dX9_yields_20 rfl (lv_at hl 1 rfl) ?_
      refine lv_iload_n hx hb dX9_yields_21 rfl (lv_at hl 2 rfl) ?_
      refine xVri (rq := 0) (ci := 9) (wc := [(m0, .inr (9, [.int 0, .int 0, .int 0, .int (-1), .ref (ma 4), .ref (ma 5), .ref (ma 6), .ref (ma 7), .ref (ma 8), .ref (ma 9), .ref (ma 10), .ref (ma 11), .ref (ma 12), .ref (ma 13), .ref (ma 14), .ref (ma 15), .ref (ma 16), .ref (ma 17), .ref (ma 18), .ref (ma 19), .int 0, .ref (ma 21), .ref (ma 22), .ref (ma 23), .ref (ma 24), .ref (ma 25), .ref (ma 26), .ref (ma 27), .ref (ma 28), .ref (ma 29), .ref (ma 30), .ref (ma 31), .ref (ma 32), .ref (ma 33), .ref (ma 34), .ref (ma 35), .ref (ma 36), .ref (ma 37), .int 0, .ref (ma 39), .ref (ma 40), .ref (ma 41), .ref (ma 42), .ref (ma 43), .ref (ma 44), .ref (ma 45), .ref (ma 46), .ref (ma 47), .ref (ma 48), .int 0, .int 0, .int 0, .int 0, .int 0, .int 0, .int 0, .long 0, .int 0, .long 0, .long 0, .long 0, .long 0, .int 0, .int 0, .int 0, .int 0, .long 0]))]) (As := [.int p0, .int p1]) (rest := []) C0 (c_X9_termWhy l G m0 ma p0 p1) ok_X9_termWhy (mW248 : Cond.methodLink RX9 175 yX9_termWhy ∈ wsT) ⟨Nat.le_of_ble_eq_true rfl, Nat.le_of_ble_eq_true rfl⟩ hP hD hK hN [0] rfl (by decide) rfl rfl rfl rfl hl.1 rfl (Nat.le_of_ble_eq_true rfl) ⟨Nat.le_of_ble_eq_true rfl, Nat.le_of_ble_eq_true rfl⟩ dX9_yields_22 (fun r_6 hr_6 => ?_)
      refine lv_istore (lv' := [(4, .int r_6), (0, .ref m0), (1, .int p0), (2, .int p1), (3, .int p2)]) hx hb dX9_yields_25 hl (by decide) rfl (fun ls hl => ?_)
      refine lv_iload hx hb dX9_yields_27 (lv_at hl 0 rfl) ?_
      refine lv_if_eq (tgt := 39) hx hb dX9_yields_29 (by decide) (fun c_7 => absurd c_7 (xn0 hr_6)) (fun c_7 => ?_)
      refine lv_aload_n hx hb dX9_yields_32 rfl (lv_at hl 1 rfl) ?_
      refine lv_iload hx hb dX9_yields_33 (lv_at hl 0 rfl) ?_
      refine xVwi (rq := 0) (ci := 9) (wc := [(m0, .inr (9, [.int 0, .int 0, .int 0, .int (-1), .ref (ma 4), .ref (ma 5), .ref (ma 6), .ref (ma 7), .ref (ma 8), .ref (ma 9), .ref (ma 10), .ref (ma 11), .ref (ma 12), .ref (ma 13), .ref (ma 14), .ref (ma 15), .ref (ma 16), .ref (ma 17), .ref (ma 18), .ref (ma 19), .int 0, .ref (ma 21), .ref (ma 22), .ref (ma 23), .ref (ma 24), .ref (ma 25), .ref (ma 26), .ref (ma 27), .ref (ma 28), .ref (ma 29), .ref (ma 30), .ref (ma 31), .ref (ma 32), .ref (ma 33), .ref (ma 34), .ref (ma 35), .ref (ma 36), .ref (ma 37), .int 0, .ref (ma 39), .ref (ma 40), .ref (ma 41), .ref (ma 42), .ref (ma 43), .ref (ma 44), .ref (ma 45), .ref (ma 46), .ref (ma 47), .ref (ma 48), .int 0, .int 0, .int 0, .int 0, .int 0, .int 0, .int 0, .long 0, .int 0, .long 0, .long 0, .long 0, .long 0, .int 0, .int 0, .int 0, .int 0, .long 0])), (ma 39, .inl (G.2 0, 6, .inl (fun _ => 0)))]) (wr := []) (As := [.int r_6]) (rest := []) C0 (c_X9_no l G m0 ma r_6 (xin6 hr_6)) ok_X9_no (mW177 : Cond.methodLink RX9 168 yX9_no ∈ wsT) ⟨Nat.le_of_ble_eq_true rfl, Nat.le_of_ble_eq_true rfl⟩ hP hD hS hA hK hN [0, 1] [] rfl rfl (by decide) (by decide) (by decide) rfl rfl rfl rfl hl.1 rfl (Nat.le_of_ble_eq_true rfl) ⟨Nat.le_of_ble_eq_true rfl, Nat.le_of_ble_eq_true rfl⟩ dX9_yields_35 (fun r_8 u_9 H locs hr_8 hP hD hS => ?_)
      have hP : va_P G.1 xcl [] H := hP
      have hD : va_D A [] := hD
      obtain rfl : r_8 = (-1) := hr_8
      have hP9 := hP.sub (ws' := []) [] rfl
      have hD9 := hD.sub (ws' := []) [] (by decide) rfl
      exact W.iret (v := (-1)) hx hb hr (fun t ht hW => ⟨⟨(-1), (), rfl, rfl, by rw [ht]; exact hP9, hD9⟩, hS.F ht⟩) hS.2.2 dX9_yields_38
    · refine lv_iconst (v := 1) hx hb dX9_yields_15 (by decide) ?_
      refine lv_goto (tgt := 25) hx hb dX9_yields_16 (by decide) ?_
      refine lv_istore (lv' := [(4, .int 1), (0, .ref m0), (1, .int p0), (2, .int p1), (3, .int p2)]) hx hb dX9_yields_25 hl (by decide) rfl (fun ls hl => ?_)
      refine lv_iload hx hb dX9_yields_27 (lv_at hl 0 rfl) ?_
      refine lv_if_eq (tgt := 39) hx hb dX9_yields_29 (by decide) (fun c_10 => absurd c_10 (by decide +kernel)) (fun c_10 => ?_)
      refine lv_aload_n hx hb dX9_yields_32 rfl (lv_at hl 1 rfl) ?_
      refine lv_iload hx hb dX9_yields_33 (lv_at hl 0 rfl) ?_
      refine xVwi (rq := 0) (ci := 9) (wc := [(m0, .inr (9, [.int 0, .int 0, .int 0, .int (-1), .ref (ma 4), .ref (ma 5), .ref (ma 6), .ref (ma 7), .ref (ma 8), .ref (ma 9), .ref (ma 10), .ref (ma 11), .ref (ma 12), .ref (ma 13), .ref (ma 14), .ref (ma 15), .ref (ma 16), .ref (ma 17), .ref (ma 18), .ref (ma 19), .int 0, .ref (ma 21), .ref (ma 22), .ref (ma 23), .ref (ma 24), .ref (ma 25), .ref (ma 26), .ref (ma 27), .ref (ma 28), .ref (ma 29), .ref (ma 30), .ref (ma 31), .ref (ma 32), .ref (ma 33), .ref (ma 34), .ref (ma 35), .ref (ma 36), .ref (ma 37), .int 0, .ref (ma 39), .ref (ma 40), .ref (ma 41), .ref (ma 42), .ref (ma 43), .ref (ma 44), .ref (ma 45), .ref (ma 46), .ref (ma 47), .ref (ma 48), .int 0, .int 0, .int 0, .int 0, .int 0, .int 0, .int 0, .long 0, .int 0, .long 0, .long 0, .long 0, .long 0, .int 0, .int 0, .int 0, .int 0, .long 0])), (ma 39, .inl (G.2 0, 6, .inl (fun _ => 0)))]) (wr := []) (As := [.int 1]) (rest := []) C0 (c_X9_no l G m0 ma 1 (by unfold vp_in; decide +kernel)) ok_X9_no (mW177 : Cond.methodLink RX9 168 yX9_no ∈ wsT) ⟨Nat.le_of_ble_eq_true rfl, Nat.le_of_ble_eq_true rfl⟩ hP hD hS hA hK hN [0, 1] [] rfl rfl (by decide) (by decide) (by decide) rfl rfl rfl rfl hl.1 rfl (Nat.le_of_ble_eq_true rfl) ⟨Nat.le_of_ble_eq_true rfl, Nat.le_of_ble_eq_true rfl⟩ dX9_yields_35 (fun r_11 u_12 H locs hr_11 hP hD hS => ?_)
      have hP : va_P G.1 xcl [] H := hP
      have hD : va_D A [] := hD
      obtain rfl : r_11 = (-1) := hr_11
      have hP9 := hP.sub (ws' := []) [] rfl
      have hD9 := hD.sub (ws' := []) [] (by decide) rfl
      exact W.iret (v := (-1)) hx hb hr (fun t ht hW => ⟨⟨(-1), (), rfl, rfl, by rw [ht]; exact hP9, hD9⟩, hS.F ht⟩) hS.2.2 dX9_yields_38
theorem dX9_amount_0 : decode cX9_amount 0 = .ok (.aload_n 0, 1) := by decide +kernel
theorem dX9_amount_1 : decode cX9_amount 1 = .ok (.iconst 0, 1) := by decide +kernel
theorem dX9_amount_2 : decode cX9_amount 2 = .ok (.putfield 147, 3) := by decide +kernel
theorem dX9_amount_5 : decode cX9_amount 5 = .ok (.iload_n 3, 1) := by decide +kernel
theorem dX9_amount_6 : decode cX9_amount 6 = .ok (.ldc 178, 2) := by decide +kernel
theorem dX9_amount_8 : decode cX9_amount 8 = .ok (.if_icmp .lt 9, 3) := by decide +kernel
theorem dX9_amount_11 : decode cX9_amount 11 = .ok (.iload_n 3, 1) := by decide +kernel
theorem dX9_amount_12 : decode cX9_amount 12 = .ok (.ldc 179, 2) := by decide +kernel
theorem dX9_amount_14 : decode cX9_amount 14 = .ok (.if_icmp .le 7, 3) := by decide +kernel
theorem dX9_amount_17 : decode cX9_amount 17 = .ok (.iconst 1, 1) := by decide +kernel
theorem dX9_amount_18 : decode cX9_amount 18 = .ok (.goto 9, 3) := by decide +kernel
theorem dX9_amount_21 : decode cX9_amount 21 = .ok (.aload_n 0, 1) := by decide +kernel
theorem dX9_amount_22 : decode cX9_amount 22 = .ok (.iload_n 1, 1) := by decide +kernel
theorem dX9_amount_23 : decode cX9_amount 23 = .ok (.iload_n 2, 1) := by decide +kernel
theorem dX9_amount_24 : decode cX9_amount 24 = .ok (.invokevirtual 175, 3) := by decide +kernel
theorem dX9_amount_27 : decode cX9_amount 27 = .ok (.istore 4, 2) := by decide +kernel
theorem dX9_amount_29 : decode cX9_amount 29 = .ok (.iload 4, 2) := by decide +kernel
theorem dX9_amount_31 : decode cX9_amount 31 = .ok (.ifCond .eq 12, 3) := by decide +kernel
theorem dX9_amount_34 : decode cX9_amount 34 = .ok (.aload_n 0, 1) := by decide +kernel
theorem dX9_amount_35 : decode cX9_amount 35 = .ok (.iload 4, 2) := by decide +kernel
theorem dX9_amount_37 : decode cX9_amount 37 = .ok (.invokevirtual 168, 3) := by decide +kernel
theorem dX9_amount_40 : decode cX9_amount 40 = .ok (.pop, 1) := by decide +kernel
theorem dX9_amount_41 : decode cX9_amount 41 = .ok (.iconst 0, 1) := by decide +kernel
theorem dX9_amount_42 : decode cX9_amount 42 = .ok (.ireturn, 1) := by decide +kernel
set_option maxHeartbeats 4000000 in
set_option maxRecDepth 100000 in
theorem c_X9_amount (l : Launch) (G : xG) (m0 : Nat) (ma : Nat → Nat) (p0 : Int32) (p1 : Int32) (p2 : Int32)  : xWi l G yX9_amount cX9_amount 5 (some .boolean) 3 66 0 0 [.ref m0, .int p0, .int p1, .int p2] [(m0, .inr (9, [.int 0, .int 0, .int 0, .int (-1), .ref (ma 4), .ref (ma 5), .ref (ma 6), .ref (ma 7), .ref (ma 8), .ref (ma 9), .ref (ma 10), .ref (ma 11), .ref (ma 12), .ref (ma 13), .ref (ma 14), .ref (ma 15), .ref (ma 16), .ref (ma 17), .ref (ma 18), .ref (ma 19), .int 0, .ref (ma 21), .ref (ma 22), .ref (ma 23), .ref (ma 24), .ref (ma 25), .ref (ma 26), .ref (ma 27), .ref (ma 28), .ref (ma 29), .ref (ma 30), .ref (ma 31), .ref (ma 32), .ref (ma 33), .ref (ma 34), .ref (ma 35), .ref (ma 36), .ref (ma 37), .int 0, .ref (ma 39), .ref (ma 40), .ref (ma 41), .ref (ma 42), .ref (ma 43), .ref (ma 44), .ref (ma 45), .ref (ma 46), .ref (ma 47), .ref (ma 48), .int 0, .int 0, .int 0, .int 0, .int 0, .int 0, .int 0, .long 0, .int 0, .long 0, .long 0, .long 0, .long 0, .int 0, .int 0, .int 0, .int 0, .long 0])), (ma 39, .inl (G.2 0, 6, .inl (fun _ => 0)))] (S := Unit) (fun r _ => r = 0) (fun _ => []) := by
  intro sz
  refine xstart (by decide) (Nat.le_of_ble_eq_true rfl) (fun p e s m args below meth c ls C0 hr hlocks hin hsz hP hK hD hN hl => ?_)
  obtain ⟨hx, hb, hml, hown, htl⟩ := id C0
  subst hsz
  have hD := hD.self (sz := s.heap.size)
  generalize hAe : va_A [(m0, .inr (9, [.int 0, .int 0, .int 0, .int (-1), .ref (ma 4), .ref (ma 5), .ref (ma 6), .ref (ma 7), .ref (ma 8), .ref (ma 9), .ref (ma 10), .ref (ma 11), .ref (ma 12), .ref (ma 13), .ref (ma 14), .ref (ma 15), .ref (ma 16), .ref (ma 17), .ref (ma 18), .ref (ma 19), .int 0, .ref (ma 21), .ref (ma 22), .ref (ma 23), .ref (ma 24), .ref (ma 25), .ref (ma 26), .ref (ma 27), .ref (ma 28), .ref (ma 29), .ref (ma 30), .ref (ma 31), .ref (ma 32), .ref (ma 33), .ref (ma 34), .ref (ma 35), .ref (ma 36), .ref (ma 37), .int 0, .ref (ma 39), .ref (ma 40), .ref (ma 41), .ref (ma 42), .ref (ma 43), .ref (ma 44), .ref (ma 45), .ref (ma 46), .ref (ma 47), .ref (ma 48), .int 0, .int 0, .int 0, .int 0, .int 0, .int 0, .int 0, .long 0, .int 0, .long 0, .long 0, .long 0, .long 0, .int 0, .int 0, .int 0, .int 0, .long 0])), (ma 39, .inl (G.2 0, 6, .inl (fun _ => 0)))] s.heap.size = A at hD ⊢
  have hA : ∀ q : Nat, s.heap.size ≤ q → A q := fun q h => by rw [← hAe]; exact Or.inr h
  have hS : va_S A s.heap s.heap [] := va_S.rf
  have hl : lv_has ls 5 [(0, .ref m0), (1, .int p0), (2, .int p1), (3, .int p2)] := hl
  refine lv_aload_n hx hb dX9_amount_0 rfl (lv_at hl 0 rfl) ?_
  refine lv_iconst (v := 0) hx hb dX9_amount_1 (by decide) ?_
  refine va_put (D := G.1) (ci := 9) (v := .int 0) (ty := .int) (C := RX9) (T := TX9) (N := 67) hx hb htl inlX9 tyX9 tyX9_ok nmX9 hown hK hP hD hS 0 rfl rfl 38 (by decide) (htl (.fieldLink RX9 147 "LaytimeDeskModel" "reason" "I") mW175) (fun _ h9 => h9) rfl (by decide +kernel) rfl rfl (Nat.le_of_ble_eq_true rfl) dX9_amount_2 (fun H locs hP hD hS => ?_)
  have hP : va_P G.1 xcl [(m0, .inr (9, [.int 0, .int 0, .int 0, .int (-1), .ref (ma 4), .ref (ma 5), .ref (ma 6), .ref (ma 7), .ref (ma 8), .ref (ma 9), .ref (ma 10), .ref (ma 11), .ref (ma 12), .ref (ma 13), .ref (ma 14), .ref (ma 15), .ref (ma 16), .ref (ma 17), .ref (ma 18), .ref (ma 19), .int 0, .ref (ma 21), .ref (ma 22), .ref (ma 23), .ref (ma 24), .ref (ma 25), .ref (ma 26), .ref (ma 27), .ref (ma 28), .ref (ma 29), .ref (ma 30), .ref (ma 31), .ref (ma 32), .ref (ma 33), .ref (ma 34), .ref (ma 35), .ref (ma 36), .ref (ma 37), .int 0, .ref (ma 39), .ref (ma 40), .ref (ma 41), .ref (ma 42), .ref (ma 43), .ref (ma 44), .ref (ma 45), .ref (ma 46), .ref (ma 47), .ref (ma 48), .int 0, .int 0, .int 0, .int 0, .int 0, .int 0, .int 0, .long 0, .int 0, .long 0, .long 0, .long 0, .long 0, .int 0, .int 0, .int 0, .int 0, .long 0])), (ma 39, .inl (G.2 0, 6, .inl (fun _ => 0)))] H := hP
  have hD : va_D A [(m0, .inr (9, [.int 0, .int 0, .int 0, .int (-1), .ref (ma 4), .ref (ma 5), .ref (ma 6), .ref (ma 7), .ref (ma 8), .ref (ma 9), .ref (ma 10), .ref (ma 11), .ref (ma 12), .ref (ma 13), .ref (ma 14), .ref (ma 15), .ref (ma 16), .ref (ma 17), .ref (ma 18), .ref (ma 19), .int 0, .ref (ma 21), .ref (ma 22), .ref (ma 23), .ref (ma 24), .ref (ma 25), .ref (ma 26), .ref (ma 27), .ref (ma 28), .ref (ma 29), .ref (ma 30), .ref (ma 31), .ref (ma 32), .ref (ma 33), .ref (ma 34), .ref (ma 35), .ref (ma 36), .ref (ma 37), .int 0, .ref (ma 39), .ref (ma 40), .ref (ma 41), .ref (ma 42), .ref (ma 43), .ref (ma 44), .ref (ma 45), .ref (ma 46), .ref (ma 47), .ref (ma 48), .int 0, .int 0, .int 0, .int 0, .int 0, .int 0, .int 0, .long 0, .int 0, .long 0, .long 0, .long 0, .long 0, .int 0, .int 0, .int 0, .int 0, .long 0])), (ma 39, .inl (G.2 0, 6, .inl (fun _ => 0)))] := hD
  refine lv_iload_n hx hb dX9_amount_5 rfl (lv_at hl 3 rfl) ?_
  refine lv_ldc (v := (-1000000)) hx hb hown (htl (.constant RX9 178 (-1000000)) mW263) dX9_amount_6 ?_
  refine lv_icmp_lt (tgt := 17) hx hb dX9_amount_8 (by decide) (fun c_1 => ?_) (fun c_1 => ?_)
  · refine lv_iconst (v := 1) hx hb dX9_amount_17 (by decide) ?_
    refine lv_goto (tgt := 27) hx hb dX9_amount_18 (by decide) ?_
    refine lv_istore (lv' := [(4, .int 1), (0, .ref m0), (1, .int p0), (2, .int p1), (3, .int p2)]) hx hb dX9_amount_27 hl (by decide) rfl (fun ls hl => ?_)
    refine lv_iload hx hb dX9_amount_29 (lv_at hl 0 rfl) ?_
    refine lv_if_eq (tgt := 43) hx hb dX9_amount_31 (by decide) (fun c_2 => absurd c_2 (by decide +kernel)) (fun c_2 => ?_)
    refine lv_aload_n hx hb dX9_amount_34 rfl (lv_at hl 1 rfl) ?_
    refine lv_iload hx hb dX9_amount_35 (lv_at hl 0 rfl) ?_
    refine xVwi (rq := 0) (ci := 9) (wc := [(m0, .inr (9, [.int 0, .int 0, .int 0, .int (-1), .ref (ma 4), .ref (ma 5), .ref (ma 6), .ref (ma 7), .ref (ma 8), .ref (ma 9), .ref (ma 10), .ref (ma 11), .ref (ma 12), .ref (ma 13), .ref (ma 14), .ref (ma 15), .ref (ma 16), .ref (ma 17), .ref (ma 18), .ref (ma 19), .int 0, .ref (ma 21), .ref (ma 22), .ref (ma 23), .ref (ma 24), .ref (ma 25), .ref (ma 26), .ref (ma 27), .ref (ma 28), .ref (ma 29), .ref (ma 30), .ref (ma 31), .ref (ma 32), .ref (ma 33), .ref (ma 34), .ref (ma 35), .ref (ma 36), .ref (ma 37), .int 0, .ref (ma 39), .ref (ma 40), .ref (ma 41), .ref (ma 42), .ref (ma 43), .ref (ma 44), .ref (ma 45), .ref (ma 46), .ref (ma 47), .ref (ma 48), .int 0, .int 0, .int 0, .int 0, .int 0, .int 0, .int 0, .long 0, .int 0, .long 0, .long 0, .long 0, .long 0, .int 0, .int 0, .int 0, .int 0, .long 0])), (ma 39, .inl (G.2 0, 6, .inl (fun _ => 0)))]) (wr := []) (As := [.int 1]) (rest := []) C0 (c_X9_no l G m0 ma 1 (by unfold vp_in; decide +kernel)) ok_X9_no (mW177 : Cond.methodLink RX9 168 yX9_no ∈ wsT) ⟨Nat.le_of_ble_eq_true rfl, Nat.le_of_ble_eq_true rfl⟩ hP hD hS hA hK hN [0, 1] [] rfl rfl (by decide) (by decide) (by decide) rfl rfl rfl rfl hl.1 rfl (Nat.le_of_ble_eq_true rfl) ⟨Nat.le_of_ble_eq_true rfl, Nat.le_of_ble_eq_true rfl⟩ dX9_amount_37 (fun r_3 u_4 H locs hr_3 hP hD hS => ?_)
    have hP : va_P G.1 xcl [] H := hP
    have hD : va_D A [] := hD
    obtain rfl : r_3 = (-1) := hr_3
    refine lv_pop hx hb dX9_amount_40 rfl ?_
    refine lv_iconst (v := 0) hx hb dX9_amount_41 (by decide) ?_
    have hP9 := hP.sub (ws' := []) [] rfl
    have hD9 := hD.sub (ws' := []) [] (by decide) rfl
    exact W.zret (v := 0) (ty := .boolean) hx hb hr rfl (fun t ht hW => ⟨⟨0, (), rfl, rfl, by rw [ht]; exact hP9, hD9⟩, hS.F ht⟩) hS.2.2 dX9_amount_42
  · refine lv_iload_n hx hb dX9_amount_11 rfl (lv_at hl 3 rfl) ?_
    refine lv_ldc (v := 1000000) hx hb hown (htl (.constant RX9 179 (1000000)) mW264) dX9_amount_12 ?_
    refine lv_icmp_le (tgt := 21) hx hb dX9_amount_14 (by decide) (fun c_5 => ?_) (fun c_5 => ?_)
    · refine lv_aload_n hx hb dX9_amount_21 rfl (lv_at hl 0 rfl) ?_
      refine lv_iload_n hx hb dX9_amount_22 rfl (lv_at hl 1 rfl) ?_
      refine lv_iload_n hx hb dX9_amount_23 rfl (lv_at hl 2 rfl) ?_
      refine xVri (rq := 0) (ci := 9) (wc := [(m0, .inr (9, [.int 0, .int 0, .int 0, .int (-1), .ref (ma 4), .ref (ma 5), .ref (ma 6), .ref (ma 7), .ref (ma 8), .ref (ma 9), .ref (ma 10), .ref (ma 11), .ref (ma 12), .ref (ma 13), .ref (ma 14), .ref (ma 15), .ref (ma 16), .ref (ma 17), .ref (ma 18), .ref (ma 19), .int 0, .ref (ma 21), .ref (ma 22), .ref (ma 23), .ref (ma 24), .ref (ma 25), .ref (ma 26), .ref (ma 27), .ref (ma 28), .ref (ma 29), .ref (ma 30), .ref (ma 31), .ref (ma 32), .ref (ma 33), .ref (ma 34), .ref (ma 35), .ref (ma 36), .ref (ma 37), .int 0, .ref (ma 39), .ref (ma 40), .ref (ma 41), .ref (ma 42), .ref (ma 43), .ref (ma 44), .ref (ma 45), .ref (ma 46), .ref (ma 47), .ref (ma 48), .int 0, .int 0, .int 0, .int 0, .int 0, .int 0, .int 0, .long 0, .int 0, .long 0, .long 0, .long 0, .long 0, .int 0, .int 0, .int 0, .int 0, .long 0]))]) (As := [.int p0, .int p1]) (rest := []) C0 (c_X9_termWhy l G m0 ma p0 p1) ok_X9_termWhy (mW248 : Cond.methodLink RX9 175 yX9_termWhy ∈ wsT) ⟨Nat.le_of_ble_eq_true rfl, Nat.le_of_ble_eq_true rfl⟩ hP hD hK hN [0] rfl (by decide) rfl rfl rfl rfl hl.1 rfl (Nat.le_of_ble_eq_true rfl) ⟨Nat.le_of_ble_eq_true rfl, Nat.le_of_ble_eq_true rfl⟩ dX9_amount_24 (fun r_6 hr_6 => ?_)
      refine lv_istore (lv' := [(4, .int r_6), (0, .ref m0), (1, .int p0), (2, .int p1), (3, .int p2)]) hx hb dX9_amount_27 hl (by decide) rfl (fun ls hl => ?_)
      refine lv_iload hx hb dX9_amount_29 (lv_at hl 0 rfl) ?_
      refine lv_if_eq (tgt := 43) hx hb dX9_amount_31 (by decide) (fun c_7 => absurd c_7 (xn0 hr_6)) (fun c_7 => ?_)
      refine lv_aload_n hx hb dX9_amount_34 rfl (lv_at hl 1 rfl) ?_
      refine lv_iload hx hb dX9_amount_35 (lv_at hl 0 rfl) ?_
      refine xVwi (rq := 0) (ci := 9) (wc := [(m0, .inr (9, [.int 0, .int 0, .int 0, .int (-1), .ref (ma 4), .ref (ma 5), .ref (ma 6), .ref (ma 7), .ref (ma 8), .ref (ma 9), .ref (ma 10), .ref (ma 11), .ref (ma 12), .ref (ma 13), .ref (ma 14), .ref (ma 15), .ref (ma 16), .ref (ma 17), .ref (ma 18), .ref (ma 19), .int 0, .ref (ma 21), .ref (ma 22), .ref (ma 23), .ref (ma 24), .ref (ma 25), .ref (ma 26), .ref (ma 27), .ref (ma 28), .ref (ma 29), .ref (ma 30), .ref (ma 31), .ref (ma 32), .ref (ma 33), .ref (ma 34), .ref (ma 35), .ref (ma 36), .ref (ma 37), .int 0, .ref (ma 39), .ref (ma 40), .ref (ma 41), .ref (ma 42), .ref (ma 43), .ref (ma 44), .ref (ma 45), .ref (ma 46), .ref (ma 47), .ref (ma 48), .int 0, .int 0, .int 0, .int 0, .int 0, .int 0, .int 0, .long 0, .int 0, .long 0, .long 0, .long 0, .long 0, .int 0, .int 0, .int 0, .int 0, .long 0])), (ma 39, .inl (G.2 0, 6, .inl (fun _ => 0)))]) (wr := []) (As := [.int r_6]) (rest := []) C0 (c_X9_no l G m0 ma r_6 (xin6 hr_6)) ok_X9_no (mW177 : Cond.methodLink RX9 168 yX9_no ∈ wsT) ⟨Nat.le_of_ble_eq_true rfl, Nat.le_of_ble_eq_true rfl⟩ hP hD hS hA hK hN [0, 1] [] rfl rfl (by decide) (by decide) (by decide) rfl rfl rfl rfl hl.1 rfl (Nat.le_of_ble_eq_true rfl) ⟨Nat.le_of_ble_eq_true rfl, Nat.le_of_ble_eq_true rfl⟩ dX9_amount_37 (fun r_8 u_9 H locs hr_8 hP hD hS => ?_)
      have hP : va_P G.1 xcl [] H := hP
      have hD : va_D A [] := hD
      obtain rfl : r_8 = (-1) := hr_8
      refine lv_pop hx hb dX9_amount_40 rfl ?_
      refine lv_iconst (v := 0) hx hb dX9_amount_41 (by decide) ?_
      have hP9 := hP.sub (ws' := []) [] rfl
      have hD9 := hD.sub (ws' := []) [] (by decide) rfl
      exact W.zret (v := 0) (ty := .boolean) hx hb hr rfl (fun t ht hW => ⟨⟨0, (), rfl, rfl, by rw [ht]; exact hP9, hD9⟩, hS.F ht⟩) hS.2.2 dX9_amount_42
    · refine lv_iconst (v := 1) hx hb dX9_amount_17 (by decide) ?_
      refine lv_goto (tgt := 27) hx hb dX9_amount_18 (by decide) ?_
      refine lv_istore (lv' := [(4, .int 1), (0, .ref m0), (1, .int p0), (2, .int p1), (3, .int p2)]) hx hb dX9_amount_27 hl (by decide) rfl (fun ls hl => ?_)
      refine lv_iload hx hb dX9_amount_29 (lv_at hl 0 rfl) ?_
      refine lv_if_eq (tgt := 43) hx hb dX9_amount_31 (by decide) (fun c_10 => absurd c_10 (by decide +kernel)) (fun c_10 => ?_)
      refine lv_aload_n hx hb dX9_amount_34 rfl (lv_at hl 1 rfl) ?_
      refine lv_iload hx hb dX9_amount_35 (lv_at hl 0 rfl) ?_
      refine xVwi (rq := 0) (ci := 9) (wc := [(m0, .inr (9, [.int 0, .int 0, .int 0, .int (-1), .ref (ma 4), .ref (ma 5), .ref (ma 6), .ref (ma 7), .ref (ma 8), .ref (ma 9), .ref (ma 10), .ref (ma 11), .ref (ma 12), .ref (ma 13), .ref (ma 14), .ref (ma 15), .ref (ma 16), .ref (ma 17), .ref (ma 18), .ref (ma 19), .int 0, .ref (ma 21), .ref (ma 22), .ref (ma 23), .ref (ma 24), .ref (ma 25), .ref (ma 26), .ref (ma 27), .ref (ma 28), .ref (ma 29), .ref (ma 30), .ref (ma 31), .ref (ma 32), .ref (ma 33), .ref (ma 34), .ref (ma 35), .ref (ma 36), .ref (ma 37), .int 0, .ref (ma 39), .ref (ma 40), .ref (ma 41), .ref (ma 42), .ref (ma 43), .ref (ma 44), .ref (ma 45), .ref (ma 46), .ref (ma 47), .ref (ma 48), .int 0, .int 0, .int 0, .int 0, .int 0, .int 0, .int 0, .long 0, .int 0, .long 0, .long 0, .long 0, .long 0, .int 0, .int 0, .int 0, .int 0, .long 0])), (ma 39, .inl (G.2 0, 6, .inl (fun _ => 0)))]) (wr := []) (As := [.int 1]) (rest := []) C0 (c_X9_no l G m0 ma 1 (by unfold vp_in; decide +kernel)) ok_X9_no (mW177 : Cond.methodLink RX9 168 yX9_no ∈ wsT) ⟨Nat.le_of_ble_eq_true rfl, Nat.le_of_ble_eq_true rfl⟩ hP hD hS hA hK hN [0, 1] [] rfl rfl (by decide) (by decide) (by decide) rfl rfl rfl rfl hl.1 rfl (Nat.le_of_ble_eq_true rfl) ⟨Nat.le_of_ble_eq_true rfl, Nat.le_of_ble_eq_true rfl⟩ dX9_amount_37 (fun r_11 u_12 H locs hr_11 hP hD hS => ?_)
      have hP : va_P G.1 xcl [] H := hP
      have hD : va_D A [] := hD
      obtain rfl : r_11 = (-1) := hr_11
      refine lv_pop hx hb dX9_amount_40 rfl ?_
      refine lv_iconst (v := 0) hx hb dX9_amount_41 (by decide) ?_
      have hP9 := hP.sub (ws' := []) [] rfl
      have hD9 := hD.sub (ws' := []) [] (by decide) rfl
      exact W.zret (v := 0) (ty := .boolean) hx hb hr rfl (fun t ht hW => ⟨⟨0, (), rfl, rfl, by rw [ht]; exact hP9, hD9⟩, hS.F ht⟩) hS.2.2 dX9_amount_42
theorem dX9_heading_0 : decode cX9_heading 0 = .ok (.aload_n 0, 1) := by decide +kernel
theorem dX9_heading_1 : decode cX9_heading 1 = .ok (.iconst 0, 1) := by decide +kernel
theorem dX9_heading_2 : decode cX9_heading 2 = .ok (.putfield 147, 3) := by decide +kernel
theorem dX9_heading_5 : decode cX9_heading 5 = .ok (.aload_n 0, 1) := by decide +kernel
theorem dX9_heading_6 : decode cX9_heading 6 = .ok (.iload_n 1, 1) := by decide +kernel
theorem dX9_heading_7 : decode cX9_heading 7 = .ok (.iload_n 2, 1) := by decide +kernel
theorem dX9_heading_8 : decode cX9_heading 8 = .ok (.invokevirtual 171, 3) := by decide +kernel
theorem dX9_heading_11 : decode cX9_heading 11 = .ok (.istore 4, 2) := by decide +kernel
theorem dX9_heading_13 : decode cX9_heading 13 = .ok (.iload 4, 2) := by decide +kernel
theorem dX9_heading_15 : decode cX9_heading 15 = .ok (.ifCond .eq 12, 3) := by decide +kernel
theorem dX9_heading_18 : decode cX9_heading 18 = .ok (.aload_n 0, 1) := by decide +kernel
theorem dX9_heading_19 : decode cX9_heading 19 = .ok (.iload 4, 2) := by decide +kernel
theorem dX9_heading_21 : decode cX9_heading 21 = .ok (.invokevirtual 168, 3) := by decide +kernel
theorem dX9_heading_24 : decode cX9_heading 24 = .ok (.pop, 1) := by decide +kernel
theorem dX9_heading_25 : decode cX9_heading 25 = .ok (.iconst 0, 1) := by decide +kernel
theorem dX9_heading_26 : decode cX9_heading 26 = .ok (.ireturn, 1) := by decide +kernel
set_option maxHeartbeats 4000000 in
set_option maxRecDepth 100000 in
theorem c_X9_heading (l : Launch) (G : xG) (m0 : Nat) (ma : Nat → Nat) (p0 : Int32) (p1 : Int32) (p2 : Int32)  : xWi l G yX9_heading cX9_heading 5 (some .boolean) 2 43 0 0 [.ref m0, .int p0, .int p1, .int p2] [(m0, .inr (9, [.int 0, .int 0, .int 0, .int (-1), .ref (ma 4), .ref (ma 5), .ref (ma 6), .ref (ma 7), .ref (ma 8), .ref (ma 9), .ref (ma 10), .ref (ma 11), .ref (ma 12), .ref (ma 13), .ref (ma 14), .ref (ma 15), .ref (ma 16), .ref (ma 17), .ref (ma 18), .ref (ma 19), .int 0, .ref (ma 21), .ref (ma 22), .ref (ma 23), .ref (ma 24), .ref (ma 25), .ref (ma 26), .ref (ma 27), .ref (ma 28), .ref (ma 29), .ref (ma 30), .ref (ma 31), .ref (ma 32), .ref (ma 33), .ref (ma 34), .ref (ma 35), .ref (ma 36), .ref (ma 37), .int 0, .ref (ma 39), .ref (ma 40), .ref (ma 41), .ref (ma 42), .ref (ma 43), .ref (ma 44), .ref (ma 45), .ref (ma 46), .ref (ma 47), .ref (ma 48), .int 0, .int 0, .int 0, .int 0, .int 0, .int 0, .int 0, .long 0, .int 0, .long 0, .long 0, .long 0, .long 0, .int 0, .int 0, .int 0, .int 0, .long 0])), (ma 39, .inl (G.2 0, 6, .inl (fun _ => 0)))] (S := Unit) (fun r _ => r = 0) (fun _ => []) := by
  intro sz
  refine xstart (by decide) (Nat.le_of_ble_eq_true rfl) (fun p e s m args below meth c ls C0 hr hlocks hin hsz hP hK hD hN hl => ?_)
  obtain ⟨hx, hb, hml, hown, htl⟩ := id C0
  subst hsz
  have hD := hD.self (sz := s.heap.size)
  generalize hAe : va_A [(m0, .inr (9, [.int 0, .int 0, .int 0, .int (-1), .ref (ma 4), .ref (ma 5), .ref (ma 6), .ref (ma 7), .ref (ma 8), .ref (ma 9), .ref (ma 10), .ref (ma 11), .ref (ma 12), .ref (ma 13), .ref (ma 14), .ref (ma 15), .ref (ma 16), .ref (ma 17), .ref (ma 18), .ref (ma 19), .int 0, .ref (ma 21), .ref (ma 22), .ref (ma 23), .ref (ma 24), .ref (ma 25), .ref (ma 26), .ref (ma 27), .ref (ma 28), .ref (ma 29), .ref (ma 30), .ref (ma 31), .ref (ma 32), .ref (ma 33), .ref (ma 34), .ref (ma 35), .ref (ma 36), .ref (ma 37), .int 0, .ref (ma 39), .ref (ma 40), .ref (ma 41), .ref (ma 42), .ref (ma 43), .ref (ma 44), .ref (ma 45), .ref (ma 46), .ref (ma 47), .ref (ma 48), .int 0, .int 0, .int 0, .int 0, .int 0, .int 0, .int 0, .long 0, .int 0, .long 0, .long 0, .long 0, .long 0, .int 0, .int 0, .int 0, .int 0, .long 0])), (ma 39, .inl (G.2 0, 6, .inl (fun _ => 0)))] s.heap.size = A at hD ⊢
  have hA : ∀ q : Nat, s.heap.size ≤ q → A q := fun q h => by rw [← hAe]; exact Or.inr h
  have hS : va_S A s.heap s.heap [] := va_S.rf
  have hl : lv_has ls 5 [(0, .ref m0), (1, .int p0), (2, .int p1), (3, .int p2)] := hl
  refine lv_aload_n hx hb dX9_heading_0 rfl (lv_at hl 0 rfl) ?_
  refine lv_iconst (v := 0) hx hb dX9_heading_1 (by decide) ?_
  refine va_put (D := G.1) (ci := 9) (v := .int 0) (ty := .int) (C := RX9) (T := TX9) (N := 67) hx hb htl inlX9 tyX9 tyX9_ok nmX9 hown hK hP hD hS 0 rfl rfl 38 (by decide) (htl (.fieldLink RX9 147 "LaytimeDeskModel" "reason" "I") mW175) (fun _ h9 => h9) rfl (by decide +kernel) rfl rfl (Nat.le_of_ble_eq_true rfl) dX9_heading_2 (fun H locs hP hD hS => ?_)
  have hP : va_P G.1 xcl [(m0, .inr (9, [.int 0, .int 0, .int 0, .int (-1), .ref (ma 4), .ref (ma 5), .ref (ma 6), .ref (ma 7), .ref (ma 8), .ref (ma 9), .ref (ma 10), .ref (ma 11), .ref (ma 12), .ref (ma 13), .ref (ma 14), .ref (ma 15), .ref (ma 16), .ref (ma 17), .ref (ma 18), .ref (ma 19), .int 0, .ref (ma 21), .ref (ma 22), .ref (ma 23), .ref (ma 24), .ref (ma 25), .ref (ma 26), .ref (ma 27), .ref (ma 28), .ref (ma 29), .ref (ma 30), .ref (ma 31), .ref (ma 32), .ref (ma 33), .ref (ma 34), .ref (ma 35), .ref (ma 36), .ref (ma 37), .int 0, .ref (ma 39), .ref (ma 40), .ref (ma 41), .ref (ma 42), .ref (ma 43), .ref (ma 44), .ref (ma 45), .ref (ma 46), .ref (ma 47), .ref (ma 48), .int 0, .int 0, .int 0, .int 0, .int 0, .int 0, .int 0, .long 0, .int 0, .long 0, .long 0, .long 0, .long 0, .int 0, .int 0, .int 0, .int 0, .long 0])), (ma 39, .inl (G.2 0, 6, .inl (fun _ => 0)))] H := hP
  have hD : va_D A [(m0, .inr (9, [.int 0, .int 0, .int 0, .int (-1), .ref (ma 4), .ref (ma 5), .ref (ma 6), .ref (ma 7), .ref (ma 8), .ref (ma 9), .ref (ma 10), .ref (ma 11), .ref (ma 12), .ref (ma 13), .ref (ma 14), .ref (ma 15), .ref (ma 16), .ref (ma 17), .ref (ma 18), .ref (ma 19), .int 0, .ref (ma 21), .ref (ma 22), .ref (ma 23), .ref (ma 24), .ref (ma 25), .ref (ma 26), .ref (ma 27), .ref (ma 28), .ref (ma 29), .ref (ma 30), .ref (ma 31), .ref (ma 32), .ref (ma 33), .ref (ma 34), .ref (ma 35), .ref (ma 36), .ref (ma 37), .int 0, .ref (ma 39), .ref (ma 40), .ref (ma 41), .ref (ma 42), .ref (ma 43), .ref (ma 44), .ref (ma 45), .ref (ma 46), .ref (ma 47), .ref (ma 48), .int 0, .int 0, .int 0, .int 0, .int 0, .int 0, .int 0, .long 0, .int 0, .long 0, .long 0, .long 0, .long 0, .int 0, .int 0, .int 0, .int 0, .long 0])), (ma 39, .inl (G.2 0, 6, .inl (fun _ => 0)))] := hD
  refine lv_aload_n hx hb dX9_heading_5 rfl (lv_at hl 0 rfl) ?_
  refine lv_iload_n hx hb dX9_heading_6 rfl (lv_at hl 1 rfl) ?_
  refine lv_iload_n hx hb dX9_heading_7 rfl (lv_at hl 2 rfl) ?_
  refine xVri (rq := 0) (ci := 9) (wc := [(m0, .inr (9, [.int 0, .int 0, .int 0, .int (-1), .ref (ma 4), .ref (ma 5), .ref (ma 6), .ref (ma 7), .ref (ma 8), .ref (ma 9), .ref (ma 10), .ref (ma 11), .ref (ma 12), .ref (ma 13), .ref (ma 14), .ref (ma 15), .ref (ma 16), .ref (ma 17), .ref (ma 18), .ref (ma 19), .int 0, .ref (ma 21), .ref (ma 22), .ref (ma 23), .ref (ma 24), .ref (ma 25), .ref (ma 26), .ref (ma 27), .ref (ma 28), .ref (ma 29), .ref (ma 30), .ref (ma 31), .ref (ma 32), .ref (ma 33), .ref (ma 34), .ref (ma 35), .ref (ma 36), .ref (ma 37), .int 0, .ref (ma 39), .ref (ma 40), .ref (ma 41), .ref (ma 42), .ref (ma 43), .ref (ma 44), .ref (ma 45), .ref (ma 46), .ref (ma 47), .ref (ma 48), .int 0, .int 0, .int 0, .int 0, .int 0, .int 0, .int 0, .long 0, .int 0, .long 0, .long 0, .long 0, .long 0, .int 0, .int 0, .int 0, .int 0, .long 0]))]) (As := [.int p0, .int p1]) (rest := []) C0 (c_X9_placeWhy l G m0 ma p0 p1) ok_X9_placeWhy (mW222 : Cond.methodLink RX9 171 yX9_placeWhy ∈ wsT) ⟨Nat.le_of_ble_eq_true rfl, Nat.le_of_ble_eq_true rfl⟩ hP hD hK hN [0] rfl (by decide) rfl rfl rfl rfl hl.1 rfl (Nat.le_of_ble_eq_true rfl) ⟨Nat.le_of_ble_eq_true rfl, Nat.le_of_ble_eq_true rfl⟩ dX9_heading_8 (fun r_1 hr_1 => ?_)
  refine lv_istore (lv' := [(4, .int r_1), (0, .ref m0), (1, .int p0), (2, .int p1), (3, .int p2)]) hx hb dX9_heading_11 hl (by decide) rfl (fun ls hl => ?_)
  refine lv_iload hx hb dX9_heading_13 (lv_at hl 0 rfl) ?_
  refine lv_if_eq (tgt := 27) hx hb dX9_heading_15 (by decide) (fun c_2 => absurd c_2 (xn0 hr_1)) (fun c_2 => ?_)
  refine lv_aload_n hx hb dX9_heading_18 rfl (lv_at hl 1 rfl) ?_
  refine lv_iload hx hb dX9_heading_19 (lv_at hl 0 rfl) ?_
  refine xVwi (rq := 0) (ci := 9) (wc := [(m0, .inr (9, [.int 0, .int 0, .int 0, .int (-1), .ref (ma 4), .ref (ma 5), .ref (ma 6), .ref (ma 7), .ref (ma 8), .ref (ma 9), .ref (ma 10), .ref (ma 11), .ref (ma 12), .ref (ma 13), .ref (ma 14), .ref (ma 15), .ref (ma 16), .ref (ma 17), .ref (ma 18), .ref (ma 19), .int 0, .ref (ma 21), .ref (ma 22), .ref (ma 23), .ref (ma 24), .ref (ma 25), .ref (ma 26), .ref (ma 27), .ref (ma 28), .ref (ma 29), .ref (ma 30), .ref (ma 31), .ref (ma 32), .ref (ma 33), .ref (ma 34), .ref (ma 35), .ref (ma 36), .ref (ma 37), .int 0, .ref (ma 39), .ref (ma 40), .ref (ma 41), .ref (ma 42), .ref (ma 43), .ref (ma 44), .ref (ma 45), .ref (ma 46), .ref (ma 47), .ref (ma 48), .int 0, .int 0, .int 0, .int 0, .int 0, .int 0, .int 0, .long 0, .int 0, .long 0, .long 0, .long 0, .long 0, .int 0, .int 0, .int 0, .int 0, .long 0])), (ma 39, .inl (G.2 0, 6, .inl (fun _ => 0)))]) (wr := []) (As := [.int r_1]) (rest := []) C0 (c_X9_no l G m0 ma r_1 (xin6 hr_1)) ok_X9_no (mW177 : Cond.methodLink RX9 168 yX9_no ∈ wsT) ⟨Nat.le_of_ble_eq_true rfl, Nat.le_of_ble_eq_true rfl⟩ hP hD hS hA hK hN [0, 1] [] rfl rfl (by decide) (by decide) (by decide) rfl rfl rfl rfl hl.1 rfl (Nat.le_of_ble_eq_true rfl) ⟨Nat.le_of_ble_eq_true rfl, Nat.le_of_ble_eq_true rfl⟩ dX9_heading_21 (fun r_3 u_4 H locs hr_3 hP hD hS => ?_)
  have hP : va_P G.1 xcl [] H := hP
  have hD : va_D A [] := hD
  obtain rfl : r_3 = (-1) := hr_3
  refine lv_pop hx hb dX9_heading_24 rfl ?_
  refine lv_iconst (v := 0) hx hb dX9_heading_25 (by decide) ?_
  have hP9 := hP.sub (ws' := []) [] rfl
  have hD9 := hD.sub (ws' := []) [] (by decide) rfl
  exact W.zret (v := 0) (ty := .boolean) hx hb hr rfl (fun t ht hW => ⟨⟨0, (), rfl, rfl, by rw [ht]; exact hP9, hD9⟩, hS.F ht⟩) hS.2.2 dX9_heading_26
theorem dX9_strike_0 : decode cX9_strike 0 = .ok (.aload_n 0, 1) := by decide +kernel
theorem dX9_strike_1 : decode cX9_strike 1 = .ok (.iconst 0, 1) := by decide +kernel
theorem dX9_strike_2 : decode cX9_strike 2 = .ok (.putfield 147, 3) := by decide +kernel
theorem dX9_strike_5 : decode cX9_strike 5 = .ok (.aload_n 0, 1) := by decide +kernel
theorem dX9_strike_6 : decode cX9_strike 6 = .ok (.iload_n 1, 1) := by decide +kernel
theorem dX9_strike_7 : decode cX9_strike 7 = .ok (.iload_n 2, 1) := by decide +kernel
theorem dX9_strike_8 : decode cX9_strike 8 = .ok (.invokevirtual 171, 3) := by decide +kernel
theorem dX9_strike_11 : decode cX9_strike 11 = .ok (.istore_n 3, 1) := by decide +kernel
theorem dX9_strike_12 : decode cX9_strike 12 = .ok (.iload_n 3, 1) := by decide +kernel
theorem dX9_strike_13 : decode cX9_strike 13 = .ok (.ifCond .ne 19, 3) := by decide +kernel
theorem dX9_strike_32 : decode cX9_strike 32 = .ok (.iload_n 3, 1) := by decide +kernel
theorem dX9_strike_33 : decode cX9_strike 33 = .ok (.ifCond .eq 11, 3) := by decide +kernel
theorem dX9_strike_36 : decode cX9_strike 36 = .ok (.aload_n 0, 1) := by decide +kernel
theorem dX9_strike_37 : decode cX9_strike 37 = .ok (.iload_n 3, 1) := by decide +kernel
theorem dX9_strike_38 : decode cX9_strike 38 = .ok (.invokevirtual 168, 3) := by decide +kernel
theorem dX9_strike_41 : decode cX9_strike 41 = .ok (.pop, 1) := by decide +kernel
theorem dX9_strike_42 : decode cX9_strike 42 = .ok (.iconst 0, 1) := by decide +kernel
theorem dX9_strike_43 : decode cX9_strike 43 = .ok (.ireturn, 1) := by decide +kernel
set_option maxHeartbeats 4000000 in
set_option maxRecDepth 100000 in
theorem c_X9_strike (l : Launch) (G : xG) (m0 : Nat) (ma : Nat → Nat) (p0 : Int32) (p1 : Int32)  : xWi l G yX9_strike cX9_strike 4 (some .boolean) 2 43 0 0 [.ref m0, .int p0, .int p1] [(m0, .inr (9, [.int 0, .int 0, .int 0, .int (-1), .ref (ma 4), .ref (ma 5), .ref (ma 6), .ref (ma 7), .ref (ma 8), .ref (ma 9), .ref (ma 10), .ref (ma 11), .ref (ma 12), .ref (ma 13), .ref (ma 14), .ref (ma 15), .ref (ma 16), .ref (ma 17), .ref (ma 18), .ref (ma 19), .int 0, .ref (ma 21), .ref (ma 22), .ref (ma 23), .ref (ma 24), .ref (ma 25), .ref (ma 26), .ref (ma 27), .ref (ma 28), .ref (ma 29), .ref (ma 30), .ref (ma 31), .ref (ma 32), .ref (ma 33), .ref (ma 34), .ref (ma 35), .ref (ma 36), .ref (ma 37), .int 0, .ref (ma 39), .ref (ma 40), .ref (ma 41), .ref (ma 42), .ref (ma 43), .ref (ma 44), .ref (ma 45), .ref (ma 46), .ref (ma 47), .ref (ma 48), .int 0, .int 0, .int 0, .int 0, .int 0, .int 0, .int 0, .long 0, .int 0, .long 0, .long 0, .long 0, .long 0, .int 0, .int 0, .int 0, .int 0, .long 0])), (ma 39, .inl (G.2 0, 6, .inl (fun _ => 0)))] (S := Unit) (fun r _ => r = 0) (fun _ => []) := by
  intro sz
  refine xstart (by decide) (Nat.le_of_ble_eq_true rfl) (fun p e s m args below meth c ls C0 hr hlocks hin hsz hP hK hD hN hl => ?_)
  obtain ⟨hx, hb, hml, hown, htl⟩ := id C0
  subst hsz
  have hD := hD.self (sz := s.heap.size)
  generalize hAe : va_A [(m0, .inr (9, [.int 0, .int 0, .int 0, .int (-1), .ref (ma 4), .ref (ma 5), .ref (ma 6), .ref (ma 7), .ref (ma 8), .ref (ma 9), .ref (ma 10), .ref (ma 11), .ref (ma 12), .ref (ma 13), .ref (ma 14), .ref (ma 15), .ref (ma 16), .ref (ma 17), .ref (ma 18), .ref (ma 19), .int 0, .ref (ma 21), .ref (ma 22), .ref (ma 23), .ref (ma 24), .ref (ma 25), .ref (ma 26), .ref (ma 27), .ref (ma 28), .ref (ma 29), .ref (ma 30), .ref (ma 31), .ref (ma 32), .ref (ma 33), .ref (ma 34), .ref (ma 35), .ref (ma 36), .ref (ma 37), .int 0, .ref (ma 39), .ref (ma 40), .ref (ma 41), .ref (ma 42), .ref (ma 43), .ref (ma 44), .ref (ma 45), .ref (ma 46), .ref (ma 47), .ref (ma 48), .int 0, .int 0, .int 0, .int 0, .int 0, .int 0, .int 0, .long 0, .int 0, .long 0, .long 0, .long 0, .long 0, .int 0, .int 0, .int 0, .int 0, .long 0])), (ma 39, .inl (G.2 0, 6, .inl (fun _ => 0)))] s.heap.size = A at hD ⊢
  have hA : ∀ q : Nat, s.heap.size ≤ q → A q := fun q h => by rw [← hAe]; exact Or.inr h
  have hS : va_S A s.heap s.heap [] := va_S.rf
  have hl : lv_has ls 4 [(0, .ref m0), (1, .int p0), (2, .int p1)] := hl
  refine lv_aload_n hx hb dX9_strike_0 rfl (lv_at hl 0 rfl) ?_
  refine lv_iconst (v := 0) hx hb dX9_strike_1 (by decide) ?_
  refine va_put (D := G.1) (ci := 9) (v := .int 0) (ty := .int) (C := RX9) (T := TX9) (N := 67) hx hb htl inlX9 tyX9 tyX9_ok nmX9 hown hK hP hD hS 0 rfl rfl 38 (by decide) (htl (.fieldLink RX9 147 "LaytimeDeskModel" "reason" "I") mW175) (fun _ h9 => h9) rfl (by decide +kernel) rfl rfl (Nat.le_of_ble_eq_true rfl) dX9_strike_2 (fun H locs hP hD hS => ?_)
  have hP : va_P G.1 xcl [(m0, .inr (9, [.int 0, .int 0, .int 0, .int (-1), .ref (ma 4), .ref (ma 5), .ref (ma 6), .ref (ma 7), .ref (ma 8), .ref (ma 9), .ref (ma 10), .ref (ma 11), .ref (ma 12), .ref (ma 13), .ref (ma 14), .ref (ma 15), .ref (ma 16), .ref (ma 17), .ref (ma 18), .ref (ma 19), .int 0, .ref (ma 21), .ref (ma 22), .ref (ma 23), .ref (ma 24), .ref (ma 25), .ref (ma 26), .ref (ma 27), .ref (ma 28), .ref (ma 29), .ref (ma 30), .ref (ma 31), .ref (ma 32), .ref (ma 33), .ref (ma 34), .ref (ma 35), .ref (ma 36), .ref (ma 37), .int 0, .ref (ma 39), .ref (ma 40), .ref (ma 41), .ref (ma 42), .ref (ma 43), .ref (ma 44), .ref (ma 45), .ref (ma 46), .ref (ma 47), .ref (ma 48), .int 0, .int 0, .int 0, .int 0, .int 0, .int 0, .int 0, .long 0, .int 0, .long 0, .long 0, .long 0, .long 0, .int 0, .int 0, .int 0, .int 0, .long 0])), (ma 39, .inl (G.2 0, 6, .inl (fun _ => 0)))] H := hP
  have hD : va_D A [(m0, .inr (9, [.int 0, .int 0, .int 0, .int (-1), .ref (ma 4), .ref (ma 5), .ref (ma 6), .ref (ma 7), .ref (ma 8), .ref (ma 9), .ref (ma 10), .ref (ma 11), .ref (ma 12), .ref (ma 13), .ref (ma 14), .ref (ma 15), .ref (ma 16), .ref (ma 17), .ref (ma 18), .ref (ma 19), .int 0, .ref (ma 21), .ref (ma 22), .ref (ma 23), .ref (ma 24), .ref (ma 25), .ref (ma 26), .ref (ma 27), .ref (ma 28), .ref (ma 29), .ref (ma 30), .ref (ma 31), .ref (ma 32), .ref (ma 33), .ref (ma 34), .ref (ma 35), .ref (ma 36), .ref (ma 37), .int 0, .ref (ma 39), .ref (ma 40), .ref (ma 41), .ref (ma 42), .ref (ma 43), .ref (ma 44), .ref (ma 45), .ref (ma 46), .ref (ma 47), .ref (ma 48), .int 0, .int 0, .int 0, .int 0, .int 0, .int 0, .int 0, .long 0, .int 0, .long 0, .long 0, .long 0, .long 0, .int 0, .int 0, .int 0, .int 0, .long 0])), (ma 39, .inl (G.2 0, 6, .inl (fun _ => 0)))] := hD
  refine lv_aload_n hx hb dX9_strike_5 rfl (lv_at hl 0 rfl) ?_
  refine lv_iload_n hx hb dX9_strike_6 rfl (lv_at hl 1 rfl) ?_
  refine lv_iload_n hx hb dX9_strike_7 rfl (lv_at hl 2 rfl) ?_
  refine xVri (rq := 0) (ci := 9) (wc := [(m0, .inr (9, [.int 0, .int 0, .int 0, .int (-1), .ref (ma 4), .ref (ma 5), .ref (ma 6), .ref (ma 7), .ref (ma 8), .ref (ma 9), .ref (ma 10), .ref (ma 11), .ref (ma 12), .ref (ma 13), .ref (ma 14), .ref (ma 15), .ref (ma 16), .ref (ma 17), .ref (ma 18), .ref (ma 19), .int 0, .ref (ma 21), .ref (ma 22), .ref (ma 23), .ref (ma 24), .ref (ma 25), .ref (ma 26), .ref (ma 27), .ref (ma 28), .ref (ma 29), .ref (ma 30), .ref (ma 31), .ref (ma 32), .ref (ma 33), .ref (ma 34), .ref (ma 35), .ref (ma 36), .ref (ma 37), .int 0, .ref (ma 39), .ref (ma 40), .ref (ma 41), .ref (ma 42), .ref (ma 43), .ref (ma 44), .ref (ma 45), .ref (ma 46), .ref (ma 47), .ref (ma 48), .int 0, .int 0, .int 0, .int 0, .int 0, .int 0, .int 0, .long 0, .int 0, .long 0, .long 0, .long 0, .long 0, .int 0, .int 0, .int 0, .int 0, .long 0]))]) (As := [.int p0, .int p1]) (rest := []) C0 (c_X9_placeWhy l G m0 ma p0 p1) ok_X9_placeWhy (mW222 : Cond.methodLink RX9 171 yX9_placeWhy ∈ wsT) ⟨Nat.le_of_ble_eq_true rfl, Nat.le_of_ble_eq_true rfl⟩ hP hD hK hN [0] rfl (by decide) rfl rfl rfl rfl hl.1 rfl (Nat.le_of_ble_eq_true rfl) ⟨Nat.le_of_ble_eq_true rfl, Nat.le_of_ble_eq_true rfl⟩ dX9_strike_8 (fun r_1 hr_1 => ?_)
  refine lv_istore_n (lv' := [(3, .int r_1), (0, .ref m0), (1, .int p0), (2, .int p1)]) hx hb dX9_strike_11 rfl hl (by decide) rfl (fun ls hl => ?_)
  refine lv_iload_n hx hb dX9_strike_12 rfl (lv_at hl 0 rfl) ?_
  refine lv_if_ne (tgt := 32) hx hb dX9_strike_13 (by decide) (fun c_2 => ?_) (fun c_2 => absurd c_2 (xn0 hr_1))
  refine lv_iload_n hx hb dX9_strike_32 rfl (lv_at hl 0 rfl) ?_
  refine lv_if_eq (tgt := 44) hx hb dX9_strike_33 (by decide) (fun c_3 => absurd c_3 (xn0 hr_1)) (fun c_3 => ?_)
  refine lv_aload_n hx hb dX9_strike_36 rfl (lv_at hl 1 rfl) ?_
  refine lv_iload_n hx hb dX9_strike_37 rfl (lv_at hl 0 rfl) ?_
  refine xVwi (rq := 0) (ci := 9) (wc := [(m0, .inr (9, [.int 0, .int 0, .int 0, .int (-1), .ref (ma 4), .ref (ma 5), .ref (ma 6), .ref (ma 7), .ref (ma 8), .ref (ma 9), .ref (ma 10), .ref (ma 11), .ref (ma 12), .ref (ma 13), .ref (ma 14), .ref (ma 15), .ref (ma 16), .ref (ma 17), .ref (ma 18), .ref (ma 19), .int 0, .ref (ma 21), .ref (ma 22), .ref (ma 23), .ref (ma 24), .ref (ma 25), .ref (ma 26), .ref (ma 27), .ref (ma 28), .ref (ma 29), .ref (ma 30), .ref (ma 31), .ref (ma 32), .ref (ma 33), .ref (ma 34), .ref (ma 35), .ref (ma 36), .ref (ma 37), .int 0, .ref (ma 39), .ref (ma 40), .ref (ma 41), .ref (ma 42), .ref (ma 43), .ref (ma 44), .ref (ma 45), .ref (ma 46), .ref (ma 47), .ref (ma 48), .int 0, .int 0, .int 0, .int 0, .int 0, .int 0, .int 0, .long 0, .int 0, .long 0, .long 0, .long 0, .long 0, .int 0, .int 0, .int 0, .int 0, .long 0])), (ma 39, .inl (G.2 0, 6, .inl (fun _ => 0)))]) (wr := []) (As := [.int r_1]) (rest := []) C0 (c_X9_no l G m0 ma r_1 (xin6 hr_1)) ok_X9_no (mW177 : Cond.methodLink RX9 168 yX9_no ∈ wsT) ⟨Nat.le_of_ble_eq_true rfl, Nat.le_of_ble_eq_true rfl⟩ hP hD hS hA hK hN [0, 1] [] rfl rfl (by decide) (by decide) (by decide) rfl rfl rfl rfl hl.1 rfl (Nat.le_of_ble_eq_true rfl) ⟨Nat.le_of_ble_eq_true rfl, Nat.le_of_ble_eq_true rfl⟩ dX9_strike_38 (fun r_4 u_5 H locs hr_4 hP hD hS => ?_)
  have hP : va_P G.1 xcl [] H := hP
  have hD : va_D A [] := hD
  obtain rfl : r_4 = (-1) := hr_4
  refine lv_pop hx hb dX9_strike_41 rfl ?_
  refine lv_iconst (v := 0) hx hb dX9_strike_42 (by decide) ?_
  have hP9 := hP.sub (ws' := []) [] rfl
  have hD9 := hD.sub (ws' := []) [] (by decide) rfl
  exact W.zret (v := 0) (ty := .boolean) hx hb hr rfl (fun t ht hW => ⟨⟨0, (), rfl, rfl, by rw [ht]; exact hP9, hD9⟩, hS.F ht⟩) hS.2.2 dX9_strike_43
theorem dX9_kind_0 : decode cX9_kind 0 = .ok (.aload_n 0, 1) := by decide +kernel
theorem dX9_kind_1 : decode cX9_kind 1 = .ok (.iconst 0, 1) := by decide +kernel
theorem dX9_kind_2 : decode cX9_kind 2 = .ok (.putfield 147, 3) := by decide +kernel
theorem dX9_kind_5 : decode cX9_kind 5 = .ok (.aload_n 0, 1) := by decide +kernel
theorem dX9_kind_6 : decode cX9_kind 6 = .ok (.iload_n 1, 1) := by decide +kernel
theorem dX9_kind_7 : decode cX9_kind 7 = .ok (.iload_n 2, 1) := by decide +kernel
theorem dX9_kind_8 : decode cX9_kind 8 = .ok (.invokevirtual 171, 3) := by decide +kernel
theorem dX9_kind_11 : decode cX9_kind 11 = .ok (.istore_n 3, 1) := by decide +kernel
theorem dX9_kind_12 : decode cX9_kind 12 = .ok (.iload_n 3, 1) := by decide +kernel
theorem dX9_kind_13 : decode cX9_kind 13 = .ok (.ifCond .eq 9, 3) := by decide +kernel
theorem dX9_kind_16 : decode cX9_kind 16 = .ok (.aload_n 0, 1) := by decide +kernel
theorem dX9_kind_17 : decode cX9_kind 17 = .ok (.iload_n 3, 1) := by decide +kernel
theorem dX9_kind_18 : decode cX9_kind 18 = .ok (.invokevirtual 168, 3) := by decide +kernel
theorem dX9_kind_21 : decode cX9_kind 21 = .ok (.ireturn, 1) := by decide +kernel
set_option maxHeartbeats 4000000 in
set_option maxRecDepth 100000 in
theorem c_X9_kind (l : Launch) (G : xG) (m0 : Nat) (ma : Nat → Nat) (p0 : Int32) (p1 : Int32)  : xWi l G yX9_kind cX9_kind 5 (some .int) 2 43 0 0 [.ref m0, .int p0, .int p1] [(m0, .inr (9, [.int 0, .int 0, .int 0, .int (-1), .ref (ma 4), .ref (ma 5), .ref (ma 6), .ref (ma 7), .ref (ma 8), .ref (ma 9), .ref (ma 10), .ref (ma 11), .ref (ma 12), .ref (ma 13), .ref (ma 14), .ref (ma 15), .ref (ma 16), .ref (ma 17), .ref (ma 18), .ref (ma 19), .int 0, .ref (ma 21), .ref (ma 22), .ref (ma 23), .ref (ma 24), .ref (ma 25), .ref (ma 26), .ref (ma 27), .ref (ma 28), .ref (ma 29), .ref (ma 30), .ref (ma 31), .ref (ma 32), .ref (ma 33), .ref (ma 34), .ref (ma 35), .ref (ma 36), .ref (ma 37), .int 0, .ref (ma 39), .ref (ma 40), .ref (ma 41), .ref (ma 42), .ref (ma 43), .ref (ma 44), .ref (ma 45), .ref (ma 46), .ref (ma 47), .ref (ma 48), .int 0, .int 0, .int 0, .int 0, .int 0, .int 0, .int 0, .long 0, .int 0, .long 0, .long 0, .long 0, .long 0, .int 0, .int 0, .int 0, .int 0, .long 0])), (ma 39, .inl (G.2 0, 6, .inl (fun _ => 0)))] (S := Unit) (fun r _ => r = (-1)) (fun _ => []) := by
  intro sz
  refine xstart (by decide) (Nat.le_of_ble_eq_true rfl) (fun p e s m args below meth c ls C0 hr hlocks hin hsz hP hK hD hN hl => ?_)
  obtain ⟨hx, hb, hml, hown, htl⟩ := id C0
  subst hsz
  have hD := hD.self (sz := s.heap.size)
  generalize hAe : va_A [(m0, .inr (9, [.int 0, .int 0, .int 0, .int (-1), .ref (ma 4), .ref (ma 5), .ref (ma 6), .ref (ma 7), .ref (ma 8), .ref (ma 9), .ref (ma 10), .ref (ma 11), .ref (ma 12), .ref (ma 13), .ref (ma 14), .ref (ma 15), .ref (ma 16), .ref (ma 17), .ref (ma 18), .ref (ma 19), .int 0, .ref (ma 21), .ref (ma 22), .ref (ma 23), .ref (ma 24), .ref (ma 25), .ref (ma 26), .ref (ma 27), .ref (ma 28), .ref (ma 29), .ref (ma 30), .ref (ma 31), .ref (ma 32), .ref (ma 33), .ref (ma 34), .ref (ma 35), .ref (ma 36), .ref (ma 37), .int 0, .ref (ma 39), .ref (ma 40), .ref (ma 41), .ref (ma 42), .ref (ma 43), .ref (ma 44), .ref (ma 45), .ref (ma 46), .ref (ma 47), .ref (ma 48), .int 0, .int 0, .int 0, .int 0, .int 0, .int 0, .int 0, .long 0, .int 0, .long 0, .long 0, .long 0, .long 0, .int 0, .int 0, .int 0, .int 0, .long 0])), (ma 39, .inl (G.2 0, 6, .inl (fun _ => 0)))] s.heap.size = A at hD ⊢
  have hA : ∀ q : Nat, s.heap.size ≤ q → A q := fun q h => by rw [← hAe]; exact Or.inr h
  have hS : va_S A s.heap s.heap [] := va_S.rf
  have hl : lv_has ls 5 [(0, .ref m0), (1, .int p0), (2, .int p1)] := hl
  refine lv_aload_n hx hb dX9_kind_0 rfl (lv_at hl 0 rfl) ?_
  refine lv_iconst (v := 0) hx hb dX9_kind_1 (by decide) ?_
  refine va_put (D := G.1) (ci := 9) (v := .int 0) (ty := .int) (C := RX9) (T := TX9) (N := 67) hx hb htl inlX9 tyX9 tyX9_ok nmX9 hown hK hP hD hS 0 rfl rfl 38 (by decide) (htl (.fieldLink RX9 147 "LaytimeDeskModel" "reason" "I") mW175) (fun _ h9 => h9) rfl (by decide +kernel) rfl rfl (Nat.le_of_ble_eq_true rfl) dX9_kind_2 (fun H locs hP hD hS => ?_)
  have hP : va_P G.1 xcl [(m0, .inr (9, [.int 0, .int 0, .int 0, .int (-1), .ref (ma 4), .ref (ma 5), .ref (ma 6), .ref (ma 7), .ref (ma 8), .ref (ma 9), .ref (ma 10), .ref (ma 11), .ref (ma 12), .ref (ma 13), .ref (ma 14), .ref (ma 15), .ref (ma 16), .ref (ma 17), .ref (ma 18), .ref (ma 19), .int 0, .ref (ma 21), .ref (ma 22), .ref (ma 23), .ref (ma 24), .ref (ma 25), .ref (ma 26), .ref (ma 27), .ref (ma 28), .ref (ma 29), .ref (ma 30), .ref (ma 31), .ref (ma 32), .ref (ma 33), .ref (ma 34), .ref (ma 35), .ref (ma 36), .ref (ma 37), .int 0, .ref (ma 39), .ref (ma 40), .ref (ma 41), .ref (ma 42), .ref (ma 43), .ref (ma 44), .ref (ma 45), .ref (ma 46), .ref (ma 47), .ref (ma 48), .int 0, .int 0, .int 0, .int 0, .int 0, .int 0, .int 0, .long 0, .int 0, .long 0, .long 0, .long 0, .long 0, .int 0, .int 0, .int 0, .int 0, .long 0])), (ma 39, .inl (G.2 0, 6, .inl (fun _ => 0)))] H := hP
  have hD : va_D A [(m0, .inr (9, [.int 0, .int 0, .int 0, .int (-1), .ref (ma 4), .ref (ma 5), .ref (ma 6), .ref (ma 7), .ref (ma 8), .ref (ma 9), .ref (ma 10), .ref (ma 11), .ref (ma 12), .ref (ma 13), .ref (ma 14), .ref (ma 15), .ref (ma 16), .ref (ma 17), .ref (ma 18), .ref (ma 19), .int 0, .ref (ma 21), .ref (ma 22), .ref (ma 23), .ref (ma 24), .ref (ma 25), .ref (ma 26), .ref (ma 27), .ref (ma 28), .ref (ma 29), .ref (ma 30), .ref (ma 31), .ref (ma 32), .ref (ma 33), .ref (ma 34), .ref (ma 35), .ref (ma 36), .ref (ma 37), .int 0, .ref (ma 39), .ref (ma 40), .ref (ma 41), .ref (ma 42), .ref (ma 43), .ref (ma 44), .ref (ma 45), .ref (ma 46), .ref (ma 47), .ref (ma 48), .int 0, .int 0, .int 0, .int 0, .int 0, .int 0, .int 0, .long 0, .int 0, .long 0, .long 0, .long 0, .long 0, .int 0, .int 0, .int 0, .int 0, .long 0])), (ma 39, .inl (G.2 0, 6, .inl (fun _ => 0)))] := hD
  refine lv_aload_n hx hb dX9_kind_5 rfl (lv_at hl 0 rfl) ?_
  refine lv_iload_n hx hb dX9_kind_6 rfl (lv_at hl 1 rfl) ?_
  refine lv_iload_n hx hb dX9_kind_7 rfl (lv_at hl 2 rfl) ?_
  refine xVri (rq := 0) (ci := 9) (wc := [(m0, .inr (9, [.int 0, .int 0, .int 0, .int (-1), .ref (ma 4), .ref (ma 5), .ref (ma 6), .ref (ma 7), .ref (ma 8), .ref (ma 9), .ref (ma 10), .ref (ma 11), .ref (ma 12), .ref (ma 13), .ref (ma 14), .ref (ma 15), .ref (ma 16), .ref (ma 17), .ref (ma 18), .ref (ma 19), .int 0, .ref (ma 21), .ref (ma 22), .ref (ma 23), .ref (ma 24), .ref (ma 25), .ref (ma 26), .ref (ma 27), .ref (ma 28), .ref (ma 29), .ref (ma 30), .ref (ma 31), .ref (ma 32), .ref (ma 33), .ref (ma 34), .ref (ma 35), .ref (ma 36), .ref (ma 37), .int 0, .ref (ma 39), .ref (ma 40), .ref (ma 41), .ref (ma 42), .ref (ma 43), .ref (ma 44), .ref (ma 45), .ref (ma 46), .ref (ma 47), .ref (ma 48), .int 0, .int 0, .int 0, .int 0, .int 0, .int 0, .int 0, .long 0, .int 0, .long 0, .long 0, .long 0, .long 0, .int 0, .int 0, .int 0, .int 0, .long 0]))]) (As := [.int p0, .int p1]) (rest := []) C0 (c_X9_placeWhy l G m0 ma p0 p1) ok_X9_placeWhy (mW222 : Cond.methodLink RX9 171 yX9_placeWhy ∈ wsT) ⟨Nat.le_of_ble_eq_true rfl, Nat.le_of_ble_eq_true rfl⟩ hP hD hK hN [0] rfl (by decide) rfl rfl rfl rfl hl.1 rfl (Nat.le_of_ble_eq_true rfl) ⟨Nat.le_of_ble_eq_true rfl, Nat.le_of_ble_eq_true rfl⟩ dX9_kind_8 (fun r_1 hr_1 => ?_)
  refine lv_istore_n (lv' := [(3, .int r_1), (0, .ref m0), (1, .int p0), (2, .int p1)]) hx hb dX9_kind_11 rfl hl (by decide) rfl (fun ls hl => ?_)
  refine lv_iload_n hx hb dX9_kind_12 rfl (lv_at hl 0 rfl) ?_
  refine lv_if_eq (tgt := 22) hx hb dX9_kind_13 (by decide) (fun c_2 => absurd c_2 (xn0 hr_1)) (fun c_2 => ?_)
  refine lv_aload_n hx hb dX9_kind_16 rfl (lv_at hl 1 rfl) ?_
  refine lv_iload_n hx hb dX9_kind_17 rfl (lv_at hl 0 rfl) ?_
  refine xVwi (rq := 0) (ci := 9) (wc := [(m0, .inr (9, [.int 0, .int 0, .int 0, .int (-1), .ref (ma 4), .ref (ma 5), .ref (ma 6), .ref (ma 7), .ref (ma 8), .ref (ma 9), .ref (ma 10), .ref (ma 11), .ref (ma 12), .ref (ma 13), .ref (ma 14), .ref (ma 15), .ref (ma 16), .ref (ma 17), .ref (ma 18), .ref (ma 19), .int 0, .ref (ma 21), .ref (ma 22), .ref (ma 23), .ref (ma 24), .ref (ma 25), .ref (ma 26), .ref (ma 27), .ref (ma 28), .ref (ma 29), .ref (ma 30), .ref (ma 31), .ref (ma 32), .ref (ma 33), .ref (ma 34), .ref (ma 35), .ref (ma 36), .ref (ma 37), .int 0, .ref (ma 39), .ref (ma 40), .ref (ma 41), .ref (ma 42), .ref (ma 43), .ref (ma 44), .ref (ma 45), .ref (ma 46), .ref (ma 47), .ref (ma 48), .int 0, .int 0, .int 0, .int 0, .int 0, .int 0, .int 0, .long 0, .int 0, .long 0, .long 0, .long 0, .long 0, .int 0, .int 0, .int 0, .int 0, .long 0])), (ma 39, .inl (G.2 0, 6, .inl (fun _ => 0)))]) (wr := []) (As := [.int r_1]) (rest := []) C0 (c_X9_no l G m0 ma r_1 (xin6 hr_1)) ok_X9_no (mW177 : Cond.methodLink RX9 168 yX9_no ∈ wsT) ⟨Nat.le_of_ble_eq_true rfl, Nat.le_of_ble_eq_true rfl⟩ hP hD hS hA hK hN [0, 1] [] rfl rfl (by decide) (by decide) (by decide) rfl rfl rfl rfl hl.1 rfl (Nat.le_of_ble_eq_true rfl) ⟨Nat.le_of_ble_eq_true rfl, Nat.le_of_ble_eq_true rfl⟩ dX9_kind_18 (fun r_3 u_4 H locs hr_3 hP hD hS => ?_)
  have hP : va_P G.1 xcl [] H := hP
  have hD : va_D A [] := hD
  obtain rfl : r_3 = (-1) := hr_3
  have hP9 := hP.sub (ws' := []) [] rfl
  have hD9 := hD.sub (ws' := []) [] (by decide) rfl
  exact W.iret (v := (-1)) hx hb hr (fun t ht hW => ⟨⟨(-1), (), rfl, rfl, by rw [ht]; exact hP9, hD9⟩, hS.F ht⟩) hS.2.2 dX9_kind_21
theorem dX9_headed_0 : decode cX9_headed 0 = .ok (.aload_n 0, 1) := by decide +kernel
theorem dX9_headed_1 : decode cX9_headed 1 = .ok (.iconst 0, 1) := by decide +kernel
theorem dX9_headed_2 : decode cX9_headed 2 = .ok (.putfield 147, 3) := by decide +kernel
theorem dX9_headed_5 : decode cX9_headed 5 = .ok (.aload_n 0, 1) := by decide +kernel
theorem dX9_headed_6 : decode cX9_headed 6 = .ok (.iload_n 1, 1) := by decide +kernel
theorem dX9_headed_7 : decode cX9_headed 7 = .ok (.iload_n 2, 1) := by decide +kernel
theorem dX9_headed_8 : decode cX9_headed 8 = .ok (.invokevirtual 171, 3) := by decide +kernel
theorem dX9_headed_11 : decode cX9_headed 11 = .ok (.istore_n 3, 1) := by decide +kernel
theorem dX9_headed_12 : decode cX9_headed 12 = .ok (.iload_n 3, 1) := by decide +kernel
theorem dX9_headed_13 : decode cX9_headed 13 = .ok (.ifCond .ne 38, 3) := by decide +kernel
theorem dX9_headed_51 : decode cX9_headed 51 = .ok (.iload_n 3, 1) := by decide +kernel
theorem dX9_headed_52 : decode cX9_headed 52 = .ok (.ifCond .eq 9, 3) := by decide +kernel
theorem dX9_headed_55 : decode cX9_headed 55 = .ok (.aload_n 0, 1) := by decide +kernel
theorem dX9_headed_56 : decode cX9_headed 56 = .ok (.iload_n 3, 1) := by decide +kernel
theorem dX9_headed_57 : decode cX9_headed 57 = .ok (.invokevirtual 168, 3) := by decide +kernel
theorem dX9_headed_60 : decode cX9_headed 60 = .ok (.ireturn, 1) := by decide +kernel
set_option maxHeartbeats 4000000 in
set_option maxRecDepth 100000 in
theorem c_X9_headed (l : Launch) (G : xG) (m0 : Nat) (ma : Nat → Nat) (p0 : Int32) (p1 : Int32)  : xWi l G yX9_headed cX9_headed 4 (some .int) 2 43 0 0 [.ref m0, .int p0, .int p1] [(m0, .inr (9, [.int 0, .int 0, .int 0, .int (-1), .ref (ma 4), .ref (ma 5), .ref (ma 6), .ref (ma 7), .ref (ma 8), .ref (ma 9), .ref (ma 10), .ref (ma 11), .ref (ma 12), .ref (ma 13), .ref (ma 14), .ref (ma 15), .ref (ma 16), .ref (ma 17), .ref (ma 18), .ref (ma 19), .int 0, .ref (ma 21), .ref (ma 22), .ref (ma 23), .ref (ma 24), .ref (ma 25), .ref (ma 26), .ref (ma 27), .ref (ma 28), .ref (ma 29), .ref (ma 30), .ref (ma 31), .ref (ma 32), .ref (ma 33), .ref (ma 34), .ref (ma 35), .ref (ma 36), .ref (ma 37), .int 0, .ref (ma 39), .ref (ma 40), .ref (ma 41), .ref (ma 42), .ref (ma 43), .ref (ma 44), .ref (ma 45), .ref (ma 46), .ref (ma 47), .ref (ma 48), .int 0, .int 0, .int 0, .int 0, .int 0, .int 0, .int 0, .long 0, .int 0, .long 0, .long 0, .long 0, .long 0, .int 0, .int 0, .int 0, .int 0, .long 0])), (ma 39, .inl (G.2 0, 6, .inl (fun _ => 0)))] (S := Unit) (fun r _ => r = (-1)) (fun _ => []) := by
  intro sz
  refine xstart (by decide) (Nat.le_of_ble_eq_true rfl) (fun p e s m args below meth c ls C0 hr hlocks hin hsz hP hK hD hN hl => ?_)
  obtain ⟨hx, hb, hml, hown, htl⟩ := id C0
  subst hsz
  have hD := hD.self (sz := s.heap.size)
  generalize hAe : va_A [(m0, .inr (9, [.int 0, .int 0, .int 0, .int (-1), .ref (ma 4), .ref (ma 5), .ref (ma 6), .ref (ma 7), .ref (ma 8), .ref (ma 9), .ref (ma 10), .ref (ma 11), .ref (ma 12), .ref (ma 13), .ref (ma 14), .ref (ma 15), .ref (ma 16), .ref (ma 17), .ref (ma 18), .ref (ma 19), .int 0, .ref (ma 21), .ref (ma 22), .ref (ma 23), .ref (ma 24), .ref (ma 25), .ref (ma 26), .ref (ma 27), .ref (ma 28), .ref (ma 29), .ref (ma 30), .ref (ma 31), .ref (ma 32), .ref (ma 33), .ref (ma 34), .ref (ma 35), .ref (ma 36), .ref (ma 37), .int 0, .ref (ma 39), .ref (ma 40), .ref (ma 41), .ref (ma 42), .ref (ma 43), .ref (ma 44), .ref (ma 45), .ref (ma 46), .ref (ma 47), .ref (ma 48), .int 0, .int 0, .int 0, .int 0, .int 0, .int 0, .int 0, .long 0, .int 0, .long 0, .long 0, .long 0, .long 0, .int 0, .int 0, .int 0, .int 0, .long 0])), (ma 39, .inl (G.2 0, 6, .inl (fun _ => 0)))] s.heap.size = A at hD ⊢
  have hA : ∀ q : Nat, s.heap.size ≤ q → A q := fun q h => by rw [← hAe]; exact Or.inr h
  have hS : va_S A s.heap s.heap [] := va_S.rf
  have hl : lv_has ls 4 [(0, .ref m0), (1, .int p0), (2, .int p1)] := hl
  refine lv_aload_n hx hb dX9_headed_0 rfl (lv_at hl 0 rfl) ?_
  refine lv_iconst (v := 0) hx hb dX9_headed_1 (by decide) ?_
  refine va_put (D := G.1) (ci := 9) (v := .int 0) (ty := .int) (C := RX9) (T := TX9) (N := 67) hx hb htl inlX9 tyX9 tyX9_ok nmX9 hown hK hP hD hS 0 rfl rfl 38 (by decide) (htl (.fieldLink RX9 147 "LaytimeDeskModel" "reason" "I") mW175) (fun _ h9 => h9) rfl (by decide +kernel) rfl rfl (Nat.le_of_ble_eq_true rfl) dX9_headed_2 (fun H locs hP hD hS => ?_)
  have hP : va_P G.1 xcl [(m0, .inr (9, [.int 0, .int 0, .int 0, .int (-1), .ref (ma 4), .ref (ma 5), .ref (ma 6), .ref (ma 7), .ref (ma 8), .ref (ma 9), .ref (ma 10), .ref (ma 11), .ref (ma 12), .ref (ma 13), .ref (ma 14), .ref (ma 15), .ref (ma 16), .ref (ma 17), .ref (ma 18), .ref (ma 19), .int 0, .ref (ma 21), .ref (ma 22), .ref (ma 23), .ref (ma 24), .ref (ma 25), .ref (ma 26), .ref (ma 27), .ref (ma 28), .ref (ma 29), .ref (ma 30), .ref (ma 31), .ref (ma 32), .ref (ma 33), .ref (ma 34), .ref (ma 35), .ref (ma 36), .ref (ma 37), .int 0, .ref (ma 39), .ref (ma 40), .ref (ma 41), .ref (ma 42), .ref (ma 43), .ref (ma 44), .ref (ma 45), .ref (ma 46), .ref (ma 47), .ref (ma 48), .int 0, .int 0, .int 0, .int 0, .int 0, .int 0, .int 0, .long 0, .int 0, .long 0, .long 0, .long 0, .long 0, .int 0, .int 0, .int 0, .int 0, .long 0])), (ma 39, .inl (G.2 0, 6, .inl (fun _ => 0)))] H := hP
  have hD : va_D A [(m0, .inr (9, [.int 0, .int 0, .int 0, .int (-1), .ref (ma 4), .ref (ma 5), .ref (ma 6), .ref (ma 7), .ref (ma 8), .ref (ma 9), .ref (ma 10), .ref (ma 11), .ref (ma 12), .ref (ma 13), .ref (ma 14), .ref (ma 15), .ref (ma 16), .ref (ma 17), .ref (ma 18), .ref (ma 19), .int 0, .ref (ma 21), .ref (ma 22), .ref (ma 23), .ref (ma 24), .ref (ma 25), .ref (ma 26), .ref (ma 27), .ref (ma 28), .ref (ma 29), .ref (ma 30), .ref (ma 31), .ref (ma 32), .ref (ma 33), .ref (ma 34), .ref (ma 35), .ref (ma 36), .ref (ma 37), .int 0, .ref (ma 39), .ref (ma 40), .ref (ma 41), .ref (ma 42), .ref (ma 43), .ref (ma 44), .ref (ma 45), .ref (ma 46), .ref (ma 47), .ref (ma 48), .int 0, .int 0, .int 0, .int 0, .int 0, .int 0, .int 0, .long 0, .int 0, .long 0, .long 0, .long 0, .long 0, .int 0, .int 0, .int 0, .int 0, .long 0])), (ma 39, .inl (G.2 0, 6, .inl (fun _ => 0)))] := hD
  refine lv_aload_n hx hb dX9_headed_5 rfl (lv_at hl 0 rfl) ?_
  refine lv_iload_n hx hb dX9_headed_6 rfl (lv_at hl 1 rfl) ?_
  refine lv_iload_n hx hb dX9_headed_7 rfl (lv_at hl 2 rfl) ?_
  refine xVri (rq := 0) (ci := 9) (wc := [(m0, .inr (9, [.int 0, .int 0, .int 0, .int (-1), .ref (ma 4), .ref (ma 5), .ref (ma 6), .ref (ma 7), .ref (ma 8), .ref (ma 9), .ref (ma 10), .ref (ma 11), .ref (ma 12), .ref (ma 13), .ref (ma 14), .ref (ma 15), .ref (ma 16), .ref (ma 17), .ref (ma 18), .ref (ma 19), .int 0, .ref (ma 21), .ref (ma 22), .ref (ma 23), .ref (ma 24), .ref (ma 25), .ref (ma 26), .ref (ma 27), .ref (ma 28), .ref (ma 29), .ref (ma 30), .ref (ma 31), .ref (ma 32), .ref (ma 33), .ref (ma 34), .ref (ma 35), .ref (ma 36), .ref (ma 37), .int 0, .ref (ma 39), .ref (ma 40), .ref (ma 41), .ref (ma 42), .ref (ma 43), .ref (ma 44), .ref (ma 45), .ref (ma 46), .ref (ma 47), .ref (ma 48), .int 0, .int 0, .int 0, .int 0, .int 0, .int 0, .int 0, .long 0, .int 0, .long 0, .long 0, .long 0, .long 0, .int 0, .int 0, .int 0, .int 0, .long 0]))]) (As := [.int p0, .int p1]) (rest := []) C0 (c_X9_placeWhy l G m0 ma p0 p1) ok_X9_placeWhy (mW222 : Cond.methodLink RX9 171 yX9_placeWhy ∈ wsT) ⟨Nat.le_of_ble_eq_true rfl, Nat.le_of_ble_eq_true rfl⟩ hP hD hK hN [0] rfl (by decide) rfl rfl rfl rfl hl.1 rfl (Nat.le_of_ble_eq_true rfl) ⟨Nat.le_of_ble_eq_true rfl, Nat.le_of_ble_eq_true rfl⟩ dX9_headed_8 (fun r_1 hr_1 => ?_)
  refine lv_istore_n (lv' := [(3, .int r_1), (0, .ref m0), (1, .int p0), (2, .int p1)]) hx hb dX9_headed_11 rfl hl (by decide) rfl (fun ls hl => ?_)
  refine lv_iload_n hx hb dX9_headed_12 rfl (lv_at hl 0 rfl) ?_
  refine lv_if_ne (tgt := 51) hx hb dX9_headed_13 (by decide) (fun c_2 => ?_) (fun c_2 => absurd c_2 (xn0 hr_1))
  refine lv_iload_n hx hb dX9_headed_51 rfl (lv_at hl 0 rfl) ?_
  refine lv_if_eq (tgt := 61) hx hb dX9_headed_52 (by decide) (fun c_3 => absurd c_3 (xn0 hr_1)) (fun c_3 => ?_)
  refine lv_aload_n hx hb dX9_headed_55 rfl (lv_at hl 1 rfl) ?_
  refine lv_iload_n hx hb dX9_headed_56 rfl (lv_at hl 0 rfl) ?_
  refine xVwi (rq := 0) (ci := 9) (wc := [(m0, .inr (9, [.int 0, .int 0, .int 0, .int (-1), .ref (ma 4), .ref (ma 5), .ref (ma 6), .ref (ma 7), .ref (ma 8), .ref (ma 9), .ref (ma 10), .ref (ma 11), .ref (ma 12), .ref (ma 13), .ref (ma 14), .ref (ma 15), .ref (ma 16), .ref (ma 17), .ref (ma 18), .ref (ma 19), .int 0, .ref (ma 21), .ref (ma 22), .ref (ma 23), .ref (ma 24), .ref (ma 25), .ref (ma 26), .ref (ma 27), .ref (ma 28), .ref (ma 29), .ref (ma 30), .ref (ma 31), .ref (ma 32), .ref (ma 33), .ref (ma 34), .ref (ma 35), .ref (ma 36), .ref (ma 37), .int 0, .ref (ma 39), .ref (ma 40), .ref (ma 41), .ref (ma 42), .ref (ma 43), .ref (ma 44), .ref (ma 45), .ref (ma 46), .ref (ma 47), .ref (ma 48), .int 0, .int 0, .int 0, .int 0, .int 0, .int 0, .int 0, .long 0, .int 0, .long 0, .long 0, .long 0, .long 0, .int 0, .int 0, .int 0, .int 0, .long 0])), (ma 39, .inl (G.2 0, 6, .inl (fun _ => 0)))]) (wr := []) (As := [.int r_1]) (rest := []) C0 (c_X9_no l G m0 ma r_1 (xin6 hr_1)) ok_X9_no (mW177 : Cond.methodLink RX9 168 yX9_no ∈ wsT) ⟨Nat.le_of_ble_eq_true rfl, Nat.le_of_ble_eq_true rfl⟩ hP hD hS hA hK hN [0, 1] [] rfl rfl (by decide) (by decide) (by decide) rfl rfl rfl rfl hl.1 rfl (Nat.le_of_ble_eq_true rfl) ⟨Nat.le_of_ble_eq_true rfl, Nat.le_of_ble_eq_true rfl⟩ dX9_headed_57 (fun r_4 u_5 H locs hr_4 hP hD hS => ?_)
  have hP : va_P G.1 xcl [] H := hP
  have hD : va_D A [] := hD
  obtain rfl : r_4 = (-1) := hr_4
  have hP9 := hP.sub (ws' := []) [] rfl
  have hD9 := hD.sub (ws' := []) [] (by decide) rfl
  exact W.iret (v := (-1)) hx hb hr (fun t ht hW => ⟨⟨(-1), (), rfl, rfl, by rw [ht]; exact hP9, hD9⟩, hS.F ht⟩) hS.2.2 dX9_headed_60
theorem dX9_span_0 : decode cX9_span 0 = .ok (.aload_n 0, 1) := by decide +kernel
theorem dX9_span_1 : decode cX9_span 1 = .ok (.iconst 0, 1) := by decide +kernel
theorem dX9_span_2 : decode cX9_span 2 = .ok (.putfield 147, 3) := by decide +kernel
theorem dX9_span_5 : decode cX9_span 5 = .ok (.iload_n 3, 1) := by decide +kernel
theorem dX9_span_6 : decode cX9_span 6 = .ok (.ifCond .lt 8, 3) := by decide +kernel
theorem dX9_span_9 : decode cX9_span 9 = .ok (.iload_n 3, 1) := by decide +kernel
theorem dX9_span_10 : decode cX9_span 10 = .ok (.iconst 4, 1) := by decide +kernel
theorem dX9_span_11 : decode cX9_span 11 = .ok (.if_icmp .le 7, 3) := by decide +kernel
theorem dX9_span_14 : decode cX9_span 14 = .ok (.iconst 1, 1) := by decide +kernel
theorem dX9_span_15 : decode cX9_span 15 = .ok (.goto 9, 3) := by decide +kernel
theorem dX9_span_18 : decode cX9_span 18 = .ok (.aload_n 0, 1) := by decide +kernel
theorem dX9_span_19 : decode cX9_span 19 = .ok (.iload_n 1, 1) := by decide +kernel
theorem dX9_span_20 : decode cX9_span 20 = .ok (.iload_n 2, 1) := by decide +kernel
theorem dX9_span_21 : decode cX9_span 21 = .ok (.invokevirtual 175, 3) := by decide +kernel
theorem dX9_span_24 : decode cX9_span 24 = .ok (.istore 4, 2) := by decide +kernel
theorem dX9_span_26 : decode cX9_span 26 = .ok (.iload 4, 2) := by decide +kernel
theorem dX9_span_28 : decode cX9_span 28 = .ok (.ifCond .eq 10, 3) := by decide +kernel
theorem dX9_span_31 : decode cX9_span 31 = .ok (.aload_n 0, 1) := by decide +kernel
theorem dX9_span_32 : decode cX9_span 32 = .ok (.iload 4, 2) := by decide +kernel
theorem dX9_span_34 : decode cX9_span 34 = .ok (.invokevirtual 168, 3) := by decide +kernel
theorem dX9_span_37 : decode cX9_span 37 = .ok (.ireturn, 1) := by decide +kernel
set_option maxHeartbeats 4000000 in
set_option maxRecDepth 100000 in
theorem c_X9_span (l : Launch) (G : xG) (m0 : Nat) (ma : Nat → Nat) (p0 : Int32) (p1 : Int32) (p2 : Int32)  : xWi l G yX9_span cX9_span 6 (some .int) 3 66 0 0 [.ref m0, .int p0, .int p1, .int p2] [(m0, .inr (9, [.int 0, .int 0, .int 0, .int (-1), .ref (ma 4), .ref (ma 5), .ref (ma 6), .ref (ma 7), .ref (ma 8), .ref (ma 9), .ref (ma 10), .ref (ma 11), .ref (ma 12), .ref (ma 13), .ref (ma 14), .ref (ma 15), .ref (ma 16), .ref (ma 17), .ref (ma 18), .ref (ma 19), .int 0, .ref (ma 21), .ref (ma 22), .ref (ma 23), .ref (ma 24), .ref (ma 25), .ref (ma 26), .ref (ma 27), .ref (ma 28), .ref (ma 29), .ref (ma 30), .ref (ma 31), .ref (ma 32), .ref (ma 33), .ref (ma 34), .ref (ma 35), .ref (ma 36), .ref (ma 37), .int 0, .ref (ma 39), .ref (ma 40), .ref (ma 41), .ref (ma 42), .ref (ma 43), .ref (ma 44), .ref (ma 45), .ref (ma 46), .ref (ma 47), .ref (ma 48), .int 0, .int 0, .int 0, .int 0, .int 0, .int 0, .int 0, .long 0, .int 0, .long 0, .long 0, .long 0, .long 0, .int 0, .int 0, .int 0, .int 0, .long 0])), (ma 39, .inl (G.2 0, 6, .inl (fun _ => 0)))] (S := Unit) (fun r _ => r = (-1)) (fun _ => []) := by
  intro sz
  refine xstart (by decide) (Nat.le_of_ble_eq_true rfl) (fun p e s m args below meth c ls C0 hr hlocks hin hsz hP hK hD hN hl => ?_)
  obtain ⟨hx, hb, hml, hown, htl⟩ := id C0
  subst hsz
  have hD := hD.self (sz := s.heap.size)
  generalize hAe : va_A [(m0, .inr (9, [.int 0, .int 0, .int 0, .int (-1), .ref (ma 4), .ref (ma 5), .ref (ma 6), .ref (ma 7), .ref (ma 8), .ref (ma 9), .ref (ma 10), .ref (ma 11), .ref (ma 12), .ref (ma 13), .ref (ma 14), .ref (ma 15), .ref (ma 16), .ref (ma 17), .ref (ma 18), .ref (ma 19), .int 0, .ref (ma 21), .ref (ma 22), .ref (ma 23), .ref (ma 24), .ref (ma 25), .ref (ma 26), .ref (ma 27), .ref (ma 28), .ref (ma 29), .ref (ma 30), .ref (ma 31), .ref (ma 32), .ref (ma 33), .ref (ma 34), .ref (ma 35), .ref (ma 36), .ref (ma 37), .int 0, .ref (ma 39), .ref (ma 40), .ref (ma 41), .ref (ma 42), .ref (ma 43), .ref (ma 44), .ref (ma 45), .ref (ma 46), .ref (ma 47), .ref (ma 48), .int 0, .int 0, .int 0, .int 0, .int 0, .int 0, .int 0, .long 0, .int 0, .long 0, .long 0, .long 0, .long 0, .int 0, .int 0, .int 0, .int 0, .long 0])), (ma 39, .inl (G.2 0, 6, .inl (fun _ => 0)))] s.heap.size = A at hD ⊢
  have hA : ∀ q : Nat, s.heap.size ≤ q → A q := fun q h => by rw [← hAe]; exact Or.inr h
  have hS : va_S A s.heap s.heap [] := va_S.rf
  have hl : lv_has ls 6 [(0, .ref m0), (1, .int p0), (2, .int p1), (3, .int p2)] := hl
  refine lv_aload_n hx hb dX9_span_0 rfl (lv_at hl 0 rfl) ?_
  refine lv_iconst (v := 0) hx hb dX9_span_1 (by decide) ?_
  refine va_put (D := G.1) (ci := 9) (v := .int 0) (ty := .int) (C := RX9) (T := TX9) (N := 67) hx hb htl inlX9 tyX9 tyX9_ok nmX9 hown hK hP hD hS 0 rfl rfl 38 (by decide) (htl (.fieldLink RX9 147 "LaytimeDeskModel" "reason" "I") mW175) (fun _ h9 => h9) rfl (by decide +kernel) rfl rfl (Nat.le_of_ble_eq_true rfl) dX9_span_2 (fun H locs hP hD hS => ?_)
  have hP : va_P G.1 xcl [(m0, .inr (9, [.int 0, .int 0, .int 0, .int (-1), .ref (ma 4), .ref (ma 5), .ref (ma 6), .ref (ma 7), .ref (ma 8), .ref (ma 9), .ref (ma 10), .ref (ma 11), .ref (ma 12), .ref (ma 13), .ref (ma 14), .ref (ma 15), .ref (ma 16), .ref (ma 17), .ref (ma 18), .ref (ma 19), .int 0, .ref (ma 21), .ref (ma 22), .ref (ma 23), .ref (ma 24), .ref (ma 25), .ref (ma 26), .ref (ma 27), .ref (ma 28), .ref (ma 29), .ref (ma 30), .ref (ma 31), .ref (ma 32), .ref (ma 33), .ref (ma 34), .ref (ma 35), .ref (ma 36), .ref (ma 37), .int 0, .ref (ma 39), .ref (ma 40), .ref (ma 41), .ref (ma 42), .ref (ma 43), .ref (ma 44), .ref (ma 45), .ref (ma 46), .ref (ma 47), .ref (ma 48), .int 0, .int 0, .int 0, .int 0, .int 0, .int 0, .int 0, .long 0, .int 0, .long 0, .long 0, .long 0, .long 0, .int 0, .int 0, .int 0, .int 0, .long 0])), (ma 39, .inl (G.2 0, 6, .inl (fun _ => 0)))] H := hP
  have hD : va_D A [(m0, .inr (9, [.int 0, .int 0, .int 0, .int (-1), .ref (ma 4), .ref (ma 5), .ref (ma 6), .ref (ma 7), .ref (ma 8), .ref (ma 9), .ref (ma 10), .ref (ma 11), .ref (ma 12), .ref (ma 13), .ref (ma 14), .ref (ma 15), .ref (ma 16), .ref (ma 17), .ref (ma 18), .ref (ma 19), .int 0, .ref (ma 21), .ref (ma 22), .ref (ma 23), .ref (ma 24), .ref (ma 25), .ref (ma 26), .ref (ma 27), .ref (ma 28), .ref (ma 29), .ref (ma 30), .ref (ma 31), .ref (ma 32), .ref (ma 33), .ref (ma 34), .ref (ma 35), .ref (ma 36), .ref (ma 37), .int 0, .ref (ma 39), .ref (ma 40), .ref (ma 41), .ref (ma 42), .ref (ma 43), .ref (ma 44), .ref (ma 45), .ref (ma 46), .ref (ma 47), .ref (ma 48), .int 0, .int 0, .int 0, .int 0, .int 0, .int 0, .int 0, .long 0, .int 0, .long 0, .long 0, .long 0, .long 0, .int 0, .int 0, .int 0, .int 0, .long 0])), (ma 39, .inl (G.2 0, 6, .inl (fun _ => 0)))] := hD
  refine lv_iload_n hx hb dX9_span_5 rfl (lv_at hl 3 rfl) ?_
  refine lv_if_lt (tgt := 14) hx hb dX9_span_6 (by decide) (fun c_1 => ?_) (fun c_1 => ?_)
  · refine lv_iconst (v := 1) hx hb dX9_span_14 (by decide) ?_
    refine lv_goto (tgt := 24) hx hb dX9_span_15 (by decide) ?_
    refine lv_istore (lv' := [(4, .int 1), (0, .ref m0), (1, .int p0), (2, .int p1), (3, .int p2)]) hx hb dX9_span_24 hl (by decide) rfl (fun ls hl => ?_)
    refine lv_iload hx hb dX9_span_26 (lv_at hl 0 rfl) ?_
    refine lv_if_eq (tgt := 38) hx hb dX9_span_28 (by decide) (fun c_2 => absurd c_2 (by decide +kernel)) (fun c_2 => ?_)
    refine lv_aload_n hx hb dX9_span_31 rfl (lv_at hl 1 rfl) ?_
    refine lv_iload hx hb dX9_span_32 (lv_at hl 0 rfl) ?_
    refine xVwi (rq := 0) (ci := 9) (wc := [(m0, .inr (9, [.int 0, .int 0, .int 0, .int (-1), .ref (ma 4), .ref (ma 5), .ref (ma 6), .ref (ma 7), .ref (ma 8), .ref (ma 9), .ref (ma 10), .ref (ma 11), .ref (ma 12), .ref (ma 13), .ref (ma 14), .ref (ma 15), .ref (ma 16), .ref (ma 17), .ref (ma 18), .ref (ma 19), .int 0, .ref (ma 21), .ref (ma 22), .ref (ma 23), .ref (ma 24), .ref (ma 25), .ref (ma 26), .ref (ma 27), .ref (ma 28), .ref (ma 29), .ref (ma 30), .ref (ma 31), .ref (ma 32), .ref (ma 33), .ref (ma 34), .ref (ma 35), .ref (ma 36), .ref (ma 37), .int 0, .ref (ma 39), .ref (ma 40), .ref (ma 41), .ref (ma 42), .ref (ma 43), .ref (ma 44), .ref (ma 45), .ref (ma 46), .ref (ma 47), .ref (ma 48), .int 0, .int 0, .int 0, .int 0, .int 0, .int 0, .int 0, .long 0, .int 0, .long 0, .long 0, .long 0, .long 0, .int 0, .int 0, .int 0, .int 0, .long 0])), (ma 39, .inl (G.2 0, 6, .inl (fun _ => 0)))]) (wr := []) (As := [.int 1]) (rest := []) C0 (c_X9_no l G m0 ma 1 (by unfold vp_in; decide +kernel)) ok_X9_no (mW177 : Cond.methodLink RX9 168 yX9_no ∈ wsT) ⟨Nat.le_of_ble_eq_true rfl, Nat.le_of_ble_eq_true rfl⟩ hP hD hS hA hK hN [0, 1] [] rfl rfl (by decide) (by decide) (by decide) rfl rfl rfl rfl hl.1 rfl (Nat.le_of_ble_eq_true rfl) ⟨Nat.le_of_ble_eq_true rfl, Nat.le_of_ble_eq_true rfl⟩ dX9_span_34 (fun r_3 u_4 H locs hr_3 hP hD hS => ?_)
    have hP : va_P G.1 xcl [] H := hP
    have hD : va_D A [] := hD
    obtain rfl : r_3 = (-1) := hr_3
    have hP9 := hP.sub (ws' := []) [] rfl
    have hD9 := hD.sub (ws' := []) [] (by decide) rfl
    exact W.iret (v := (-1)) hx hb hr (fun t ht hW => ⟨⟨(-1), (), rfl, rfl, by rw [ht]; exact hP9, hD9⟩, hS.F ht⟩) hS.2.2 dX9_span_37
  · refine lv_iload_n hx hb dX9_span_9 rfl (lv_at hl 3 rfl) ?_
    refine lv_iconst (v := 4) hx hb dX9_span_10 (by decide) ?_
    refine lv_icmp_le (tgt := 18) hx hb dX9_span_11 (by decide) (fun c_5 => ?_) (fun c_5 => ?_)
    · refine lv_aload_n hx hb dX9_span_18 rfl (lv_at hl 0 rfl) ?_
      refine lv_iload_n hx hb dX9_span_19 rfl (lv_at hl 1 rfl) ?_
      refine lv_iload_n hx hb dX9_span_20 rfl (lv_at hl 2 rfl) ?_
      refine xVri (rq := 0) (ci := 9) (wc := [(m0, .inr (9, [.int 0, .int 0, .int 0, .int (-1), .ref (ma 4), .ref (ma 5), .ref (ma 6), .ref (ma 7), .ref (ma 8), .ref (ma 9), .ref (ma 10), .ref (ma 11), .ref (ma 12), .ref (ma 13), .ref (ma 14), .ref (ma 15), .ref (ma 16), .ref (ma 17), .ref (ma 18), .ref (ma 19), .int 0, .ref (ma 21), .ref (ma 22), .ref (ma 23), .ref (ma 24), .ref (ma 25), .ref (ma 26), .ref (ma 27), .ref (ma 28), .ref (ma 29), .ref (ma 30), .ref (ma 31), .ref (ma 32), .ref (ma 33), .ref (ma 34), .ref (ma 35), .ref (ma 36), .ref (ma 37), .int 0, .ref (ma 39), .ref (ma 40), .ref (ma 41), .ref (ma 42), .ref (ma 43), .ref (ma 44), .ref (ma 45), .ref (ma 46), .ref (ma 47), .ref (ma 48), .int 0, .int 0, .int 0, .int 0, .int 0, .int 0, .int 0, .long 0, .int 0, .long 0, .long 0, .long 0, .long 0, .int 0, .int 0, .int 0, .int 0, .long 0]))]) (As := [.int p0, .int p1]) (rest := []) C0 (c_X9_termWhy l G m0 ma p0 p1) ok_X9_termWhy (mW248 : Cond.methodLink RX9 175 yX9_termWhy ∈ wsT) ⟨Nat.le_of_ble_eq_true rfl, Nat.le_of_ble_eq_true rfl⟩ hP hD hK hN [0] rfl (by decide) rfl rfl rfl rfl hl.1 rfl (Nat.le_of_ble_eq_true rfl) ⟨Nat.le_of_ble_eq_true rfl, Nat.le_of_ble_eq_true rfl⟩ dX9_span_21 (fun r_6 hr_6 => ?_)
      refine lv_istore (lv' := [(4, .int r_6), (0, .ref m0), (1, .int p0), (2, .int p1), (3, .int p2)]) hx hb dX9_span_24 hl (by decide) rfl (fun ls hl => ?_)
      refine lv_iload hx hb dX9_span_26 (lv_at hl 0 rfl) ?_
      refine lv_if_eq (tgt := 38) hx hb dX9_span_28 (by decide) (fun c_7 => absurd c_7 (xn0 hr_6)) (fun c_7 => ?_)
      refine lv_aload_n hx hb dX9_span_31 rfl (lv_at hl 1 rfl) ?_
      refine lv_iload hx hb dX9_span_32 (lv_at hl 0 rfl) ?_
      refine xVwi (rq := 0) (ci := 9) (wc := [(m0, .inr (9, [.int 0, .int 0, .int 0, .int (-1), .ref (ma 4), .ref (ma 5), .ref (ma 6), .ref (ma 7), .ref (ma 8), .ref (ma 9), .ref (ma 10), .ref (ma 11), .ref (ma 12), .ref (ma 13), .ref (ma 14), .ref (ma 15), .ref (ma 16), .ref (ma 17), .ref (ma 18), .ref (ma 19), .int 0, .ref (ma 21), .ref (ma 22), .ref (ma 23), .ref (ma 24), .ref (ma 25), .ref (ma 26), .ref (ma 27), .ref (ma 28), .ref (ma 29), .ref (ma 30), .ref (ma 31), .ref (ma 32), .ref (ma 33), .ref (ma 34), .ref (ma 35), .ref (ma 36), .ref (ma 37), .int 0, .ref (ma 39), .ref (ma 40), .ref (ma 41), .ref (ma 42), .ref (ma 43), .ref (ma 44), .ref (ma 45), .ref (ma 46), .ref (ma 47), .ref (ma 48), .int 0, .int 0, .int 0, .int 0, .int 0, .int 0, .int 0, .long 0, .int 0, .long 0, .long 0, .long 0, .long 0, .int 0, .int 0, .int 0, .int 0, .long 0])), (ma 39, .inl (G.2 0, 6, .inl (fun _ => 0)))]) (wr := []) (As := [.int r_6]) (rest := []) C0 (c_X9_no l G m0 ma r_6 (xin6 hr_6)) ok_X9_no (mW177 : Cond.methodLink RX9 168 yX9_no ∈ wsT) ⟨Nat.le_of_ble_eq_true rfl, Nat.le_of_ble_eq_true rfl⟩ hP hD hS hA hK hN [0, 1] [] rfl rfl (by decide) (by decide) (by decide) rfl rfl rfl rfl hl.1 rfl (Nat.le_of_ble_eq_true rfl) ⟨Nat.le_of_ble_eq_true rfl, Nat.le_of_ble_eq_true rfl⟩ dX9_span_34 (fun r_8 u_9 H locs hr_8 hP hD hS => ?_)
      have hP : va_P G.1 xcl [] H := hP
      have hD : va_D A [] := hD
      obtain rfl : r_8 = (-1) := hr_8
      have hP9 := hP.sub (ws' := []) [] rfl
      have hD9 := hD.sub (ws' := []) [] (by decide) rfl
      exact W.iret (v := (-1)) hx hb hr (fun t ht hW => ⟨⟨(-1), (), rfl, rfl, by rw [ht]; exact hP9, hD9⟩, hS.F ht⟩) hS.2.2 dX9_span_37
    · refine lv_iconst (v := 1) hx hb dX9_span_14 (by decide) ?_
      refine lv_goto (tgt := 24) hx hb dX9_span_15 (by decide) ?_
      refine lv_istore (lv' := [(4, .int 1), (0, .ref m0), (1, .int p0), (2, .int p1), (3, .int p2)]) hx hb dX9_span_24 hl (by decide) rfl (fun ls hl => ?_)
      refine lv_iload hx hb dX9_span_26 (lv_at hl 0 rfl) ?_
      refine lv_if_eq (tgt := 38) hx hb dX9_span_28 (by decide) (fun c_10 => absurd c_10 (by decide +kernel)) (fun c_10 => ?_)
      refine lv_aload_n hx hb dX9_span_31 rfl (lv_at hl 1 rfl) ?_
      refine lv_iload hx hb dX9_span_32 (lv_at hl 0 rfl) ?_
      refine xVwi (rq := 0) (ci := 9) (wc := [(m0, .inr (9, [.int 0, .int 0, .int 0, .int (-1), .ref (ma 4), .ref (ma 5), .ref (ma 6), .ref (ma 7), .ref (ma 8), .ref (ma 9), .ref (ma 10), .ref (ma 11), .ref (ma 12), .ref (ma 13), .ref (ma 14), .ref (ma 15), .ref (ma 16), .ref (ma 17), .ref (ma 18), .ref (ma 19), .int 0, .ref (ma 21), .ref (ma 22), .ref (ma 23), .ref (ma 24), .ref (ma 25), .ref (ma 26), .ref (ma 27), .ref (ma 28), .ref (ma 29), .ref (ma 30), .ref (ma 31), .ref (ma 32), .ref (ma 33), .ref (ma 34), .ref (ma 35), .ref (ma 36), .ref (ma 37), .int 0, .ref (ma 39), .ref (ma 40), .ref (ma 41), .ref (ma 42), .ref (ma 43), .ref (ma 44), .ref (ma 45), .ref (ma 46), .ref (ma 47), .ref (ma 48), .int 0, .int 0, .int 0, .int 0, .int 0, .int 0, .int 0, .long 0, .int 0, .long 0, .long 0, .long 0, .long 0, .int 0, .int 0, .int 0, .int 0, .long 0])), (ma 39, .inl (G.2 0, 6, .inl (fun _ => 0)))]) (wr := []) (As := [.int 1]) (rest := []) C0 (c_X9_no l G m0 ma 1 (by unfold vp_in; decide +kernel)) ok_X9_no (mW177 : Cond.methodLink RX9 168 yX9_no ∈ wsT) ⟨Nat.le_of_ble_eq_true rfl, Nat.le_of_ble_eq_true rfl⟩ hP hD hS hA hK hN [0, 1] [] rfl rfl (by decide) (by decide) (by decide) rfl rfl rfl rfl hl.1 rfl (Nat.le_of_ble_eq_true rfl) ⟨Nat.le_of_ble_eq_true rfl, Nat.le_of_ble_eq_true rfl⟩ dX9_span_34 (fun r_11 u_12 H locs hr_11 hP hD hS => ?_)
      have hP : va_P G.1 xcl [] H := hP
      have hD : va_D A [] := hD
      obtain rfl : r_11 = (-1) := hr_11
      have hP9 := hP.sub (ws' := []) [] rfl
      have hD9 := hD.sub (ws' := []) [] (by decide) rfl
      exact W.iret (v := (-1)) hx hb hr (fun t ht hW => ⟨⟨(-1), (), rfl, rfl, by rw [ht]; exact hP9, hD9⟩, hS.F ht⟩) hS.2.2 dX9_span_37
theorem dX9_port_0 : decode cX9_port 0 = .ok (.aload_n 0, 1) := by decide +kernel
theorem dX9_port_1 : decode cX9_port 1 = .ok (.iconst 0, 1) := by decide +kernel
theorem dX9_port_2 : decode cX9_port 2 = .ok (.putfield 147, 3) := by decide +kernel
theorem dX9_port_5 : decode cX9_port 5 = .ok (.iload_n 1, 1) := by decide +kernel
theorem dX9_port_6 : decode cX9_port 6 = .ok (.ifCond .lt 20, 3) := by decide +kernel
theorem dX9_port_9 : decode cX9_port 9 = .ok (.iload_n 1, 1) := by decide +kernel
theorem dX9_port_10 : decode cX9_port 10 = .ok (.bipush 8, 2) := by decide +kernel
theorem dX9_port_12 : decode cX9_port 12 = .ok (.if_icmp .ge 14, 3) := by decide +kernel
theorem dX9_port_15 : decode cX9_port 15 = .ok (.iload_n 3, 1) := by decide +kernel
theorem dX9_port_16 : decode cX9_port 16 = .ok (.iconst 1, 1) := by decide +kernel
theorem dX9_port_17 : decode cX9_port 17 = .ok (.if_icmp .lt 9, 3) := by decide +kernel
theorem dX9_port_20 : decode cX9_port 20 = .ok (.iload_n 3, 1) := by decide +kernel
theorem dX9_port_21 : decode cX9_port 21 = .ok (.bipush 90, 2) := by decide +kernel
theorem dX9_port_23 : decode cX9_port 23 = .ok (.if_icmp .le 7, 3) := by decide +kernel
theorem dX9_port_26 : decode cX9_port 26 = .ok (.iconst 1, 1) := by decide +kernel
theorem dX9_port_27 : decode cX9_port 27 = .ok (.goto 8, 3) := by decide +kernel
theorem dX9_port_30 : decode cX9_port 30 = .ok (.aload_n 0, 1) := by decide +kernel
theorem dX9_port_31 : decode cX9_port 31 = .ok (.iload_n 2, 1) := by decide +kernel
theorem dX9_port_32 : decode cX9_port 32 = .ok (.invokevirtual 153, 3) := by decide +kernel
theorem dX9_port_35 : decode cX9_port 35 = .ok (.istore 4, 2) := by decide +kernel
theorem dX9_port_37 : decode cX9_port 37 = .ok (.iload 4, 2) := by decide +kernel
theorem dX9_port_39 : decode cX9_port 39 = .ok (.ifCond .eq 12, 3) := by decide +kernel
theorem dX9_port_42 : decode cX9_port 42 = .ok (.aload_n 0, 1) := by decide +kernel
theorem dX9_port_43 : decode cX9_port 43 = .ok (.iload 4, 2) := by decide +kernel
theorem dX9_port_45 : decode cX9_port 45 = .ok (.invokevirtual 168, 3) := by decide +kernel
theorem dX9_port_48 : decode cX9_port 48 = .ok (.pop, 1) := by decide +kernel
theorem dX9_port_49 : decode cX9_port 49 = .ok (.iconst 0, 1) := by decide +kernel
theorem dX9_port_50 : decode cX9_port 50 = .ok (.ireturn, 1) := by decide +kernel
set_option maxHeartbeats 4000000 in
set_option maxRecDepth 100000 in
theorem c_X9_port (l : Launch) (G : xG) (m0 : Nat) (ma : Nat → Nat) (p0 : Int32) (p1 : Int32) (p2 : Int32)  : xWi l G yX9_port cX9_port 6 (some .boolean) 1 21 0 0 [.ref m0, .int p0, .int p1, .int p2] [(m0, .inr (9, [.int 0, .int 0, .int 0, .int (-1), .ref (ma 4), .ref (ma 5), .ref (ma 6), .ref (ma 7), .ref (ma 8), .ref (ma 9), .ref (ma 10), .ref (ma 11), .ref (ma 12), .ref (ma 13), .ref (ma 14), .ref (ma 15), .ref (ma 16), .ref (ma 17), .ref (ma 18), .ref (ma 19), .int 0, .ref (ma 21), .ref (ma 22), .ref (ma 23), .ref (ma 24), .ref (ma 25), .ref (ma 26), .ref (ma 27), .ref (ma 28), .ref (ma 29), .ref (ma 30), .ref (ma 31), .ref (ma 32), .ref (ma 33), .ref (ma 34), .ref (ma 35), .ref (ma 36), .ref (ma 37), .int 0, .ref (ma 39), .ref (ma 40), .ref (ma 41), .ref (ma 42), .ref (ma 43), .ref (ma 44), .ref (ma 45), .ref (ma 46), .ref (ma 47), .ref (ma 48), .int 0, .int 0, .int 0, .int 0, .int 0, .int 0, .int 0, .long 0, .int 0, .long 0, .long 0, .long 0, .long 0, .int 0, .int 0, .int 0, .int 0, .long 0])), (ma 39, .inl (G.2 0, 6, .inl (fun _ => 0)))] (S := Unit) (fun r _ => r = 0) (fun _ => []) := by
  intro sz
  refine xstart (by decide) (Nat.le_of_ble_eq_true rfl) (fun p e s m args below meth c ls C0 hr hlocks hin hsz hP hK hD hN hl => ?_)
  obtain ⟨hx, hb, hml, hown, htl⟩ := id C0
  subst hsz
  have hD := hD.self (sz := s.heap.size)
  generalize hAe : va_A [(m0, .inr (9, [.int 0, .int 0, .int 0, .int (-1), .ref (ma 4), .ref (ma 5), .ref (ma 6), .ref (ma 7), .ref (ma 8), .ref (ma 9), .ref (ma 10), .ref (ma 11), .ref (ma 12), .ref (ma 13), .ref (ma 14), .ref (ma 15), .ref (ma 16), .ref (ma 17), .ref (ma 18), .ref (ma 19), .int 0, .ref (ma 21), .ref (ma 22), .ref (ma 23), .ref (ma 24), .ref (ma 25), .ref (ma 26), .ref (ma 27), .ref (ma 28), .ref (ma 29), .ref (ma 30), .ref (ma 31), .ref (ma 32), .ref (ma 33), .ref (ma 34), .ref (ma 35), .ref (ma 36), .ref (ma 37), .int 0, .ref (ma 39), .ref (ma 40), .ref (ma 41), .ref (ma 42), .ref (ma 43), .ref (ma 44), .ref (ma 45), .ref (ma 46), .ref (ma 47), .ref (ma 48), .int 0, .int 0, .int 0, .int 0, .int 0, .int 0, .int 0, .long 0, .int 0, .long 0, .long 0, .long 0, .long 0, .int 0, .int 0, .int 0, .int 0, .long 0])), (ma 39, .inl (G.2 0, 6, .inl (fun _ => 0)))] s.heap.size = A at hD ⊢
  have hA : ∀ q : Nat, s.heap.size ≤ q → A q := fun q h => by rw [← hAe]; exact Or.inr h
  have hS : va_S A s.heap s.heap [] := va_S.rf
  have hl : lv_has ls 6 [(0, .ref m0), (1, .int p0), (2, .int p1), (3, .int p2)] := hl
  refine lv_aload_n hx hb dX9_port_0 rfl (lv_at hl 0 rfl) ?_
  refine lv_iconst (v := 0) hx hb dX9_port_1 (by decide) ?_
  refine va_put (D := G.1) (ci := 9) (v := .int 0) (ty := .int) (C := RX9) (T := TX9) (N := 67) hx hb htl inlX9 tyX9 tyX9_ok nmX9 hown hK hP hD hS 0 rfl rfl 38 (by decide) (htl (.fieldLink RX9 147 "LaytimeDeskModel" "reason" "I") mW175) (fun _ h9 => h9) rfl (by decide +kernel) rfl rfl (Nat.le_of_ble_eq_true rfl) dX9_port_2 (fun H locs hP hD hS => ?_)
  have hP : va_P G.1 xcl [(m0, .inr (9, [.int 0, .int 0, .int 0, .int (-1), .ref (ma 4), .ref (ma 5), .ref (ma 6), .ref (ma 7), .ref (ma 8), .ref (ma 9), .ref (ma 10), .ref (ma 11), .ref (ma 12), .ref (ma 13), .ref (ma 14), .ref (ma 15), .ref (ma 16), .ref (ma 17), .ref (ma 18), .ref (ma 19), .int 0, .ref (ma 21), .ref (ma 22), .ref (ma 23), .ref (ma 24), .ref (ma 25), .ref (ma 26), .ref (ma 27), .ref (ma 28), .ref (ma 29), .ref (ma 30), .ref (ma 31), .ref (ma 32), .ref (ma 33), .ref (ma 34), .ref (ma 35), .ref (ma 36), .ref (ma 37), .int 0, .ref (ma 39), .ref (ma 40), .ref (ma 41), .ref (ma 42), .ref (ma 43), .ref (ma 44), .ref (ma 45), .ref (ma 46), .ref (ma 47), .ref (ma 48), .int 0, .int 0, .int 0, .int 0, .int 0, .int 0, .int 0, .long 0, .int 0, .long 0, .long 0, .long 0, .long 0, .int 0, .int 0, .int 0, .int 0, .long 0])), (ma 39, .inl (G.2 0, 6, .inl (fun _ => 0)))] H := hP
  have hD : va_D A [(m0, .inr (9, [.int 0, .int 0, .int 0, .int (-1), .ref (ma 4), .ref (ma 5), .ref (ma 6), .ref (ma 7), .ref (ma 8), .ref (ma 9), .ref (ma 10), .ref (ma 11), .ref (ma 12), .ref (ma 13), .ref (ma 14), .ref (ma 15), .ref (ma 16), .ref (ma 17), .ref (ma 18), .ref (ma 19), .int 0, .ref (ma 21), .ref (ma 22), .ref (ma 23), .ref (ma 24), .ref (ma 25), .ref (ma 26), .ref (ma 27), .ref (ma 28), .ref (ma 29), .ref (ma 30), .ref (ma 31), .ref (ma 32), .ref (ma 33), .ref (ma 34), .ref (ma 35), .ref (ma 36), .ref (ma 37), .int 0, .ref (ma 39), .ref (ma 40), .ref (ma 41), .ref (ma 42), .ref (ma 43), .ref (ma 44), .ref (ma 45), .ref (ma 46), .ref (ma 47), .ref (ma 48), .int 0, .int 0, .int 0, .int 0, .int 0, .int 0, .int 0, .long 0, .int 0, .long 0, .long 0, .long 0, .long 0, .int 0, .int 0, .int 0, .int 0, .long 0])), (ma 39, .inl (G.2 0, 6, .inl (fun _ => 0)))] := hD
  refine lv_iload_n hx hb dX9_port_5 rfl (lv_at hl 1 rfl) ?_
  refine lv_if_lt (tgt := 26) hx hb dX9_port_6 (by decide) (fun c_1 => ?_) (fun c_1 => ?_)
  · refine lv_iconst (v := 1) hx hb dX9_port_26 (by decide) ?_
    refine lv_goto (tgt := 35) hx hb dX9_port_27 (by decide) ?_
    refine lv_istore (lv' := [(4, .int 1), (0, .ref m0), (1, .int p0), (2, .int p1), (3, .int p2)]) hx hb dX9_port_35 hl (by decide) rfl (fun ls hl => ?_)
    refine lv_iload hx hb dX9_port_37 (lv_at hl 0 rfl) ?_
    refine lv_if_eq (tgt := 51) hx hb dX9_port_39 (by decide) (fun c_2 => absurd c_2 (by decide +kernel)) (fun c_2 => ?_)
    refine lv_aload_n hx hb dX9_port_42 rfl (lv_at hl 1 rfl) ?_
    refine lv_iload hx hb dX9_port_43 (lv_at hl 0 rfl) ?_
    refine xVwi (rq := 0) (ci := 9) (wc := [(m0, .inr (9, [.int 0, .int 0, .int 0, .int (-1), .ref (ma 4), .ref (ma 5), .ref (ma 6), .ref (ma 7), .ref (ma 8), .ref (ma 9), .ref (ma 10), .ref (ma 11), .ref (ma 12), .ref (ma 13), .ref (ma 14), .ref (ma 15), .ref (ma 16), .ref (ma 17), .ref (ma 18), .ref (ma 19), .int 0, .ref (ma 21), .ref (ma 22), .ref (ma 23), .ref (ma 24), .ref (ma 25), .ref (ma 26), .ref (ma 27), .ref (ma 28), .ref (ma 29), .ref (ma 30), .ref (ma 31), .ref (ma 32), .ref (ma 33), .ref (ma 34), .ref (ma 35), .ref (ma 36), .ref (ma 37), .int 0, .ref (ma 39), .ref (ma 40), .ref (ma 41), .ref (ma 42), .ref (ma 43), .ref (ma 44), .ref (ma 45), .ref (ma 46), .ref (ma 47), .ref (ma 48), .int 0, .int 0, .int 0, .int 0, .int 0, .int 0, .int 0, .long 0, .int 0, .long 0, .long 0, .long 0, .long 0, .int 0, .int 0, .int 0, .int 0, .long 0])), (ma 39, .inl (G.2 0, 6, .inl (fun _ => 0)))]) (wr := []) (As := [.int 1]) (rest := []) C0 (c_X9_no l G m0 ma 1 (by unfold vp_in; decide +kernel)) ok_X9_no (mW177 : Cond.methodLink RX9 168 yX9_no ∈ wsT) ⟨Nat.le_of_ble_eq_true rfl, Nat.le_of_ble_eq_true rfl⟩ hP hD hS hA hK hN [0, 1] [] rfl rfl (by decide) (by decide) (by decide) rfl rfl rfl rfl hl.1 rfl (Nat.le_of_ble_eq_true rfl) ⟨Nat.le_of_ble_eq_true rfl, Nat.le_of_ble_eq_true rfl⟩ dX9_port_45 (fun r_3 u_4 H locs hr_3 hP hD hS => ?_)
    have hP : va_P G.1 xcl [] H := hP
    have hD : va_D A [] := hD
    obtain rfl : r_3 = (-1) := hr_3
    refine lv_pop hx hb dX9_port_48 rfl ?_
    refine lv_iconst (v := 0) hx hb dX9_port_49 (by decide) ?_
    have hP9 := hP.sub (ws' := []) [] rfl
    have hD9 := hD.sub (ws' := []) [] (by decide) rfl
    exact W.zret (v := 0) (ty := .boolean) hx hb hr rfl (fun t ht hW => ⟨⟨0, (), rfl, rfl, by rw [ht]; exact hP9, hD9⟩, hS.F ht⟩) hS.2.2 dX9_port_50
  · refine lv_iload_n hx hb dX9_port_9 rfl (lv_at hl 1 rfl) ?_
    refine lv_bipush (v := 8) hx hb dX9_port_10 (by decide) ?_
    refine lv_icmp_ge (tgt := 26) hx hb dX9_port_12 (by decide) (fun c_5 => ?_) (fun c_5 => ?_)
    · refine lv_iconst (v := 1) hx hb dX9_port_26 (by decide) ?_
      refine lv_goto (tgt := 35) hx hb dX9_port_27 (by decide) ?_
      refine lv_istore (lv' := [(4, .int 1), (0, .ref m0), (1, .int p0), (2, .int p1), (3, .int p2)]) hx hb dX9_port_35 hl (by decide) rfl (fun ls hl => ?_)
      refine lv_iload hx hb dX9_port_37 (lv_at hl 0 rfl) ?_
      refine lv_if_eq (tgt := 51) hx hb dX9_port_39 (by decide) (fun c_6 => absurd c_6 (by decide +kernel)) (fun c_6 => ?_)
      refine lv_aload_n hx hb dX9_port_42 rfl (lv_at hl 1 rfl) ?_
      refine lv_iload hx hb dX9_port_43 (lv_at hl 0 rfl) ?_
      refine xVwi (rq := 0) (ci := 9) (wc := [(m0, .inr (9, [.int 0, .int 0, .int 0, .int (-1), .ref (ma 4), .ref (ma 5), .ref (ma 6), .ref (ma 7), .ref (ma 8), .ref (ma 9), .ref (ma 10), .ref (ma 11), .ref (ma 12), .ref (ma 13), .ref (ma 14), .ref (ma 15), .ref (ma 16), .ref (ma 17), .ref (ma 18), .ref (ma 19), .int 0, .ref (ma 21), .ref (ma 22), .ref (ma 23), .ref (ma 24), .ref (ma 25), .ref (ma 26), .ref (ma 27), .ref (ma 28), .ref (ma 29), .ref (ma 30), .ref (ma 31), .ref (ma 32), .ref (ma 33), .ref (ma 34), .ref (ma 35), .ref (ma 36), .ref (ma 37), .int 0, .ref (ma 39), .ref (ma 40), .ref (ma 41), .ref (ma 42), .ref (ma 43), .ref (ma 44), .ref (ma 45), .ref (ma 46), .ref (ma 47), .ref (ma 48), .int 0, .int 0, .int 0, .int 0, .int 0, .int 0, .int 0, .long 0, .int 0, .long 0, .long 0, .long 0, .long 0, .int 0, .int 0, .int 0, .int 0, .long 0])), (ma 39, .inl (G.2 0, 6, .inl (fun _ => 0)))]) (wr := []) (As := [.int 1]) (rest := []) C0 (c_X9_no l G m0 ma 1 (by unfold vp_in; decide +kernel)) ok_X9_no (mW177 : Cond.methodLink RX9 168 yX9_no ∈ wsT) ⟨Nat.le_of_ble_eq_true rfl, Nat.le_of_ble_eq_true rfl⟩ hP hD hS hA hK hN [0, 1] [] rfl rfl (by decide) (by decide) (by decide) rfl rfl rfl rfl hl.1 rfl (Nat.le_of_ble_eq_true rfl) ⟨Nat.le_of_ble_eq_true rfl, Nat.le_of_ble_eq_true rfl⟩ dX9_port_45 (fun r_7 u_8 H locs hr_7 hP hD hS => ?_)
      have hP : va_P G.1 xcl [] H := hP
      have hD : va_D A [] := hD
      obtain rfl : r_7 = (-1) := hr_7
      refine lv_pop hx hb dX9_port_48 rfl ?_
      refine lv_iconst (v := 0) hx hb dX9_port_49 (by decide) ?_
      have hP9 := hP.sub (ws' := []) [] rfl
      have hD9 := hD.sub (ws' := []) [] (by decide) rfl
      exact W.zret (v := 0) (ty := .boolean) hx hb hr rfl (fun t ht hW => ⟨⟨0, (), rfl, rfl, by rw [ht]; exact hP9, hD9⟩, hS.F ht⟩) hS.2.2 dX9_port_50
    · refine lv_iload_n hx hb dX9_port_15 rfl (lv_at hl 3 rfl) ?_
      refine lv_iconst (v := 1) hx hb dX9_port_16 (by decide) ?_
      refine lv_icmp_lt (tgt := 26) hx hb dX9_port_17 (by decide) (fun c_9 => ?_) (fun c_9 => ?_)
      · refine lv_iconst (v := 1) hx hb dX9_port_26 (by decide) ?_
        refine lv_goto (tgt := 35) hx hb dX9_port_27 (by decide) ?_
        refine lv_istore (lv' := [(4, .int 1), (0, .ref m0), (1, .int p0), (2, .int p1), (3, .int p2)]) hx hb dX9_port_35 hl (by decide) rfl (fun ls hl => ?_)
        refine lv_iload hx hb dX9_port_37 (lv_at hl 0 rfl) ?_
        refine lv_if_eq (tgt := 51) hx hb dX9_port_39 (by decide) (fun c_10 => absurd c_10 (by decide +kernel)) (fun c_10 => ?_)
        refine lv_aload_n hx hb dX9_port_42 rfl (lv_at hl 1 rfl) ?_
        refine lv_iload hx hb dX9_port_43 (lv_at hl 0 rfl) ?_
        refine xVwi (rq := 0) (ci := 9) (wc := [(m0, .inr (9, [.int 0, .int 0, .int 0, .int (-1), .ref (ma 4), .ref (ma 5), .ref (ma 6), .ref (ma 7), .ref (ma 8), .ref (ma 9), .ref (ma 10), .ref (ma 11), .ref (ma 12), .ref (ma 13), .ref (ma 14), .ref (ma 15), .ref (ma 16), .ref (ma 17), .ref (ma 18), .ref (ma 19), .int 0, .ref (ma 21), .ref (ma 22), .ref (ma 23), .ref (ma 24), .ref (ma 25), .ref (ma 26), .ref (ma 27), .ref (ma 28), .ref (ma 29), .ref (ma 30), .ref (ma 31), .ref (ma 32), .ref (ma 33), .ref (ma 34), .ref (ma 35), .ref (ma 36), .ref (ma 37), .int 0, .ref (ma 39), .ref (ma 40), .ref (ma 41), .ref (ma 42), .ref (ma 43), .ref (ma 44), .ref (ma 45), .ref (ma 46), .ref (ma 47), .ref (ma 48), .int 0, .int 0, .int 0, .int 0, .int 0, .int 0, .int 0, .long 0, .int 0, .long 0, .long 0, .long 0, .long 0, .int 0, .int 0, .int 0, .int 0, .long 0])), (ma 39, .inl (G.2 0, 6, .inl (fun _ => 0)))]) (wr := []) (As := [.int 1]) (rest := []) C0 (c_X9_no l G m0 ma 1 (by unfold vp_in; decide +kernel)) ok_X9_no (mW177 : Cond.methodLink RX9 168 yX9_no ∈ wsT) ⟨Nat.le_of_ble_eq_true rfl, Nat.le_of_ble_eq_true rfl⟩ hP hD hS hA hK hN [0, 1] [] rfl rfl (by decide) (by decide) (by decide) rfl rfl rfl rfl hl.1 rfl (Nat.le_of_ble_eq_true rfl) ⟨Nat.le_of_ble_eq_true rfl, Nat.le_of_ble_eq_true rfl⟩ dX9_port_45 (fun r_11 u_12 H locs hr_11 hP hD hS => ?_)
        have hP : va_P G.1 xcl [] H := hP
        have hD : va_D A [] := hD
        obtain rfl : r_11 = (-1) := hr_11
        refine lv_pop hx hb dX9_port_48 rfl ?_
        refine lv_iconst (v := 0) hx hb dX9_port_49 (by decide) ?_
        have hP9 := hP.sub (ws' := []) [] rfl
        have hD9 := hD.sub (ws' := []) [] (by decide) rfl
        exact W.zret (v := 0) (ty := .boolean) hx hb hr rfl (fun t ht hW => ⟨⟨0, (), rfl, rfl, by rw [ht]; exact hP9, hD9⟩, hS.F ht⟩) hS.2.2 dX9_port_50
      · refine lv_iload_n hx hb dX9_port_20 rfl (lv_at hl 3 rfl) ?_
        refine lv_bipush (v := 90) hx hb dX9_port_21 (by decide) ?_
        refine lv_icmp_le (tgt := 30) hx hb dX9_port_23 (by decide) (fun c_13 => ?_) (fun c_13 => ?_)
        · refine lv_aload_n hx hb dX9_port_30 rfl (lv_at hl 0 rfl) ?_
          refine lv_iload_n hx hb dX9_port_31 rfl (lv_at hl 2 rfl) ?_
          refine xVri (rq := 0) (ci := 9) (wc := [(m0, .inr (9, [.int 0, .int 0, .int 0, .int (-1), .ref (ma 4), .ref (ma 5), .ref (ma 6), .ref (ma 7), .ref (ma 8), .ref (ma 9), .ref (ma 10), .ref (ma 11), .ref (ma 12), .ref (ma 13), .ref (ma 14), .ref (ma 15), .ref (ma 16), .ref (ma 17), .ref (ma 18), .ref (ma 19), .int 0, .ref (ma 21), .ref (ma 22), .ref (ma 23), .ref (ma 24), .ref (ma 25), .ref (ma 26), .ref (ma 27), .ref (ma 28), .ref (ma 29), .ref (ma 30), .ref (ma 31), .ref (ma 32), .ref (ma 33), .ref (ma 34), .ref (ma 35), .ref (ma 36), .ref (ma 37), .int 0, .ref (ma 39), .ref (ma 40), .ref (ma 41), .ref (ma 42), .ref (ma 43), .ref (ma 44), .ref (ma 45), .ref (ma 46), .ref (ma 47), .ref (ma 48), .int 0, .int 0, .int 0, .int 0, .int 0, .int 0, .int 0, .long 0, .int 0, .long 0, .long 0, .long 0, .long 0, .int 0, .int 0, .int 0, .int 0, .long 0]))]) (As := [.int p1]) (rest := []) C0 (c_X9_contractWhy l G m0 ma p1) ok_X9_contractWhy (mW226 : Cond.methodLink RX9 153 yX9_contractWhy ∈ wsT) ⟨Nat.le_of_ble_eq_true rfl, Nat.le_of_ble_eq_true rfl⟩ hP hD hK hN [0] rfl (by decide) rfl rfl rfl rfl hl.1 rfl (Nat.le_of_ble_eq_true rfl) ⟨Nat.le_of_ble_eq_true rfl, Nat.le_of_ble_eq_true rfl⟩ dX9_port_32 (fun r_14 hr_14 => ?_)
          refine lv_istore (lv' := [(4, .int r_14), (0, .ref m0), (1, .int p0), (2, .int p1), (3, .int p2)]) hx hb dX9_port_35 hl (by decide) rfl (fun ls hl => ?_)
          refine lv_iload hx hb dX9_port_37 (lv_at hl 0 rfl) ?_
          refine lv_if_eq (tgt := 51) hx hb dX9_port_39 (by decide) (fun c_15 => absurd c_15 (xn0 hr_14)) (fun c_15 => ?_)
          refine lv_aload_n hx hb dX9_port_42 rfl (lv_at hl 1 rfl) ?_
          refine lv_iload hx hb dX9_port_43 (lv_at hl 0 rfl) ?_
          refine xVwi (rq := 0) (ci := 9) (wc := [(m0, .inr (9, [.int 0, .int 0, .int 0, .int (-1), .ref (ma 4), .ref (ma 5), .ref (ma 6), .ref (ma 7), .ref (ma 8), .ref (ma 9), .ref (ma 10), .ref (ma 11), .ref (ma 12), .ref (ma 13), .ref (ma 14), .ref (ma 15), .ref (ma 16), .ref (ma 17), .ref (ma 18), .ref (ma 19), .int 0, .ref (ma 21), .ref (ma 22), .ref (ma 23), .ref (ma 24), .ref (ma 25), .ref (ma 26), .ref (ma 27), .ref (ma 28), .ref (ma 29), .ref (ma 30), .ref (ma 31), .ref (ma 32), .ref (ma 33), .ref (ma 34), .ref (ma 35), .ref (ma 36), .ref (ma 37), .int 0, .ref (ma 39), .ref (ma 40), .ref (ma 41), .ref (ma 42), .ref (ma 43), .ref (ma 44), .ref (ma 45), .ref (ma 46), .ref (ma 47), .ref (ma 48), .int 0, .int 0, .int 0, .int 0, .int 0, .int 0, .int 0, .long 0, .int 0, .long 0, .long 0, .long 0, .long 0, .int 0, .int 0, .int 0, .int 0, .long 0])), (ma 39, .inl (G.2 0, 6, .inl (fun _ => 0)))]) (wr := []) (As := [.int r_14]) (rest := []) C0 (c_X9_no l G m0 ma r_14 (xin6 hr_14)) ok_X9_no (mW177 : Cond.methodLink RX9 168 yX9_no ∈ wsT) ⟨Nat.le_of_ble_eq_true rfl, Nat.le_of_ble_eq_true rfl⟩ hP hD hS hA hK hN [0, 1] [] rfl rfl (by decide) (by decide) (by decide) rfl rfl rfl rfl hl.1 rfl (Nat.le_of_ble_eq_true rfl) ⟨Nat.le_of_ble_eq_true rfl, Nat.le_of_ble_eq_true rfl⟩ dX9_port_45 (fun r_16 u_17 H locs hr_16 hP hD hS => ?_)
          have hP : va_P G.1 xcl [] H := hP
          have hD : va_D A [] := hD
          obtain rfl : r_16 = (-1) := hr_16
          refine lv_pop hx hb dX9_port_48 rfl ?_
          refine lv_iconst (v := 0) hx hb dX9_port_49 (by decide) ?_
          have hP9 := hP.sub (ws' := []) [] rfl
          have hD9 := hD.sub (ws' := []) [] (by decide) rfl
          exact W.zret (v := 0) (ty := .boolean) hx hb hr rfl (fun t ht hW => ⟨⟨0, (), rfl, rfl, by rw [ht]; exact hP9, hD9⟩, hS.F ht⟩) hS.2.2 dX9_port_50
        · refine lv_iconst (v := 1) hx hb dX9_port_26 (by decide) ?_
          refine lv_goto (tgt := 35) hx hb dX9_port_27 (by decide) ?_
          refine lv_istore (lv' := [(4, .int 1), (0, .ref m0), (1, .int p0), (2, .int p1), (3, .int p2)]) hx hb dX9_port_35 hl (by decide) rfl (fun ls hl => ?_)
          refine lv_iload hx hb dX9_port_37 (lv_at hl 0 rfl) ?_
          refine lv_if_eq (tgt := 51) hx hb dX9_port_39 (by decide) (fun c_18 => absurd c_18 (by decide +kernel)) (fun c_18 => ?_)
          refine lv_aload_n hx hb dX9_port_42 rfl (lv_at hl 1 rfl) ?_
          refine lv_iload hx hb dX9_port_43 (lv_at hl 0 rfl) ?_
          refine xVwi (rq := 0) (ci := 9) (wc := [(m0, .inr (9, [.int 0, .int 0, .int 0, .int (-1), .ref (ma 4), .ref (ma 5), .ref (ma 6), .ref (ma 7), .ref (ma 8), .ref (ma 9), .ref (ma 10), .ref (ma 11), .ref (ma 12), .ref (ma 13), .ref (ma 14), .ref (ma 15), .ref (ma 16), .ref (ma 17), .ref (ma 18), .ref (ma 19), .int 0, .ref (ma 21), .ref (ma 22), .ref (ma 23), .ref (ma 24), .ref (ma 25), .ref (ma 26), .ref (ma 27), .ref (ma 28), .ref (ma 29), .ref (ma 30), .ref (ma 31), .ref (ma 32), .ref (ma 33), .ref (ma 34), .ref (ma 35), .ref (ma 36), .ref (ma 37), .int 0, .ref (ma 39), .ref (ma 40), .ref (ma 41), .ref (ma 42), .ref (ma 43), .ref (ma 44), .ref (ma 45), .ref (ma 46), .ref (ma 47), .ref (ma 48), .int 0, .int 0, .int 0, .int 0, .int 0, .int 0, .int 0, .long 0, .int 0, .long 0, .long 0, .long 0, .long 0, .int 0, .int 0, .int 0, .int 0, .long 0])), (ma 39, .inl (G.2 0, 6, .inl (fun _ => 0)))]) (wr := []) (As := [.int 1]) (rest := []) C0 (c_X9_no l G m0 ma 1 (by unfold vp_in; decide +kernel)) ok_X9_no (mW177 : Cond.methodLink RX9 168 yX9_no ∈ wsT) ⟨Nat.le_of_ble_eq_true rfl, Nat.le_of_ble_eq_true rfl⟩ hP hD hS hA hK hN [0, 1] [] rfl rfl (by decide) (by decide) (by decide) rfl rfl rfl rfl hl.1 rfl (Nat.le_of_ble_eq_true rfl) ⟨Nat.le_of_ble_eq_true rfl, Nat.le_of_ble_eq_true rfl⟩ dX9_port_45 (fun r_19 u_20 H locs hr_19 hP hD hS => ?_)
          have hP : va_P G.1 xcl [] H := hP
          have hD : va_D A [] := hD
          obtain rfl : r_19 = (-1) := hr_19
          refine lv_pop hx hb dX9_port_48 rfl ?_
          refine lv_iconst (v := 0) hx hb dX9_port_49 (by decide) ?_
          have hP9 := hP.sub (ws' := []) [] rfl
          have hD9 := hD.sub (ws' := []) [] (by decide) rfl
          exact W.zret (v := 0) (ty := .boolean) hx hb hr rfl (fun t ht hW => ⟨⟨0, (), rfl, rfl, by rw [ht]; exact hP9, hD9⟩, hS.F ht⟩) hS.2.2 dX9_port_50
theorem dX9_close_0 : decode cX9_close 0 = .ok (.aload_n 0, 1) := by decide +kernel
theorem dX9_close_1 : decode cX9_close 1 = .ok (.iconst 0, 1) := by decide +kernel
theorem dX9_close_2 : decode cX9_close 2 = .ok (.putfield 147, 3) := by decide +kernel
theorem dX9_close_5 : decode cX9_close 5 = .ok (.aload_n 0, 1) := by decide +kernel
theorem dX9_close_6 : decode cX9_close 6 = .ok (.iload_n 1, 1) := by decide +kernel
theorem dX9_close_7 : decode cX9_close 7 = .ok (.invokevirtual 165, 3) := by decide +kernel
theorem dX9_close_10 : decode cX9_close 10 = .ok (.istore_n 2, 1) := by decide +kernel
theorem dX9_close_11 : decode cX9_close 11 = .ok (.iload_n 2, 1) := by decide +kernel
theorem dX9_close_12 : decode cX9_close 12 = .ok (.ifCond .eq 11, 3) := by decide +kernel
theorem dX9_close_15 : decode cX9_close 15 = .ok (.aload_n 0, 1) := by decide +kernel
theorem dX9_close_16 : decode cX9_close 16 = .ok (.iload_n 2, 1) := by decide +kernel
theorem dX9_close_17 : decode cX9_close 17 = .ok (.invokevirtual 168, 3) := by decide +kernel
theorem dX9_close_20 : decode cX9_close 20 = .ok (.pop, 1) := by decide +kernel
theorem dX9_close_21 : decode cX9_close 21 = .ok (.iconst 0, 1) := by decide +kernel
theorem dX9_close_22 : decode cX9_close 22 = .ok (.ireturn, 1) := by decide +kernel
set_option maxHeartbeats 4000000 in
set_option maxRecDepth 100000 in
theorem c_X9_close (l : Launch) (G : xG) (m0 : Nat) (ma : Nat → Nat) (p0 : Int32)  : xWi l G yX9_close cX9_close 3 (some .boolean) 2 42 0 0 [.ref m0, .int p0] [(m0, .inr (9, [.int 0, .int 0, .int 0, .int (-1), .ref (ma 4), .ref (ma 5), .ref (ma 6), .ref (ma 7), .ref (ma 8), .ref (ma 9), .ref (ma 10), .ref (ma 11), .ref (ma 12), .ref (ma 13), .ref (ma 14), .ref (ma 15), .ref (ma 16), .ref (ma 17), .ref (ma 18), .ref (ma 19), .int 0, .ref (ma 21), .ref (ma 22), .ref (ma 23), .ref (ma 24), .ref (ma 25), .ref (ma 26), .ref (ma 27), .ref (ma 28), .ref (ma 29), .ref (ma 30), .ref (ma 31), .ref (ma 32), .ref (ma 33), .ref (ma 34), .ref (ma 35), .ref (ma 36), .ref (ma 37), .int 0, .ref (ma 39), .ref (ma 40), .ref (ma 41), .ref (ma 42), .ref (ma 43), .ref (ma 44), .ref (ma 45), .ref (ma 46), .ref (ma 47), .ref (ma 48), .int 0, .int 0, .int 0, .int 0, .int 0, .int 0, .int 0, .long 0, .int 0, .long 0, .long 0, .long 0, .long 0, .int 0, .int 0, .int 0, .int 0, .long 0])), (ma 39, .inl (G.2 0, 6, .inl (fun _ => 0))), (ma 11, .inl (G.2 4, 96, .inr (.inl (fun _ => 0))))] (S := Unit) (fun r _ => r = 0) (fun _ => []) := by
  intro sz
  refine xstart (by decide) (Nat.le_of_ble_eq_true rfl) (fun p e s m args below meth c ls C0 hr hlocks hin hsz hP hK hD hN hl => ?_)
  obtain ⟨hx, hb, hml, hown, htl⟩ := id C0
  subst hsz
  have hD := hD.self (sz := s.heap.size)
  generalize hAe : va_A [(m0, .inr (9, [.int 0, .int 0, .int 0, .int (-1), .ref (ma 4), .ref (ma 5), .ref (ma 6), .ref (ma 7), .ref (ma 8), .ref (ma 9), .ref (ma 10), .ref (ma 11), .ref (ma 12), .ref (ma 13), .ref (ma 14), .ref (ma 15), .ref (ma 16), .ref (ma 17), .ref (ma 18), .ref (ma 19), .int 0, .ref (ma 21), .ref (ma 22), .ref (ma 23), .ref (ma 24), .ref (ma 25), .ref (ma 26), .ref (ma 27), .ref (ma 28), .ref (ma 29), .ref (ma 30), .ref (ma 31), .ref (ma 32), .ref (ma 33), .ref (ma 34), .ref (ma 35), .ref (ma 36), .ref (ma 37), .int 0, .ref (ma 39), .ref (ma 40), .ref (ma 41), .ref (ma 42), .ref (ma 43), .ref (ma 44), .ref (ma 45), .ref (ma 46), .ref (ma 47), .ref (ma 48), .int 0, .int 0, .int 0, .int 0, .int 0, .int 0, .int 0, .long 0, .int 0, .long 0, .long 0, .long 0, .long 0, .int 0, .int 0, .int 0, .int 0, .long 0])), (ma 39, .inl (G.2 0, 6, .inl (fun _ => 0))), (ma 11, .inl (G.2 4, 96, .inr (.inl (fun _ => 0))))] s.heap.size = A at hD ⊢
  have hA : ∀ q : Nat, s.heap.size ≤ q → A q := fun q h => by rw [← hAe]; exact Or.inr h
  have hS : va_S A s.heap s.heap [] := va_S.rf
  have hl : lv_has ls 3 [(0, .ref m0), (1, .int p0)] := hl
  refine lv_aload_n hx hb dX9_close_0 rfl (lv_at hl 0 rfl) ?_
  refine lv_iconst (v := 0) hx hb dX9_close_1 (by decide) ?_
  refine va_put (D := G.1) (ci := 9) (v := .int 0) (ty := .int) (C := RX9) (T := TX9) (N := 67) hx hb htl inlX9 tyX9 tyX9_ok nmX9 hown hK hP hD hS 0 rfl rfl 38 (by decide) (htl (.fieldLink RX9 147 "LaytimeDeskModel" "reason" "I") mW175) (fun _ h9 => h9) rfl (by decide +kernel) rfl rfl (Nat.le_of_ble_eq_true rfl) dX9_close_2 (fun H locs hP hD hS => ?_)
  have hP : va_P G.1 xcl [(m0, .inr (9, [.int 0, .int 0, .int 0, .int (-1), .ref (ma 4), .ref (ma 5), .ref (ma 6), .ref (ma 7), .ref (ma 8), .ref (ma 9), .ref (ma 10), .ref (ma 11), .ref (ma 12), .ref (ma 13), .ref (ma 14), .ref (ma 15), .ref (ma 16), .ref (ma 17), .ref (ma 18), .ref (ma 19), .int 0, .ref (ma 21), .ref (ma 22), .ref (ma 23), .ref (ma 24), .ref (ma 25), .ref (ma 26), .ref (ma 27), .ref (ma 28), .ref (ma 29), .ref (ma 30), .ref (ma 31), .ref (ma 32), .ref (ma 33), .ref (ma 34), .ref (ma 35), .ref (ma 36), .ref (ma 37), .int 0, .ref (ma 39), .ref (ma 40), .ref (ma 41), .ref (ma 42), .ref (ma 43), .ref (ma 44), .ref (ma 45), .ref (ma 46), .ref (ma 47), .ref (ma 48), .int 0, .int 0, .int 0, .int 0, .int 0, .int 0, .int 0, .long 0, .int 0, .long 0, .long 0, .long 0, .long 0, .int 0, .int 0, .int 0, .int 0, .long 0])), (ma 39, .inl (G.2 0, 6, .inl (fun _ => 0))), (ma 11, .inl (G.2 4, 96, .inr (.inl (fun _ => 0))))] H := hP
  have hD : va_D A [(m0, .inr (9, [.int 0, .int 0, .int 0, .int (-1), .ref (ma 4), .ref (ma 5), .ref (ma 6), .ref (ma 7), .ref (ma 8), .ref (ma 9), .ref (ma 10), .ref (ma 11), .ref (ma 12), .ref (ma 13), .ref (ma 14), .ref (ma 15), .ref (ma 16), .ref (ma 17), .ref (ma 18), .ref (ma 19), .int 0, .ref (ma 21), .ref (ma 22), .ref (ma 23), .ref (ma 24), .ref (ma 25), .ref (ma 26), .ref (ma 27), .ref (ma 28), .ref (ma 29), .ref (ma 30), .ref (ma 31), .ref (ma 32), .ref (ma 33), .ref (ma 34), .ref (ma 35), .ref (ma 36), .ref (ma 37), .int 0, .ref (ma 39), .ref (ma 40), .ref (ma 41), .ref (ma 42), .ref (ma 43), .ref (ma 44), .ref (ma 45), .ref (ma 46), .ref (ma 47), .ref (ma 48), .int 0, .int 0, .int 0, .int 0, .int 0, .int 0, .int 0, .long 0, .int 0, .long 0, .long 0, .long 0, .long 0, .int 0, .int 0, .int 0, .int 0, .long 0])), (ma 39, .inl (G.2 0, 6, .inl (fun _ => 0))), (ma 11, .inl (G.2 4, 96, .inr (.inl (fun _ => 0))))] := hD
  refine lv_aload_n hx hb dX9_close_5 rfl (lv_at hl 0 rfl) ?_
  refine lv_iload_n hx hb dX9_close_6 rfl (lv_at hl 1 rfl) ?_
  refine xVri (rq := 0) (ci := 9) (wc := [(m0, .inr (9, [.int 0, .int 0, .int 0, .int (-1), .ref (ma 4), .ref (ma 5), .ref (ma 6), .ref (ma 7), .ref (ma 8), .ref (ma 9), .ref (ma 10), .ref (ma 11), .ref (ma 12), .ref (ma 13), .ref (ma 14), .ref (ma 15), .ref (ma 16), .ref (ma 17), .ref (ma 18), .ref (ma 19), .int 0, .ref (ma 21), .ref (ma 22), .ref (ma 23), .ref (ma 24), .ref (ma 25), .ref (ma 26), .ref (ma 27), .ref (ma 28), .ref (ma 29), .ref (ma 30), .ref (ma 31), .ref (ma 32), .ref (ma 33), .ref (ma 34), .ref (ma 35), .ref (ma 36), .ref (ma 37), .int 0, .ref (ma 39), .ref (ma 40), .ref (ma 41), .ref (ma 42), .ref (ma 43), .ref (ma 44), .ref (ma 45), .ref (ma 46), .ref (ma 47), .ref (ma 48), .int 0, .int 0, .int 0, .int 0, .int 0, .int 0, .int 0, .long 0, .int 0, .long 0, .long 0, .long 0, .long 0, .int 0, .int 0, .int 0, .int 0, .long 0])), (ma 11, .inl (G.2 4, 96, .inr (.inl (fun _ => 0))))]) (As := [.int p0]) (rest := []) C0 (c_X9_portWhy l G m0 ma p0) ok_X9_portWhy (mW387 : Cond.methodLink RX9 165 yX9_portWhy ∈ wsT) ⟨Nat.le_of_ble_eq_true rfl, Nat.le_of_ble_eq_true rfl⟩ hP hD hK hN [0, 2] rfl (by decide) rfl rfl rfl rfl hl.1 rfl (Nat.le_of_ble_eq_true rfl) ⟨Nat.le_of_ble_eq_true rfl, Nat.le_of_ble_eq_true rfl⟩ dX9_close_7 (fun r_1 hr_1 => ?_)
  refine lv_istore_n (lv' := [(2, .int r_1), (0, .ref m0), (1, .int p0)]) hx hb dX9_close_10 rfl hl (by decide) rfl (fun ls hl => ?_)
  refine lv_iload_n hx hb dX9_close_11 rfl (lv_at hl 0 rfl) ?_
  refine lv_if_eq (tgt := 23) hx hb dX9_close_12 (by decide) (fun c_2 => absurd c_2 (xn0 hr_1)) (fun c_2 => ?_)
  refine lv_aload_n hx hb dX9_close_15 rfl (lv_at hl 1 rfl) ?_
  refine lv_iload_n hx hb dX9_close_16 rfl (lv_at hl 0 rfl) ?_
  refine xVwi (rq := 0) (ci := 9) (wc := [(m0, .inr (9, [.int 0, .int 0, .int 0, .int (-1), .ref (ma 4), .ref (ma 5), .ref (ma 6), .ref (ma 7), .ref (ma 8), .ref (ma 9), .ref (ma 10), .ref (ma 11), .ref (ma 12), .ref (ma 13), .ref (ma 14), .ref (ma 15), .ref (ma 16), .ref (ma 17), .ref (ma 18), .ref (ma 19), .int 0, .ref (ma 21), .ref (ma 22), .ref (ma 23), .ref (ma 24), .ref (ma 25), .ref (ma 26), .ref (ma 27), .ref (ma 28), .ref (ma 29), .ref (ma 30), .ref (ma 31), .ref (ma 32), .ref (ma 33), .ref (ma 34), .ref (ma 35), .ref (ma 36), .ref (ma 37), .int 0, .ref (ma 39), .ref (ma 40), .ref (ma 41), .ref (ma 42), .ref (ma 43), .ref (ma 44), .ref (ma 45), .ref (ma 46), .ref (ma 47), .ref (ma 48), .int 0, .int 0, .int 0, .int 0, .int 0, .int 0, .int 0, .long 0, .int 0, .long 0, .long 0, .long 0, .long 0, .int 0, .int 0, .int 0, .int 0, .long 0])), (ma 39, .inl (G.2 0, 6, .inl (fun _ => 0)))]) (wr := [(ma 11, .inl (G.2 4, 96, .inr (.inl (fun _ => 0))))]) (As := [.int r_1]) (rest := []) C0 (c_X9_no l G m0 ma r_1 (xin6 hr_1)) ok_X9_no (mW177 : Cond.methodLink RX9 168 yX9_no ∈ wsT) ⟨Nat.le_of_ble_eq_true rfl, Nat.le_of_ble_eq_true rfl⟩ hP hD hS hA hK hN [0, 1] [2] rfl rfl (by decide) (by decide) (by decide) rfl rfl rfl rfl hl.1 rfl (Nat.le_of_ble_eq_true rfl) ⟨Nat.le_of_ble_eq_true rfl, Nat.le_of_ble_eq_true rfl⟩ dX9_close_17 (fun r_3 u_4 H locs hr_3 hP hD hS => ?_)
  have hP : va_P G.1 xcl [(ma 11, .inl (G.2 4, 96, .inr (.inl (fun _ => 0))))] H := hP
  have hD : va_D A [(ma 11, .inl (G.2 4, 96, .inr (.inl (fun _ => 0))))] := hD
  obtain rfl : r_3 = (-1) := hr_3
  refine lv_pop hx hb dX9_close_20 rfl ?_
  refine lv_iconst (v := 0) hx hb dX9_close_21 (by decide) ?_
  have hP9 := hP.sub (ws' := []) [] rfl
  have hD9 := hD.sub (ws' := []) [] (by decide) rfl
  exact W.zret (v := 0) (ty := .boolean) hx hb hr rfl (fun t ht hW => ⟨⟨0, (), rfl, rfl, by rw [ht]; exact hP9, hD9⟩, hS.F ht⟩) hS.2.2 dX9_close_22
theorem dX9_event_0 : decode cX9_event 0 = .ok (.aload_n 0, 1) := by decide +kernel
theorem dX9_event_1 : decode cX9_event 1 = .ok (.iconst 0, 1) := by decide +kernel
theorem dX9_event_2 : decode cX9_event 2 = .ok (.putfield 147, 3) := by decide +kernel
theorem dX9_event_5 : decode cX9_event 5 = .ok (.iload_n 3, 1) := by decide +kernel
theorem dX9_event_6 : decode cX9_event 6 = .ok (.ifCond .lt 9, 3) := by decide +kernel
theorem dX9_event_9 : decode cX9_event 9 = .ok (.iload_n 3, 1) := by decide +kernel
theorem dX9_event_10 : decode cX9_event 10 = .ok (.bipush 7, 2) := by decide +kernel
theorem dX9_event_12 : decode cX9_event 12 = .ok (.if_icmp .le 7, 3) := by decide +kernel
theorem dX9_event_15 : decode cX9_event 15 = .ok (.iconst 1, 1) := by decide +kernel
theorem dX9_event_16 : decode cX9_event 16 = .ok (.goto 9, 3) := by decide +kernel
theorem dX9_event_19 : decode cX9_event 19 = .ok (.aload_n 0, 1) := by decide +kernel
theorem dX9_event_20 : decode cX9_event 20 = .ok (.iload_n 1, 1) := by decide +kernel
theorem dX9_event_21 : decode cX9_event 21 = .ok (.iload_n 2, 1) := by decide +kernel
theorem dX9_event_22 : decode cX9_event 22 = .ok (.invokevirtual 195, 3) := by decide +kernel
theorem dX9_event_25 : decode cX9_event 25 = .ok (.istore 4, 2) := by decide +kernel
theorem dX9_event_27 : decode cX9_event 27 = .ok (.iload 4, 2) := by decide +kernel
theorem dX9_event_29 : decode cX9_event 29 = .ok (.ifCond .ne 15, 3) := by decide +kernel
theorem dX9_event_44 : decode cX9_event 44 = .ok (.iload 4, 2) := by decide +kernel
theorem dX9_event_46 : decode cX9_event 46 = .ok (.ifCond .ne 16, 3) := by decide +kernel
theorem dX9_event_62 : decode cX9_event 62 = .ok (.iload 4, 2) := by decide +kernel
theorem dX9_event_64 : decode cX9_event 64 = .ok (.ifCond .eq 12, 3) := by decide +kernel
theorem dX9_event_67 : decode cX9_event 67 = .ok (.aload_n 0, 1) := by decide +kernel
theorem dX9_event_68 : decode cX9_event 68 = .ok (.iload 4, 2) := by decide +kernel
theorem dX9_event_70 : decode cX9_event 70 = .ok (.invokevirtual 168, 3) := by decide +kernel
theorem dX9_event_73 : decode cX9_event 73 = .ok (.pop, 1) := by decide +kernel
theorem dX9_event_74 : decode cX9_event 74 = .ok (.iconst 0, 1) := by decide +kernel
theorem dX9_event_75 : decode cX9_event 75 = .ok (.ireturn, 1) := by decide +kernel
set_option maxHeartbeats 4000000 in
set_option maxRecDepth 100000 in
theorem c_X9_event (l : Launch) (G : xG) (m0 : Nat) (ma : Nat → Nat) (p0 : Int32) (p1 : Int32) (p2 : Int32)  : xWi l G yX9_event cX9_event 5 (some .boolean) 3 65 0 0 [.ref m0, .int p0, .int p1, .int p2] [(m0, .inr (9, [.int 0, .int 0, .int 0, .int (-1), .ref (ma 4), .ref (ma 5), .ref (ma 6), .ref (ma 7), .ref (ma 8), .ref (ma 9), .ref (ma 10), .ref (ma 11), .ref (ma 12), .ref (ma 13), .ref (ma 14), .ref (ma 15), .ref (ma 16), .ref (ma 17), .ref (ma 18), .ref (ma 19), .int 0, .ref (ma 21), .ref (ma 22), .ref (ma 23), .ref (ma 24), .ref (ma 25), .ref (ma 26), .ref (ma 27), .ref (ma 28), .ref (ma 29), .ref (ma 30), .ref (ma 31), .ref (ma 32), .ref (ma 33), .ref (ma 34), .ref (ma 35), .ref (ma 36), .ref (ma 37), .int 0, .ref (ma 39), .ref (ma 40), .ref (ma 41), .ref (ma 42), .ref (ma 43), .ref (ma 44), .ref (ma 45), .ref (ma 46), .ref (ma 47), .ref (ma 48), .int 0, .int 0, .int 0, .int 0, .int 0, .int 0, .int 0, .long 0, .int 0, .long 0, .long 0, .long 0, .long 0, .int 0, .int 0, .int 0, .int 0, .long 0])), (ma 39, .inl (G.2 0, 6, .inl (fun _ => 0))), (ma 11, .inl (G.2 4, 96, .inr (.inl (fun _ => 0))))] (S := Unit) (fun r _ => r = 0) (fun _ => []) := by
  intro sz
  refine xstart (by decide) (Nat.le_of_ble_eq_true rfl) (fun p e s m args below meth c ls C0 hr hlocks hin hsz hP hK hD hN hl => ?_)
  obtain ⟨hx, hb, hml, hown, htl⟩ := id C0
  subst hsz
  have hD := hD.self (sz := s.heap.size)
  generalize hAe : va_A [(m0, .inr (9, [.int 0, .int 0, .int 0, .int (-1), .ref (ma 4), .ref (ma 5), .ref (ma 6), .ref (ma 7), .ref (ma 8), .ref (ma 9), .ref (ma 10), .ref (ma 11), .ref (ma 12), .ref (ma 13), .ref (ma 14), .ref (ma 15), .ref (ma 16), .ref (ma 17), .ref (ma 18), .ref (ma 19), .int 0, .ref (ma 21), .ref (ma 22), .ref (ma 23), .ref (ma 24), .ref (ma 25), .ref (ma 26), .ref (ma 27), .ref (ma 28), .ref (ma 29), .ref (ma 30), .ref (ma 31), .ref (ma 32), .ref (ma 33), .ref (ma 34), .ref (ma 35), .ref (ma 36), .ref (ma 37), .int 0, .ref (ma 39), .ref (ma 40), .ref (ma 41), .ref (ma 42), .ref (ma 43), .ref (ma 44), .ref (ma 45), .ref (ma 46), .ref (ma 47), .ref (ma 48), .int 0, .int 0, .int 0, .int 0, .int 0, .int 0, .int 0, .long 0, .int 0, .long 0, .long 0, .long 0, .long 0, .int 0, .int 0, .int 0, .int 0, .long 0])), (ma 39, .inl (G.2 0, 6, .inl (fun _ => 0))), (ma 11, .inl (G.2 4, 96, .inr (.inl (fun _ => 0))))] s.heap.size = A at hD ⊢
  have hA : ∀ q : Nat, s.heap.size ≤ q → A q := fun q h => by rw [← hAe]; exact Or.inr h
  have hS : va_S A s.heap s.heap [] := va_S.rf
  have hl : lv_has ls 5 [(0, .ref m0), (1, .int p0), (2, .int p1), (3, .int p2)] := hl
  refine lv_aload_n hx hb dX9_event_0 rfl (lv_at hl 0 rfl) ?_
  refine lv_iconst (v := 0) hx hb dX9_event_1 (by decide) ?_
  refine va_put (D := G.1) (ci := 9) (v := .int 0) (ty := .int) (C := RX9) (T := TX9) (N := 67) hx hb htl inlX9 tyX9 tyX9_ok nmX9 hown hK hP hD hS 0 rfl rfl 38 (by decide) (htl (.fieldLink RX9 147 "LaytimeDeskModel" "reason" "I") mW175) (fun _ h9 => h9) rfl (by decide +kernel) rfl rfl (Nat.le_of_ble_eq_true rfl) dX9_event_2 (fun H locs hP hD hS => ?_)
  have hP : va_P G.1 xcl [(m0, .inr (9, [.int 0, .int 0, .int 0, .int (-1), .ref (ma 4), .ref (ma 5), .ref (ma 6), .ref (ma 7), .ref (ma 8), .ref (ma 9), .ref (ma 10), .ref (ma 11), .ref (ma 12), .ref (ma 13), .ref (ma 14), .ref (ma 15), .ref (ma 16), .ref (ma 17), .ref (ma 18), .ref (ma 19), .int 0, .ref (ma 21), .ref (ma 22), .ref (ma 23), .ref (ma 24), .ref (ma 25), .ref (ma 26), .ref (ma 27), .ref (ma 28), .ref (ma 29), .ref (ma 30), .ref (ma 31), .ref (ma 32), .ref (ma 33), .ref (ma 34), .ref (ma 35), .ref (ma 36), .ref (ma 37), .int 0, .ref (ma 39), .ref (ma 40), .ref (ma 41), .ref (ma 42), .ref (ma 43), .ref (ma 44), .ref (ma 45), .ref (ma 46), .ref (ma 47), .ref (ma 48), .int 0, .int 0, .int 0, .int 0, .int 0, .int 0, .int 0, .long 0, .int 0, .long 0, .long 0, .long 0, .long 0, .int 0, .int 0, .int 0, .int 0, .long 0])), (ma 39, .inl (G.2 0, 6, .inl (fun _ => 0))), (ma 11, .inl (G.2 4, 96, .inr (.inl (fun _ => 0))))] H := hP
  have hD : va_D A [(m0, .inr (9, [.int 0, .int 0, .int 0, .int (-1), .ref (ma 4), .ref (ma 5), .ref (ma 6), .ref (ma 7), .ref (ma 8), .ref (ma 9), .ref (ma 10), .ref (ma 11), .ref (ma 12), .ref (ma 13), .ref (ma 14), .ref (ma 15), .ref (ma 16), .ref (ma 17), .ref (ma 18), .ref (ma 19), .int 0, .ref (ma 21), .ref (ma 22), .ref (ma 23), .ref (ma 24), .ref (ma 25), .ref (ma 26), .ref (ma 27), .ref (ma 28), .ref (ma 29), .ref (ma 30), .ref (ma 31), .ref (ma 32), .ref (ma 33), .ref (ma 34), .ref (ma 35), .ref (ma 36), .ref (ma 37), .int 0, .ref (ma 39), .ref (ma 40), .ref (ma 41), .ref (ma 42), .ref (ma 43), .ref (ma 44), .ref (ma 45), .ref (ma 46), .ref (ma 47), .ref (ma 48), .int 0, .int 0, .int 0, .int 0, .int 0, .int 0, .int 0, .long 0, .int 0, .long 0, .long 0, .long 0, .long 0, .int 0, .int 0, .int 0, .int 0, .long 0])), (ma 39, .inl (G.2 0, 6, .inl (fun _ => 0))), (ma 11, .inl (G.2 4, 96, .inr (.inl (fun _ => 0))))] := hD
  refine lv_iload_n hx hb dX9_event_5 rfl (lv_at hl 3 rfl) ?_
  refine lv_if_lt (tgt := 15) hx hb dX9_event_6 (by decide) (fun c_1 => ?_) (fun c_1 => ?_)
  · refine lv_iconst (v := 1) hx hb dX9_event_15 (by decide) ?_
    refine lv_goto (tgt := 25) hx hb dX9_event_16 (by decide) ?_
    refine lv_istore (lv' := [(4, .int 1), (0, .ref m0), (1, .int p0), (2, .int p1), (3, .int p2)]) hx hb dX9_event_25 hl (by decide) rfl (fun ls hl => ?_)
    refine lv_iload hx hb dX9_event_27 (lv_at hl 0 rfl) ?_
    refine lv_if_ne (tgt := 44) hx hb dX9_event_29 (by decide) (fun c_2 => ?_) (fun c_2 => absurd c_2 (by decide +kernel))
    refine lv_iload hx hb dX9_event_44 (lv_at hl 0 rfl) ?_
    refine lv_if_ne (tgt := 62) hx hb dX9_event_46 (by decide) (fun c_3 => ?_) (fun c_3 => absurd c_3 (by decide +kernel))
    refine lv_iload hx hb dX9_event_62 (lv_at hl 0 rfl) ?_
    refine lv_if_eq (tgt := 76) hx hb dX9_event_64 (by decide) (fun c_4 => absurd c_4 (by decide +kernel)) (fun c_4 => ?_)
    refine lv_aload_n hx hb dX9_event_67 rfl (lv_at hl 1 rfl) ?_
    refine lv_iload hx hb dX9_event_68 (lv_at hl 0 rfl) ?_
    refine xVwi (rq := 0) (ci := 9) (wc := [(m0, .inr (9, [.int 0, .int 0, .int 0, .int (-1), .ref (ma 4), .ref (ma 5), .ref (ma 6), .ref (ma 7), .ref (ma 8), .ref (ma 9), .ref (ma 10), .ref (ma 11), .ref (ma 12), .ref (ma 13), .ref (ma 14), .ref (ma 15), .ref (ma 16), .ref (ma 17), .ref (ma 18), .ref (ma 19), .int 0, .ref (ma 21), .ref (ma 22), .ref (ma 23), .ref (ma 24), .ref (ma 25), .ref (ma 26), .ref (ma 27), .ref (ma 28), .ref (ma 29), .ref (ma 30), .ref (ma 31), .ref (ma 32), .ref (ma 33), .ref (ma 34), .ref (ma 35), .ref (ma 36), .ref (ma 37), .int 0, .ref (ma 39), .ref (ma 40), .ref (ma 41), .ref (ma 42), .ref (ma 43), .ref (ma 44), .ref (ma 45), .ref (ma 46), .ref (ma 47), .ref (ma 48), .int 0, .int 0, .int 0, .int 0, .int 0, .int 0, .int 0, .long 0, .int 0, .long 0, .long 0, .long 0, .long 0, .int 0, .int 0, .int 0, .int 0, .long 0])), (ma 39, .inl (G.2 0, 6, .inl (fun _ => 0)))]) (wr := [(ma 11, .inl (G.2 4, 96, .inr (.inl (fun _ => 0))))]) (As := [.int 1]) (rest := []) C0 (c_X9_no l G m0 ma 1 (by unfold vp_in; decide +kernel)) ok_X9_no (mW177 : Cond.methodLink RX9 168 yX9_no ∈ wsT) ⟨Nat.le_of_ble_eq_true rfl, Nat.le_of_ble_eq_true rfl⟩ hP hD hS hA hK hN [0, 1] [2] rfl rfl (by decide) (by decide) (by decide) rfl rfl rfl rfl hl.1 rfl (Nat.le_of_ble_eq_true rfl) ⟨Nat.le_of_ble_eq_true rfl, Nat.le_of_ble_eq_true rfl⟩ dX9_event_70 (fun r_5 u_6 H locs hr_5 hP hD hS => ?_)
    have hP : va_P G.1 xcl [(ma 11, .inl (G.2 4, 96, .inr (.inl (fun _ => 0))))] H := hP
    have hD : va_D A [(ma 11, .inl (G.2 4, 96, .inr (.inl (fun _ => 0))))] := hD
    obtain rfl : r_5 = (-1) := hr_5
    refine lv_pop hx hb dX9_event_73 rfl ?_
    refine lv_iconst (v := 0) hx hb dX9_event_74 (by decide) ?_
    have hP9 := hP.sub (ws' := []) [] rfl
    have hD9 := hD.sub (ws' := []) [] (by decide) rfl
    exact W.zret (v := 0) (ty := .boolean) hx hb hr rfl (fun t ht hW => ⟨⟨0, (), rfl, rfl, by rw [ht]; exact hP9, hD9⟩, hS.F ht⟩) hS.2.2 dX9_event_75
  · refine lv_iload_n hx hb dX9_event_9 rfl (lv_at hl 3 rfl) ?_
    refine lv_bipush (v := 7) hx hb dX9_event_10 (by decide) ?_
    refine lv_icmp_le (tgt := 19) hx hb dX9_event_12 (by decide) (fun c_7 => ?_) (fun c_7 => ?_)
    · refine lv_aload_n hx hb dX9_event_19 rfl (lv_at hl 0 rfl) ?_
      refine lv_iload_n hx hb dX9_event_20 rfl (lv_at hl 1 rfl) ?_
      refine lv_iload_n hx hb dX9_event_21 rfl (lv_at hl 2 rfl) ?_
      refine xVri (rq := 0) (ci := 9) (wc := [(m0, .inr (9, [.int 0, .int 0, .int 0, .int (-1), .ref (ma 4), .ref (ma 5), .ref (ma 6), .ref (ma 7), .ref (ma 8), .ref (ma 9), .ref (ma 10), .ref (ma 11), .ref (ma 12), .ref (ma 13), .ref (ma 14), .ref (ma 15), .ref (ma 16), .ref (ma 17), .ref (ma 18), .ref (ma 19), .int 0, .ref (ma 21), .ref (ma 22), .ref (ma 23), .ref (ma 24), .ref (ma 25), .ref (ma 26), .ref (ma 27), .ref (ma 28), .ref (ma 29), .ref (ma 30), .ref (ma 31), .ref (ma 32), .ref (ma 33), .ref (ma 34), .ref (ma 35), .ref (ma 36), .ref (ma 37), .int 0, .ref (ma 39), .ref (ma 40), .ref (ma 41), .ref (ma 42), .ref (ma 43), .ref (ma 44), .ref (ma 45), .ref (ma 46), .ref (ma 47), .ref (ma 48), .int 0, .int 0, .int 0, .int 0, .int 0, .int 0, .int 0, .long 0, .int 0, .long 0, .long 0, .long 0, .long 0, .int 0, .int 0, .int 0, .int 0, .long 0])), (ma 11, .inl (G.2 4, 96, .inr (.inl (fun _ => 0))))]) (As := [.int p0, .int p1]) (rest := []) C0 (c_X9_minuteWhy l G m0 ma p0 p1) ok_X9_minuteWhy (mW421 : Cond.methodLink RX9 195 yX9_minuteWhy ∈ wsT) ⟨Nat.le_of_ble_eq_true rfl, Nat.le_of_ble_eq_true rfl⟩ hP hD hK hN [0, 2] rfl (by decide) rfl rfl rfl rfl hl.1 rfl (Nat.le_of_ble_eq_true rfl) ⟨Nat.le_of_ble_eq_true rfl, Nat.le_of_ble_eq_true rfl⟩ dX9_event_22 (fun r_8 hr_8 => ?_)
      refine lv_istore (lv' := [(4, .int r_8), (0, .ref m0), (1, .int p0), (2, .int p1), (3, .int p2)]) hx hb dX9_event_25 hl (by decide) rfl (fun ls hl => ?_)
      refine lv_iload hx hb dX9_event_27 (lv_at hl 0 rfl) ?_
      refine lv_if_ne (tgt := 44) hx hb dX9_event_29 (by decide) (fun c_9 => ?_) (fun c_9 => absurd c_9 (xn0 hr_8))
      refine lv_iload hx hb dX9_event_44 (lv_at hl 0 rfl) ?_
      refine lv_if_ne (tgt := 62) hx hb dX9_event_46 (by decide) (fun c_10 => ?_) (fun c_10 => absurd c_10 (xn0 hr_8))
      refine lv_iload hx hb dX9_event_62 (lv_at hl 0 rfl) ?_
      refine lv_if_eq (tgt := 76) hx hb dX9_event_64 (by decide) (fun c_11 => absurd c_11 (xn0 hr_8)) (fun c_11 => ?_)
      refine lv_aload_n hx hb dX9_event_67 rfl (lv_at hl 1 rfl) ?_
      refine lv_iload hx hb dX9_event_68 (lv_at hl 0 rfl) ?_
      refine xVwi (rq := 0) (ci := 9) (wc := [(m0, .inr (9, [.int 0, .int 0, .int 0, .int (-1), .ref (ma 4), .ref (ma 5), .ref (ma 6), .ref (ma 7), .ref (ma 8), .ref (ma 9), .ref (ma 10), .ref (ma 11), .ref (ma 12), .ref (ma 13), .ref (ma 14), .ref (ma 15), .ref (ma 16), .ref (ma 17), .ref (ma 18), .ref (ma 19), .int 0, .ref (ma 21), .ref (ma 22), .ref (ma 23), .ref (ma 24), .ref (ma 25), .ref (ma 26), .ref (ma 27), .ref (ma 28), .ref (ma 29), .ref (ma 30), .ref (ma 31), .ref (ma 32), .ref (ma 33), .ref (ma 34), .ref (ma 35), .ref (ma 36), .ref (ma 37), .int 0, .ref (ma 39), .ref (ma 40), .ref (ma 41), .ref (ma 42), .ref (ma 43), .ref (ma 44), .ref (ma 45), .ref (ma 46), .ref (ma 47), .ref (ma 48), .int 0, .int 0, .int 0, .int 0, .int 0, .int 0, .int 0, .long 0, .int 0, .long 0, .long 0, .long 0, .long 0, .int 0, .int 0, .int 0, .int 0, .long 0])), (ma 39, .inl (G.2 0, 6, .inl (fun _ => 0)))]) (wr := [(ma 11, .inl (G.2 4, 96, .inr (.inl (fun _ => 0))))]) (As := [.int r_8]) (rest := []) C0 (c_X9_no l G m0 ma r_8 (xin6 hr_8)) ok_X9_no (mW177 : Cond.methodLink RX9 168 yX9_no ∈ wsT) ⟨Nat.le_of_ble_eq_true rfl, Nat.le_of_ble_eq_true rfl⟩ hP hD hS hA hK hN [0, 1] [2] rfl rfl (by decide) (by decide) (by decide) rfl rfl rfl rfl hl.1 rfl (Nat.le_of_ble_eq_true rfl) ⟨Nat.le_of_ble_eq_true rfl, Nat.le_of_ble_eq_true rfl⟩ dX9_event_70 (fun r_12 u_13 H locs hr_12 hP hD hS => ?_)
      have hP : va_P G.1 xcl [(ma 11, .inl (G.2 4, 96, .inr (.inl (fun _ => 0))))] H := hP
      have hD : va_D A [(ma 11, .inl (G.2 4, 96, .inr (.inl (fun _ => 0))))] := hD
      obtain rfl : r_12 = (-1) := hr_12
      refine lv_pop hx hb dX9_event_73 rfl ?_
      refine lv_iconst (v := 0) hx hb dX9_event_74 (by decide) ?_
      have hP9 := hP.sub (ws' := []) [] rfl
      have hD9 := hD.sub (ws' := []) [] (by decide) rfl
      exact W.zret (v := 0) (ty := .boolean) hx hb hr rfl (fun t ht hW => ⟨⟨0, (), rfl, rfl, by rw [ht]; exact hP9, hD9⟩, hS.F ht⟩) hS.2.2 dX9_event_75
    · refine lv_iconst (v := 1) hx hb dX9_event_15 (by decide) ?_
      refine lv_goto (tgt := 25) hx hb dX9_event_16 (by decide) ?_
      refine lv_istore (lv' := [(4, .int 1), (0, .ref m0), (1, .int p0), (2, .int p1), (3, .int p2)]) hx hb dX9_event_25 hl (by decide) rfl (fun ls hl => ?_)
      refine lv_iload hx hb dX9_event_27 (lv_at hl 0 rfl) ?_
      refine lv_if_ne (tgt := 44) hx hb dX9_event_29 (by decide) (fun c_14 => ?_) (fun c_14 => absurd c_14 (by decide +kernel))
      refine lv_iload hx hb dX9_event_44 (lv_at hl 0 rfl) ?_
      refine lv_if_ne (tgt := 62) hx hb dX9_event_46 (by decide) (fun c_15 => ?_) (fun c_15 => absurd c_15 (by decide +kernel))
      refine lv_iload hx hb dX9_event_62 (lv_at hl 0 rfl) ?_
      refine lv_if_eq (tgt := 76) hx hb dX9_event_64 (by decide) (fun c_16 => absurd c_16 (by decide +kernel)) (fun c_16 => ?_)
      refine lv_aload_n hx hb dX9_event_67 rfl (lv_at hl 1 rfl) ?_
      refine lv_iload hx hb dX9_event_68 (lv_at hl 0 rfl) ?_
      refine xVwi (rq := 0) (ci := 9) (wc := [(m0, .inr (9, [.int 0, .int 0, .int 0, .int (-1), .ref (ma 4), .ref (ma 5), .ref (ma 6), .ref (ma 7), .ref (ma 8), .ref (ma 9), .ref (ma 10), .ref (ma 11), .ref (ma 12), .ref (ma 13), .ref (ma 14), .ref (ma 15), .ref (ma 16), .ref (ma 17), .ref (ma 18), .ref (ma 19), .int 0, .ref (ma 21), .ref (ma 22), .ref (ma 23), .ref (ma 24), .ref (ma 25), .ref (ma 26), .ref (ma 27), .ref (ma 28), .ref (ma 29), .ref (ma 30), .ref (ma 31), .ref (ma 32), .ref (ma 33), .ref (ma 34), .ref (ma 35), .ref (ma 36), .ref (ma 37), .int 0, .ref (ma 39), .ref (ma 40), .ref (ma 41), .ref (ma 42), .ref (ma 43), .ref (ma 44), .ref (ma 45), .ref (ma 46), .ref (ma 47), .ref (ma 48), .int 0, .int 0, .int 0, .int 0, .int 0, .int 0, .int 0, .long 0, .int 0, .long 0, .long 0, .long 0, .long 0, .int 0, .int 0, .int 0, .int 0, .long 0])), (ma 39, .inl (G.2 0, 6, .inl (fun _ => 0)))]) (wr := [(ma 11, .inl (G.2 4, 96, .inr (.inl (fun _ => 0))))]) (As := [.int 1]) (rest := []) C0 (c_X9_no l G m0 ma 1 (by unfold vp_in; decide +kernel)) ok_X9_no (mW177 : Cond.methodLink RX9 168 yX9_no ∈ wsT) ⟨Nat.le_of_ble_eq_true rfl, Nat.le_of_ble_eq_true rfl⟩ hP hD hS hA hK hN [0, 1] [2] rfl rfl (by decide) (by decide) (by decide) rfl rfl rfl rfl hl.1 rfl (Nat.le_of_ble_eq_true rfl) ⟨Nat.le_of_ble_eq_true rfl, Nat.le_of_ble_eq_true rfl⟩ dX9_event_70 (fun r_17 u_18 H locs hr_17 hP hD hS => ?_)
      have hP : va_P G.1 xcl [(ma 11, .inl (G.2 4, 96, .inr (.inl (fun _ => 0))))] H := hP
      have hD : va_D A [(ma 11, .inl (G.2 4, 96, .inr (.inl (fun _ => 0))))] := hD
      obtain rfl : r_17 = (-1) := hr_17
      refine lv_pop hx hb dX9_event_73 rfl ?_
      refine lv_iconst (v := 0) hx hb dX9_event_74 (by decide) ?_
      have hP9 := hP.sub (ws' := []) [] rfl
      have hD9 := hD.sub (ws' := []) [] (by decide) rfl
      exact W.zret (v := 0) (ty := .boolean) hx hb hr rfl (fun t ht hW => ⟨⟨0, (), rfl, rfl, by rw [ht]; exact hP9, hD9⟩, hS.F ht⟩) hS.2.2 dX9_event_75
theorem dX9_day_0 : decode cX9_day 0 = .ok (.aload_n 0, 1) := by decide +kernel
theorem dX9_day_1 : decode cX9_day 1 = .ok (.iconst 0, 1) := by decide +kernel
theorem dX9_day_2 : decode cX9_day 2 = .ok (.putfield 147, 3) := by decide +kernel
theorem dX9_day_5 : decode cX9_day 5 = .ok (.aload_n 0, 1) := by decide +kernel
theorem dX9_day_6 : decode cX9_day 6 = .ok (.iload_n 1, 1) := by decide +kernel
theorem dX9_day_7 : decode cX9_day 7 = .ok (.iload_n 2, 1) := by decide +kernel
theorem dX9_day_8 : decode cX9_day 8 = .ok (.invokevirtual 206, 3) := by decide +kernel
theorem dX9_day_11 : decode cX9_day 11 = .ok (.istore 4, 2) := by decide +kernel
theorem dX9_day_13 : decode cX9_day 13 = .ok (.iload 4, 2) := by decide +kernel
theorem dX9_day_15 : decode cX9_day 15 = .ok (.ifCond .eq 12, 3) := by decide +kernel
theorem dX9_day_18 : decode cX9_day 18 = .ok (.aload_n 0, 1) := by decide +kernel
theorem dX9_day_19 : decode cX9_day 19 = .ok (.iload 4, 2) := by decide +kernel
theorem dX9_day_21 : decode cX9_day 21 = .ok (.invokevirtual 168, 3) := by decide +kernel
theorem dX9_day_24 : decode cX9_day 24 = .ok (.pop, 1) := by decide +kernel
theorem dX9_day_25 : decode cX9_day 25 = .ok (.iconst 0, 1) := by decide +kernel
theorem dX9_day_26 : decode cX9_day 26 = .ok (.ireturn, 1) := by decide +kernel
set_option maxHeartbeats 4000000 in
set_option maxRecDepth 100000 in
theorem c_X9_day (l : Launch) (G : xG) (m0 : Nat) (ma : Nat → Nat) (p0 : Int32) (p1 : Int32) (p2 : Int32)  : xWi l G yX9_day cX9_day 5 (some .boolean) 3 65 0 0 [.ref m0, .int p0, .int p1, .int p2] [(m0, .inr (9, [.int 0, .int 0, .int 0, .int (-1), .ref (ma 4), .ref (ma 5), .ref (ma 6), .ref (ma 7), .ref (ma 8), .ref (ma 9), .ref (ma 10), .ref (ma 11), .ref (ma 12), .ref (ma 13), .ref (ma 14), .ref (ma 15), .ref (ma 16), .ref (ma 17), .ref (ma 18), .ref (ma 19), .int 0, .ref (ma 21), .ref (ma 22), .ref (ma 23), .ref (ma 24), .ref (ma 25), .ref (ma 26), .ref (ma 27), .ref (ma 28), .ref (ma 29), .ref (ma 30), .ref (ma 31), .ref (ma 32), .ref (ma 33), .ref (ma 34), .ref (ma 35), .ref (ma 36), .ref (ma 37), .int 0, .ref (ma 39), .ref (ma 40), .ref (ma 41), .ref (ma 42), .ref (ma 43), .ref (ma 44), .ref (ma 45), .ref (ma 46), .ref (ma 47), .ref (ma 48), .int 0, .int 0, .int 0, .int 0, .int 0, .int 0, .int 0, .long 0, .int 0, .long 0, .long 0, .long 0, .long 0, .int 0, .int 0, .int 0, .int 0, .long 0])), (ma 39, .inl (G.2 0, 6, .inl (fun _ => 0))), (ma 11, .inl (G.2 4, 96, .inr (.inl (fun _ => 0))))] (S := Unit) (fun r _ => r = 0) (fun _ => []) := by
  intro sz
  refine xstart (by decide) (Nat.le_of_ble_eq_true rfl) (fun p e s m args below meth c ls C0 hr hlocks hin hsz hP hK hD hN hl => ?_)
  obtain ⟨hx, hb, hml, hown, htl⟩ := id C0
  subst hsz
  have hD := hD.self (sz := s.heap.size)
  generalize hAe : va_A [(m0, .inr (9, [.int 0, .int 0, .int 0, .int (-1), .ref (ma 4), .ref (ma 5), .ref (ma 6), .ref (ma 7), .ref (ma 8), .ref (ma 9), .ref (ma 10), .ref (ma 11), .ref (ma 12), .ref (ma 13), .ref (ma 14), .ref (ma 15), .ref (ma 16), .ref (ma 17), .ref (ma 18), .ref (ma 19), .int 0, .ref (ma 21), .ref (ma 22), .ref (ma 23), .ref (ma 24), .ref (ma 25), .ref (ma 26), .ref (ma 27), .ref (ma 28), .ref (ma 29), .ref (ma 30), .ref (ma 31), .ref (ma 32), .ref (ma 33), .ref (ma 34), .ref (ma 35), .ref (ma 36), .ref (ma 37), .int 0, .ref (ma 39), .ref (ma 40), .ref (ma 41), .ref (ma 42), .ref (ma 43), .ref (ma 44), .ref (ma 45), .ref (ma 46), .ref (ma 47), .ref (ma 48), .int 0, .int 0, .int 0, .int 0, .int 0, .int 0, .int 0, .long 0, .int 0, .long 0, .long 0, .long 0, .long 0, .int 0, .int 0, .int 0, .int 0, .long 0])), (ma 39, .inl (G.2 0, 6, .inl (fun _ => 0))), (ma 11, .inl (G.2 4, 96, .inr (.inl (fun _ => 0))))] s.heap.size = A at hD ⊢
  have hA : ∀ q : Nat, s.heap.size ≤ q → A q := fun q h => by rw [← hAe]; exact Or.inr h
  have hS : va_S A s.heap s.heap [] := va_S.rf
  have hl : lv_has ls 5 [(0, .ref m0), (1, .int p0), (2, .int p1), (3, .int p2)] := hl
  refine lv_aload_n hx hb dX9_day_0 rfl (lv_at hl 0 rfl) ?_
  refine lv_iconst (v := 0) hx hb dX9_day_1 (by decide) ?_
  refine va_put (D := G.1) (ci := 9) (v := .int 0) (ty := .int) (C := RX9) (T := TX9) (N := 67) hx hb htl inlX9 tyX9 tyX9_ok nmX9 hown hK hP hD hS 0 rfl rfl 38 (by decide) (htl (.fieldLink RX9 147 "LaytimeDeskModel" "reason" "I") mW175) (fun _ h9 => h9) rfl (by decide +kernel) rfl rfl (Nat.le_of_ble_eq_true rfl) dX9_day_2 (fun H locs hP hD hS => ?_)
  have hP : va_P G.1 xcl [(m0, .inr (9, [.int 0, .int 0, .int 0, .int (-1), .ref (ma 4), .ref (ma 5), .ref (ma 6), .ref (ma 7), .ref (ma 8), .ref (ma 9), .ref (ma 10), .ref (ma 11), .ref (ma 12), .ref (ma 13), .ref (ma 14), .ref (ma 15), .ref (ma 16), .ref (ma 17), .ref (ma 18), .ref (ma 19), .int 0, .ref (ma 21), .ref (ma 22), .ref (ma 23), .ref (ma 24), .ref (ma 25), .ref (ma 26), .ref (ma 27), .ref (ma 28), .ref (ma 29), .ref (ma 30), .ref (ma 31), .ref (ma 32), .ref (ma 33), .ref (ma 34), .ref (ma 35), .ref (ma 36), .ref (ma 37), .int 0, .ref (ma 39), .ref (ma 40), .ref (ma 41), .ref (ma 42), .ref (ma 43), .ref (ma 44), .ref (ma 45), .ref (ma 46), .ref (ma 47), .ref (ma 48), .int 0, .int 0, .int 0, .int 0, .int 0, .int 0, .int 0, .long 0, .int 0, .long 0, .long 0, .long 0, .long 0, .int 0, .int 0, .int 0, .int 0, .long 0])), (ma 39, .inl (G.2 0, 6, .inl (fun _ => 0))), (ma 11, .inl (G.2 4, 96, .inr (.inl (fun _ => 0))))] H := hP
  have hD : va_D A [(m0, .inr (9, [.int 0, .int 0, .int 0, .int (-1), .ref (ma 4), .ref (ma 5), .ref (ma 6), .ref (ma 7), .ref (ma 8), .ref (ma 9), .ref (ma 10), .ref (ma 11), .ref (ma 12), .ref (ma 13), .ref (ma 14), .ref (ma 15), .ref (ma 16), .ref (ma 17), .ref (ma 18), .ref (ma 19), .int 0, .ref (ma 21), .ref (ma 22), .ref (ma 23), .ref (ma 24), .ref (ma 25), .ref (ma 26), .ref (ma 27), .ref (ma 28), .ref (ma 29), .ref (ma 30), .ref (ma 31), .ref (ma 32), .ref (ma 33), .ref (ma 34), .ref (ma 35), .ref (ma 36), .ref (ma 37), .int 0, .ref (ma 39), .ref (ma 40), .ref (ma 41), .ref (ma 42), .ref (ma 43), .ref (ma 44), .ref (ma 45), .ref (ma 46), .ref (ma 47), .ref (ma 48), .int 0, .int 0, .int 0, .int 0, .int 0, .int 0, .int 0, .long 0, .int 0, .long 0, .long 0, .long 0, .long 0, .int 0, .int 0, .int 0, .int 0, .long 0])), (ma 39, .inl (G.2 0, 6, .inl (fun _ => 0))), (ma 11, .inl (G.2 4, 96, .inr (.inl (fun _ => 0))))] := hD
  refine lv_aload_n hx hb dX9_day_5 rfl (lv_at hl 0 rfl) ?_
  refine lv_iload_n hx hb dX9_day_6 rfl (lv_at hl 1 rfl) ?_
  refine lv_iload_n hx hb dX9_day_7 rfl (lv_at hl 2 rfl) ?_
  refine xVri (rq := 0) (ci := 9) (wc := [(m0, .inr (9, [.int 0, .int 0, .int 0, .int (-1), .ref (ma 4), .ref (ma 5), .ref (ma 6), .ref (ma 7), .ref (ma 8), .ref (ma 9), .ref (ma 10), .ref (ma 11), .ref (ma 12), .ref (ma 13), .ref (ma 14), .ref (ma 15), .ref (ma 16), .ref (ma 17), .ref (ma 18), .ref (ma 19), .int 0, .ref (ma 21), .ref (ma 22), .ref (ma 23), .ref (ma 24), .ref (ma 25), .ref (ma 26), .ref (ma 27), .ref (ma 28), .ref (ma 29), .ref (ma 30), .ref (ma 31), .ref (ma 32), .ref (ma 33), .ref (ma 34), .ref (ma 35), .ref (ma 36), .ref (ma 37), .int 0, .ref (ma 39), .ref (ma 40), .ref (ma 41), .ref (ma 42), .ref (ma 43), .ref (ma 44), .ref (ma 45), .ref (ma 46), .ref (ma 47), .ref (ma 48), .int 0, .int 0, .int 0, .int 0, .int 0, .int 0, .int 0, .long 0, .int 0, .long 0, .long 0, .long 0, .long 0, .int 0, .int 0, .int 0, .int 0, .long 0])), (ma 11, .inl (G.2 4, 96, .inr (.inl (fun _ => 0))))]) (As := [.int p0, .int p1]) (rest := []) C0 (c_X9_dayWhy l G m0 ma p0 p1) ok_X9_dayWhy (mW450 : Cond.methodLink RX9 206 yX9_dayWhy ∈ wsT) ⟨Nat.le_of_ble_eq_true rfl, Nat.le_of_ble_eq_true rfl⟩ hP hD hK hN [0, 2] rfl (by decide) rfl rfl rfl rfl hl.1 rfl (Nat.le_of_ble_eq_true rfl) ⟨Nat.le_of_ble_eq_true rfl, Nat.le_of_ble_eq_true rfl⟩ dX9_day_8 (fun r_1 hr_1 => ?_)
  refine lv_istore (lv' := [(4, .int r_1), (0, .ref m0), (1, .int p0), (2, .int p1), (3, .int p2)]) hx hb dX9_day_11 hl (by decide) rfl (fun ls hl => ?_)
  refine lv_iload hx hb dX9_day_13 (lv_at hl 0 rfl) ?_
  refine lv_if_eq (tgt := 27) hx hb dX9_day_15 (by decide) (fun c_2 => absurd c_2 (xn0 hr_1)) (fun c_2 => ?_)
  refine lv_aload_n hx hb dX9_day_18 rfl (lv_at hl 1 rfl) ?_
  refine lv_iload hx hb dX9_day_19 (lv_at hl 0 rfl) ?_
  refine xVwi (rq := 0) (ci := 9) (wc := [(m0, .inr (9, [.int 0, .int 0, .int 0, .int (-1), .ref (ma 4), .ref (ma 5), .ref (ma 6), .ref (ma 7), .ref (ma 8), .ref (ma 9), .ref (ma 10), .ref (ma 11), .ref (ma 12), .ref (ma 13), .ref (ma 14), .ref (ma 15), .ref (ma 16), .ref (ma 17), .ref (ma 18), .ref (ma 19), .int 0, .ref (ma 21), .ref (ma 22), .ref (ma 23), .ref (ma 24), .ref (ma 25), .ref (ma 26), .ref (ma 27), .ref (ma 28), .ref (ma 29), .ref (ma 30), .ref (ma 31), .ref (ma 32), .ref (ma 33), .ref (ma 34), .ref (ma 35), .ref (ma 36), .ref (ma 37), .int 0, .ref (ma 39), .ref (ma 40), .ref (ma 41), .ref (ma 42), .ref (ma 43), .ref (ma 44), .ref (ma 45), .ref (ma 46), .ref (ma 47), .ref (ma 48), .int 0, .int 0, .int 0, .int 0, .int 0, .int 0, .int 0, .long 0, .int 0, .long 0, .long 0, .long 0, .long 0, .int 0, .int 0, .int 0, .int 0, .long 0])), (ma 39, .inl (G.2 0, 6, .inl (fun _ => 0)))]) (wr := [(ma 11, .inl (G.2 4, 96, .inr (.inl (fun _ => 0))))]) (As := [.int r_1]) (rest := []) C0 (c_X9_no l G m0 ma r_1 (xin6 hr_1)) ok_X9_no (mW177 : Cond.methodLink RX9 168 yX9_no ∈ wsT) ⟨Nat.le_of_ble_eq_true rfl, Nat.le_of_ble_eq_true rfl⟩ hP hD hS hA hK hN [0, 1] [2] rfl rfl (by decide) (by decide) (by decide) rfl rfl rfl rfl hl.1 rfl (Nat.le_of_ble_eq_true rfl) ⟨Nat.le_of_ble_eq_true rfl, Nat.le_of_ble_eq_true rfl⟩ dX9_day_21 (fun r_3 u_4 H locs hr_3 hP hD hS => ?_)
  have hP : va_P G.1 xcl [(ma 11, .inl (G.2 4, 96, .inr (.inl (fun _ => 0))))] H := hP
  have hD : va_D A [(ma 11, .inl (G.2 4, 96, .inr (.inl (fun _ => 0))))] := hD
  obtain rfl : r_3 = (-1) := hr_3
  refine lv_pop hx hb dX9_day_24 rfl ?_
  refine lv_iconst (v := 0) hx hb dX9_day_25 (by decide) ?_
  have hP9 := hP.sub (ws' := []) [] rfl
  have hD9 := hD.sub (ws' := []) [] (by decide) rfl
  exact W.zret (v := 0) (ty := .boolean) hx hb hr rfl (fun t ht hW => ⟨⟨0, (), rfl, rfl, by rw [ht]; exact hP9, hD9⟩, hS.F ht⟩) hS.2.2 dX9_day_26
theorem dX9_tear_0 : decode cX9_tear 0 = .ok (.aload_n 0, 1) := by decide +kernel
theorem dX9_tear_1 : decode cX9_tear 1 = .ok (.iconst 0, 1) := by decide +kernel
theorem dX9_tear_2 : decode cX9_tear 2 = .ok (.putfield 147, 3) := by decide +kernel
theorem dX9_tear_5 : decode cX9_tear 5 = .ok (.iload_n 3, 1) := by decide +kernel
theorem dX9_tear_6 : decode cX9_tear 6 = .ok (.ifCond .lt 10, 3) := by decide +kernel
theorem dX9_tear_9 : decode cX9_tear 9 = .ok (.iload_n 3, 1) := by decide +kernel
theorem dX9_tear_10 : decode cX9_tear 10 = .ok (.sipush 1440, 3) := by decide +kernel
theorem dX9_tear_13 : decode cX9_tear 13 = .ok (.if_icmp .lt 7, 3) := by decide +kernel
theorem dX9_tear_16 : decode cX9_tear 16 = .ok (.iconst 1, 1) := by decide +kernel
theorem dX9_tear_17 : decode cX9_tear 17 = .ok (.goto 9, 3) := by decide +kernel
theorem dX9_tear_20 : decode cX9_tear 20 = .ok (.aload_n 0, 1) := by decide +kernel
theorem dX9_tear_21 : decode cX9_tear 21 = .ok (.iload_n 1, 1) := by decide +kernel
theorem dX9_tear_22 : decode cX9_tear 22 = .ok (.iload_n 2, 1) := by decide +kernel
theorem dX9_tear_23 : decode cX9_tear 23 = .ok (.invokevirtual 206, 3) := by decide +kernel
theorem dX9_tear_26 : decode cX9_tear 26 = .ok (.istore 4, 2) := by decide +kernel
theorem dX9_tear_28 : decode cX9_tear 28 = .ok (.iload 4, 2) := by decide +kernel
theorem dX9_tear_30 : decode cX9_tear 30 = .ok (.ifCond .ne 20, 3) := by decide +kernel
theorem dX9_tear_50 : decode cX9_tear 50 = .ok (.iload 4, 2) := by decide +kernel
theorem dX9_tear_52 : decode cX9_tear 52 = .ok (.ifCond .eq 10, 3) := by decide +kernel
theorem dX9_tear_55 : decode cX9_tear 55 = .ok (.aload_n 0, 1) := by decide +kernel
theorem dX9_tear_56 : decode cX9_tear 56 = .ok (.iload 4, 2) := by decide +kernel
theorem dX9_tear_58 : decode cX9_tear 58 = .ok (.invokevirtual 168, 3) := by decide +kernel
theorem dX9_tear_61 : decode cX9_tear 61 = .ok (.ireturn, 1) := by decide +kernel
set_option maxHeartbeats 4000000 in
set_option maxRecDepth 100000 in
theorem c_X9_tear (l : Launch) (G : xG) (m0 : Nat) (ma : Nat → Nat) (p0 : Int32) (p1 : Int32) (p2 : Int32)  : xWi l G yX9_tear cX9_tear 5 (some .int) 3 65 0 0 [.ref m0, .int p0, .int p1, .int p2] [(m0, .inr (9, [.int 0, .int 0, .int 0, .int (-1), .ref (ma 4), .ref (ma 5), .ref (ma 6), .ref (ma 7), .ref (ma 8), .ref (ma 9), .ref (ma 10), .ref (ma 11), .ref (ma 12), .ref (ma 13), .ref (ma 14), .ref (ma 15), .ref (ma 16), .ref (ma 17), .ref (ma 18), .ref (ma 19), .int 0, .ref (ma 21), .ref (ma 22), .ref (ma 23), .ref (ma 24), .ref (ma 25), .ref (ma 26), .ref (ma 27), .ref (ma 28), .ref (ma 29), .ref (ma 30), .ref (ma 31), .ref (ma 32), .ref (ma 33), .ref (ma 34), .ref (ma 35), .ref (ma 36), .ref (ma 37), .int 0, .ref (ma 39), .ref (ma 40), .ref (ma 41), .ref (ma 42), .ref (ma 43), .ref (ma 44), .ref (ma 45), .ref (ma 46), .ref (ma 47), .ref (ma 48), .int 0, .int 0, .int 0, .int 0, .int 0, .int 0, .int 0, .long 0, .int 0, .long 0, .long 0, .long 0, .long 0, .int 0, .int 0, .int 0, .int 0, .long 0])), (ma 39, .inl (G.2 0, 6, .inl (fun _ => 0))), (ma 11, .inl (G.2 4, 96, .inr (.inl (fun _ => 0))))] (S := Unit) (fun r _ => r = (-1)) (fun _ => []) := by
  intro sz
  refine xstart (by decide) (Nat.le_of_ble_eq_true rfl) (fun p e s m args below meth c ls C0 hr hlocks hin hsz hP hK hD hN hl => ?_)
  obtain ⟨hx, hb, hml, hown, htl⟩ := id C0
  subst hsz
  have hD := hD.self (sz := s.heap.size)
  generalize hAe : va_A [(m0, .inr (9, [.int 0, .int 0, .int 0, .int (-1), .ref (ma 4), .ref (ma 5), .ref (ma 6), .ref (ma 7), .ref (ma 8), .ref (ma 9), .ref (ma 10), .ref (ma 11), .ref (ma 12), .ref (ma 13), .ref (ma 14), .ref (ma 15), .ref (ma 16), .ref (ma 17), .ref (ma 18), .ref (ma 19), .int 0, .ref (ma 21), .ref (ma 22), .ref (ma 23), .ref (ma 24), .ref (ma 25), .ref (ma 26), .ref (ma 27), .ref (ma 28), .ref (ma 29), .ref (ma 30), .ref (ma 31), .ref (ma 32), .ref (ma 33), .ref (ma 34), .ref (ma 35), .ref (ma 36), .ref (ma 37), .int 0, .ref (ma 39), .ref (ma 40), .ref (ma 41), .ref (ma 42), .ref (ma 43), .ref (ma 44), .ref (ma 45), .ref (ma 46), .ref (ma 47), .ref (ma 48), .int 0, .int 0, .int 0, .int 0, .int 0, .int 0, .int 0, .long 0, .int 0, .long 0, .long 0, .long 0, .long 0, .int 0, .int 0, .int 0, .int 0, .long 0])), (ma 39, .inl (G.2 0, 6, .inl (fun _ => 0))), (ma 11, .inl (G.2 4, 96, .inr (.inl (fun _ => 0))))] s.heap.size = A at hD ⊢
  have hA : ∀ q : Nat, s.heap.size ≤ q → A q := fun q h => by rw [← hAe]; exact Or.inr h
  have hS : va_S A s.heap s.heap [] := va_S.rf
  have hl : lv_has ls 5 [(0, .ref m0), (1, .int p0), (2, .int p1), (3, .int p2)] := hl
  refine lv_aload_n hx hb dX9_tear_0 rfl (lv_at hl 0 rfl) ?_
  refine lv_iconst (v := 0) hx hb dX9_tear_1 (by decide) ?_
  refine va_put (D := G.1) (ci := 9) (v := .int 0) (ty := .int) (C := RX9) (T := TX9) (N := 67) hx hb htl inlX9 tyX9 tyX9_ok nmX9 hown hK hP hD hS 0 rfl rfl 38 (by decide) (htl (.fieldLink RX9 147 "LaytimeDeskModel" "reason" "I") mW175) (fun _ h9 => h9) rfl (by decide +kernel) rfl rfl (Nat.le_of_ble_eq_true rfl) dX9_tear_2 (fun H locs hP hD hS => ?_)
  have hP : va_P G.1 xcl [(m0, .inr (9, [.int 0, .int 0, .int 0, .int (-1), .ref (ma 4), .ref (ma 5), .ref (ma 6), .ref (ma 7), .ref (ma 8), .ref (ma 9), .ref (ma 10), .ref (ma 11), .ref (ma 12), .ref (ma 13), .ref (ma 14), .ref (ma 15), .ref (ma 16), .ref (ma 17), .ref (ma 18), .ref (ma 19), .int 0, .ref (ma 21), .ref (ma 22), .ref (ma 23), .ref (ma 24), .ref (ma 25), .ref (ma 26), .ref (ma 27), .ref (ma 28), .ref (ma 29), .ref (ma 30), .ref (ma 31), .ref (ma 32), .ref (ma 33), .ref (ma 34), .ref (ma 35), .ref (ma 36), .ref (ma 37), .int 0, .ref (ma 39), .ref (ma 40), .ref (ma 41), .ref (ma 42), .ref (ma 43), .ref (ma 44), .ref (ma 45), .ref (ma 46), .ref (ma 47), .ref (ma 48), .int 0, .int 0, .int 0, .int 0, .int 0, .int 0, .int 0, .long 0, .int 0, .long 0, .long 0, .long 0, .long 0, .int 0, .int 0, .int 0, .int 0, .long 0])), (ma 39, .inl (G.2 0, 6, .inl (fun _ => 0))), (ma 11, .inl (G.2 4, 96, .inr (.inl (fun _ => 0))))] H := hP
  have hD : va_D A [(m0, .inr (9, [.int 0, .int 0, .int 0, .int (-1), .ref (ma 4), .ref (ma 5), .ref (ma 6), .ref (ma 7), .ref (ma 8), .ref (ma 9), .ref (ma 10), .ref (ma 11), .ref (ma 12), .ref (ma 13), .ref (ma 14), .ref (ma 15), .ref (ma 16), .ref (ma 17), .ref (ma 18), .ref (ma 19), .int 0, .ref (ma 21), .ref (ma 22), .ref (ma 23), .ref (ma 24), .ref (ma 25), .ref (ma 26), .ref (ma 27), .ref (ma 28), .ref (ma 29), .ref (ma 30), .ref (ma 31), .ref (ma 32), .ref (ma 33), .ref (ma 34), .ref (ma 35), .ref (ma 36), .ref (ma 37), .int 0, .ref (ma 39), .ref (ma 40), .ref (ma 41), .ref (ma 42), .ref (ma 43), .ref (ma 44), .ref (ma 45), .ref (ma 46), .ref (ma 47), .ref (ma 48), .int 0, .int 0, .int 0, .int 0, .int 0, .int 0, .int 0, .long 0, .int 0, .long 0, .long 0, .long 0, .long 0, .int 0, .int 0, .int 0, .int 0, .long 0])), (ma 39, .inl (G.2 0, 6, .inl (fun _ => 0))), (ma 11, .inl (G.2 4, 96, .inr (.inl (fun _ => 0))))] := hD
  refine lv_iload_n hx hb dX9_tear_5 rfl (lv_at hl 3 rfl) ?_
  refine lv_if_lt (tgt := 16) hx hb dX9_tear_6 (by decide) (fun c_1 => ?_) (fun c_1 => ?_)
  · refine lv_iconst (v := 1) hx hb dX9_tear_16 (by decide) ?_
    refine lv_goto (tgt := 26) hx hb dX9_tear_17 (by decide) ?_
    refine lv_istore (lv' := [(4, .int 1), (0, .ref m0), (1, .int p0), (2, .int p1), (3, .int p2)]) hx hb dX9_tear_26 hl (by decide) rfl (fun ls hl => ?_)
    refine lv_iload hx hb dX9_tear_28 (lv_at hl 0 rfl) ?_
    refine lv_if_ne (tgt := 50) hx hb dX9_tear_30 (by decide) (fun c_2 => ?_) (fun c_2 => absurd c_2 (by decide +kernel))
    refine lv_iload hx hb dX9_tear_50 (lv_at hl 0 rfl) ?_
    refine lv_if_eq (tgt := 62) hx hb dX9_tear_52 (by decide) (fun c_3 => absurd c_3 (by decide +kernel)) (fun c_3 => ?_)
    refine lv_aload_n hx hb dX9_tear_55 rfl (lv_at hl 1 rfl) ?_
    refine lv_iload hx hb dX9_tear_56 (lv_at hl 0 rfl) ?_
    refine xVwi (rq := 0) (ci := 9) (wc := [(m0, .inr (9, [.int 0, .int 0, .int 0, .int (-1), .ref (ma 4), .ref (ma 5), .ref (ma 6), .ref (ma 7), .ref (ma 8), .ref (ma 9), .ref (ma 10), .ref (ma 11), .ref (ma 12), .ref (ma 13), .ref (ma 14), .ref (ma 15), .ref (ma 16), .ref (ma 17), .ref (ma 18), .ref (ma 19), .int 0, .ref (ma 21), .ref (ma 22), .ref (ma 23), .ref (ma 24), .ref (ma 25), .ref (ma 26), .ref (ma 27), .ref (ma 28), .ref (ma 29), .ref (ma 30), .ref (ma 31), .ref (ma 32), .ref (ma 33), .ref (ma 34), .ref (ma 35), .ref (ma 36), .ref (ma 37), .int 0, .ref (ma 39), .ref (ma 40), .ref (ma 41), .ref (ma 42), .ref (ma 43), .ref (ma 44), .ref (ma 45), .ref (ma 46), .ref (ma 47), .ref (ma 48), .int 0, .int 0, .int 0, .int 0, .int 0, .int 0, .int 0, .long 0, .int 0, .long 0, .long 0, .long 0, .long 0, .int 0, .int 0, .int 0, .int 0, .long 0])), (ma 39, .inl (G.2 0, 6, .inl (fun _ => 0)))]) (wr := [(ma 11, .inl (G.2 4, 96, .inr (.inl (fun _ => 0))))]) (As := [.int 1]) (rest := []) C0 (c_X9_no l G m0 ma 1 (by unfold vp_in; decide +kernel)) ok_X9_no (mW177 : Cond.methodLink RX9 168 yX9_no ∈ wsT) ⟨Nat.le_of_ble_eq_true rfl, Nat.le_of_ble_eq_true rfl⟩ hP hD hS hA hK hN [0, 1] [2] rfl rfl (by decide) (by decide) (by decide) rfl rfl rfl rfl hl.1 rfl (Nat.le_of_ble_eq_true rfl) ⟨Nat.le_of_ble_eq_true rfl, Nat.le_of_ble_eq_true rfl⟩ dX9_tear_58 (fun r_4 u_5 H locs hr_4 hP hD hS => ?_)
    have hP : va_P G.1 xcl [(ma 11, .inl (G.2 4, 96, .inr (.inl (fun _ => 0))))] H := hP
    have hD : va_D A [(ma 11, .inl (G.2 4, 96, .inr (.inl (fun _ => 0))))] := hD
    obtain rfl : r_4 = (-1) := hr_4
    have hP9 := hP.sub (ws' := []) [] rfl
    have hD9 := hD.sub (ws' := []) [] (by decide) rfl
    exact W.iret (v := (-1)) hx hb hr (fun t ht hW => ⟨⟨(-1), (), rfl, rfl, by rw [ht]; exact hP9, hD9⟩, hS.F ht⟩) hS.2.2 dX9_tear_61
  · refine lv_iload_n hx hb dX9_tear_9 rfl (lv_at hl 3 rfl) ?_
    refine lv_sipush (v := 1440) hx hb dX9_tear_10 (by decide) ?_
    refine lv_icmp_lt (tgt := 20) hx hb dX9_tear_13 (by decide) (fun c_6 => ?_) (fun c_6 => ?_)
    · refine lv_aload_n hx hb dX9_tear_20 rfl (lv_at hl 0 rfl) ?_
      refine lv_iload_n hx hb dX9_tear_21 rfl (lv_at hl 1 rfl) ?_
      refine lv_iload_n hx hb dX9_tear_22 rfl (lv_at hl 2 rfl) ?_
      refine xVri (rq := 0) (ci := 9) (wc := [(m0, .inr (9, [.int 0, .int 0, .int 0, .int (-1), .ref (ma 4), .ref (ma 5), .ref (ma 6), .ref (ma 7), .ref (ma 8), .ref (ma 9), .ref (ma 10), .ref (ma 11), .ref (ma 12), .ref (ma 13), .ref (ma 14), .ref (ma 15), .ref (ma 16), .ref (ma 17), .ref (ma 18), .ref (ma 19), .int 0, .ref (ma 21), .ref (ma 22), .ref (ma 23), .ref (ma 24), .ref (ma 25), .ref (ma 26), .ref (ma 27), .ref (ma 28), .ref (ma 29), .ref (ma 30), .ref (ma 31), .ref (ma 32), .ref (ma 33), .ref (ma 34), .ref (ma 35), .ref (ma 36), .ref (ma 37), .int 0, .ref (ma 39), .ref (ma 40), .ref (ma 41), .ref (ma 42), .ref (ma 43), .ref (ma 44), .ref (ma 45), .ref (ma 46), .ref (ma 47), .ref (ma 48), .int 0, .int 0, .int 0, .int 0, .int 0, .int 0, .int 0, .long 0, .int 0, .long 0, .long 0, .long 0, .long 0, .int 0, .int 0, .int 0, .int 0, .long 0])), (ma 11, .inl (G.2 4, 96, .inr (.inl (fun _ => 0))))]) (As := [.int p0, .int p1]) (rest := []) C0 (c_X9_dayWhy l G m0 ma p0 p1) ok_X9_dayWhy (mW450 : Cond.methodLink RX9 206 yX9_dayWhy ∈ wsT) ⟨Nat.le_of_ble_eq_true rfl, Nat.le_of_ble_eq_true rfl⟩ hP hD hK hN [0, 2] rfl (by decide) rfl rfl rfl rfl hl.1 rfl (Nat.le_of_ble_eq_true rfl) ⟨Nat.le_of_ble_eq_true rfl, Nat.le_of_ble_eq_true rfl⟩ dX9_tear_23 (fun r_7 hr_7 => ?_)
      refine lv_istore (lv' := [(4, .int r_7), (0, .ref m0), (1, .int p0), (2, .int p1), (3, .int p2)]) hx hb dX9_tear_26 hl (by decide) rfl (fun ls hl => ?_)
      refine lv_iload hx hb dX9_tear_28 (lv_at hl 0 rfl) ?_
      refine lv_if_ne (tgt := 50) hx hb dX9_tear_30 (by decide) (fun c_8 => ?_) (fun c_8 => absurd c_8 (xn0 hr_7))
      refine lv_iload hx hb dX9_tear_50 (lv_at hl 0 rfl) ?_
      refine lv_if_eq (tgt := 62) hx hb dX9_tear_52 (by decide) (fun c_9 => absurd c_9 (xn0 hr_7)) (fun c_9 => ?_)
      refine lv_aload_n hx hb dX9_tear_55 rfl (lv_at hl 1 rfl) ?_
      refine lv_iload hx hb dX9_tear_56 (lv_at hl 0 rfl) ?_
      refine xVwi (rq := 0) (ci := 9) (wc := [(m0, .inr (9, [.int 0, .int 0, .int 0, .int (-1), .ref (ma 4), .ref (ma 5), .ref (ma 6), .ref (ma 7), .ref (ma 8), .ref (ma 9), .ref (ma 10), .ref (ma 11), .ref (ma 12), .ref (ma 13), .ref (ma 14), .ref (ma 15), .ref (ma 16), .ref (ma 17), .ref (ma 18), .ref (ma 19), .int 0, .ref (ma 21), .ref (ma 22), .ref (ma 23), .ref (ma 24), .ref (ma 25), .ref (ma 26), .ref (ma 27), .ref (ma 28), .ref (ma 29), .ref (ma 30), .ref (ma 31), .ref (ma 32), .ref (ma 33), .ref (ma 34), .ref (ma 35), .ref (ma 36), .ref (ma 37), .int 0, .ref (ma 39), .ref (ma 40), .ref (ma 41), .ref (ma 42), .ref (ma 43), .ref (ma 44), .ref (ma 45), .ref (ma 46), .ref (ma 47), .ref (ma 48), .int 0, .int 0, .int 0, .int 0, .int 0, .int 0, .int 0, .long 0, .int 0, .long 0, .long 0, .long 0, .long 0, .int 0, .int 0, .int 0, .int 0, .long 0])), (ma 39, .inl (G.2 0, 6, .inl (fun _ => 0)))]) (wr := [(ma 11, .inl (G.2 4, 96, .inr (.inl (fun _ => 0))))]) (As := [.int r_7]) (rest := []) C0 (c_X9_no l G m0 ma r_7 (xin6 hr_7)) ok_X9_no (mW177 : Cond.methodLink RX9 168 yX9_no ∈ wsT) ⟨Nat.le_of_ble_eq_true rfl, Nat.le_of_ble_eq_true rfl⟩ hP hD hS hA hK hN [0, 1] [2] rfl rfl (by decide) (by decide) (by decide) rfl rfl rfl rfl hl.1 rfl (Nat.le_of_ble_eq_true rfl) ⟨Nat.le_of_ble_eq_true rfl, Nat.le_of_ble_eq_true rfl⟩ dX9_tear_58 (fun r_10 u_11 H locs hr_10 hP hD hS => ?_)
      have hP : va_P G.1 xcl [(ma 11, .inl (G.2 4, 96, .inr (.inl (fun _ => 0))))] H := hP
      have hD : va_D A [(ma 11, .inl (G.2 4, 96, .inr (.inl (fun _ => 0))))] := hD
      obtain rfl : r_10 = (-1) := hr_10
      have hP9 := hP.sub (ws' := []) [] rfl
      have hD9 := hD.sub (ws' := []) [] (by decide) rfl
      exact W.iret (v := (-1)) hx hb hr (fun t ht hW => ⟨⟨(-1), (), rfl, rfl, by rw [ht]; exact hP9, hD9⟩, hS.F ht⟩) hS.2.2 dX9_tear_61
    · refine lv_iconst (v := 1) hx hb dX9_tear_16 (by decide) ?_
      refine lv_goto (tgt := 26) hx hb dX9_tear_17 (by decide) ?_
      refine lv_istore (lv' := [(4, .int 1), (0, .ref m0), (1, .int p0), (2, .int p1), (3, .int p2)]) hx hb dX9_tear_26 hl (by decide) rfl (fun ls hl => ?_)
      refine lv_iload hx hb dX9_tear_28 (lv_at hl 0 rfl) ?_
      refine lv_if_ne (tgt := 50) hx hb dX9_tear_30 (by decide) (fun c_12 => ?_) (fun c_12 => absurd c_12 (by decide +kernel))
      refine lv_iload hx hb dX9_tear_50 (lv_at hl 0 rfl) ?_
      refine lv_if_eq (tgt := 62) hx hb dX9_tear_52 (by decide) (fun c_13 => absurd c_13 (by decide +kernel)) (fun c_13 => ?_)
      refine lv_aload_n hx hb dX9_tear_55 rfl (lv_at hl 1 rfl) ?_
      refine lv_iload hx hb dX9_tear_56 (lv_at hl 0 rfl) ?_
      refine xVwi (rq := 0) (ci := 9) (wc := [(m0, .inr (9, [.int 0, .int 0, .int 0, .int (-1), .ref (ma 4), .ref (ma 5), .ref (ma 6), .ref (ma 7), .ref (ma 8), .ref (ma 9), .ref (ma 10), .ref (ma 11), .ref (ma 12), .ref (ma 13), .ref (ma 14), .ref (ma 15), .ref (ma 16), .ref (ma 17), .ref (ma 18), .ref (ma 19), .int 0, .ref (ma 21), .ref (ma 22), .ref (ma 23), .ref (ma 24), .ref (ma 25), .ref (ma 26), .ref (ma 27), .ref (ma 28), .ref (ma 29), .ref (ma 30), .ref (ma 31), .ref (ma 32), .ref (ma 33), .ref (ma 34), .ref (ma 35), .ref (ma 36), .ref (ma 37), .int 0, .ref (ma 39), .ref (ma 40), .ref (ma 41), .ref (ma 42), .ref (ma 43), .ref (ma 44), .ref (ma 45), .ref (ma 46), .ref (ma 47), .ref (ma 48), .int 0, .int 0, .int 0, .int 0, .int 0, .int 0, .int 0, .long 0, .int 0, .long 0, .long 0, .long 0, .long 0, .int 0, .int 0, .int 0, .int 0, .long 0])), (ma 39, .inl (G.2 0, 6, .inl (fun _ => 0)))]) (wr := [(ma 11, .inl (G.2 4, 96, .inr (.inl (fun _ => 0))))]) (As := [.int 1]) (rest := []) C0 (c_X9_no l G m0 ma 1 (by unfold vp_in; decide +kernel)) ok_X9_no (mW177 : Cond.methodLink RX9 168 yX9_no ∈ wsT) ⟨Nat.le_of_ble_eq_true rfl, Nat.le_of_ble_eq_true rfl⟩ hP hD hS hA hK hN [0, 1] [2] rfl rfl (by decide) (by decide) (by decide) rfl rfl rfl rfl hl.1 rfl (Nat.le_of_ble_eq_true rfl) ⟨Nat.le_of_ble_eq_true rfl, Nat.le_of_ble_eq_true rfl⟩ dX9_tear_58 (fun r_14 u_15 H locs hr_14 hP hD hS => ?_)
      have hP : va_P G.1 xcl [(ma 11, .inl (G.2 4, 96, .inr (.inl (fun _ => 0))))] H := hP
      have hD : va_D A [(ma 11, .inl (G.2 4, 96, .inr (.inl (fun _ => 0))))] := hD
      obtain rfl : r_14 = (-1) := hr_14
      have hP9 := hP.sub (ws' := []) [] rfl
      have hD9 := hD.sub (ws' := []) [] (by decide) rfl
      exact W.iret (v := (-1)) hx hb hr (fun t ht hW => ⟨⟨(-1), (), rfl, rfl, by rw [ht]; exact hP9, hD9⟩, hS.F ht⟩) hS.2.2 dX9_tear_61
theorem dX9_copy_0 : decode cX9_copy 0 = .ok (.aload_n 0, 1) := by decide +kernel
theorem dX9_copy_1 : decode cX9_copy 1 = .ok (.iconst 0, 1) := by decide +kernel
theorem dX9_copy_2 : decode cX9_copy 2 = .ok (.putfield 147, 3) := by decide +kernel
theorem dX9_copy_5 : decode cX9_copy 5 = .ok (.iload 5, 2) := by decide +kernel
theorem dX9_copy_7 : decode cX9_copy 7 = .ok (.ifCond .lt 10, 3) := by decide +kernel
theorem dX9_copy_10 : decode cX9_copy 10 = .ok (.iload 5, 2) := by decide +kernel
theorem dX9_copy_12 : decode cX9_copy 12 = .ok (.bipush 90, 2) := by decide +kernel
theorem dX9_copy_14 : decode cX9_copy 14 = .ok (.if_icmp .le 7, 3) := by decide +kernel
theorem dX9_copy_17 : decode cX9_copy 17 = .ok (.iconst 1, 1) := by decide +kernel
theorem dX9_copy_18 : decode cX9_copy 18 = .ok (.goto 4, 3) := by decide +kernel
theorem dX9_copy_21 : decode cX9_copy 21 = .ok (.iconst 0, 1) := by decide +kernel
theorem dX9_copy_22 : decode cX9_copy 22 = .ok (.istore 6, 2) := by decide +kernel
theorem dX9_copy_24 : decode cX9_copy 24 = .ok (.aload_n 0, 1) := by decide +kernel
theorem dX9_copy_25 : decode cX9_copy 25 = .ok (.iload 6, 2) := by decide +kernel
theorem dX9_copy_27 : decode cX9_copy 27 = .ok (.aload_n 0, 1) := by decide +kernel
theorem dX9_copy_28 : decode cX9_copy 28 = .ok (.iload_n 1, 1) := by decide +kernel
theorem dX9_copy_29 : decode cX9_copy 29 = .ok (.iload_n 2, 1) := by decide +kernel
theorem dX9_copy_30 : decode cX9_copy 30 = .ok (.invokevirtual 206, 3) := by decide +kernel
theorem dX9_copy_33 : decode cX9_copy 33 = .ok (.invokevirtual 209, 3) := by decide +kernel
theorem dX9_copy_36 : decode cX9_copy 36 = .ok (.istore 6, 2) := by decide +kernel
theorem dX9_copy_38 : decode cX9_copy 38 = .ok (.aload_n 0, 1) := by decide +kernel
theorem dX9_copy_39 : decode cX9_copy 39 = .ok (.iload 6, 2) := by decide +kernel
theorem dX9_copy_41 : decode cX9_copy 41 = .ok (.aload_n 0, 1) := by decide +kernel
theorem dX9_copy_42 : decode cX9_copy 42 = .ok (.iload_n 3, 1) := by decide +kernel
theorem dX9_copy_43 : decode cX9_copy 43 = .ok (.iload 4, 2) := by decide +kernel
theorem dX9_copy_45 : decode cX9_copy 45 = .ok (.invokevirtual 206, 3) := by decide +kernel
theorem dX9_copy_48 : decode cX9_copy 48 = .ok (.invokevirtual 209, 3) := by decide +kernel
theorem dX9_copy_51 : decode cX9_copy 51 = .ok (.istore 6, 2) := by decide +kernel
theorem dX9_copy_53 : decode cX9_copy 53 = .ok (.iload 6, 2) := by decide +kernel
theorem dX9_copy_55 : decode cX9_copy 55 = .ok (.ifCond .eq 10, 3) := by decide +kernel
theorem dX9_copy_58 : decode cX9_copy 58 = .ok (.aload_n 0, 1) := by decide +kernel
theorem dX9_copy_59 : decode cX9_copy 59 = .ok (.iload 6, 2) := by decide +kernel
theorem dX9_copy_61 : decode cX9_copy 61 = .ok (.invokevirtual 168, 3) := by decide +kernel
theorem dX9_copy_64 : decode cX9_copy 64 = .ok (.ireturn, 1) := by decide +kernel
set_option maxHeartbeats 4000000 in
set_option maxRecDepth 100000 in
theorem c_X9_copy (l : Launch) (G : xG) (m0 : Nat) (ma : Nat → Nat) (p0 : Int32) (p1 : Int32) (p2 : Int32) (p3 : Int32) (p4 : Int32)  : xWi l G yX9_copy cX9_copy 16 (some .int) 3 65 0 0 [.ref m0, .int p0, .int p1, .int p2, .int p3, .int p4] [(m0, .inr (9, [.int 0, .int 0, .int 0, .int (-1), .ref (ma 4), .ref (ma 5), .ref (ma 6), .ref (ma 7), .ref (ma 8), .ref (ma 9), .ref (ma 10), .ref (ma 11), .ref (ma 12), .ref (ma 13), .ref (ma 14), .ref (ma 15), .ref (ma 16), .ref (ma 17), .ref (ma 18), .ref (ma 19), .int 0, .ref (ma 21), .ref (ma 22), .ref (ma 23), .ref (ma 24), .ref (ma 25), .ref (ma 26), .ref (ma 27), .ref (ma 28), .ref (ma 29), .ref (ma 30), .ref (ma 31), .ref (ma 32), .ref (ma 33), .ref (ma 34), .ref (ma 35), .ref (ma 36), .ref (ma 37), .int 0, .ref (ma 39), .ref (ma 40), .ref (ma 41), .ref (ma 42), .ref (ma 43), .ref (ma 44), .ref (ma 45), .ref (ma 46), .ref (ma 47), .ref (ma 48), .int 0, .int 0, .int 0, .int 0, .int 0, .int 0, .int 0, .long 0, .int 0, .long 0, .long 0, .long 0, .long 0, .int 0, .int 0, .int 0, .int 0, .long 0])), (ma 39, .inl (G.2 0, 6, .inl (fun _ => 0))), (ma 11, .inl (G.2 4, 96, .inr (.inl (fun _ => 0))))] (S := Unit) (fun r _ => r = (-1)) (fun _ => []) := by
  intro sz
  refine xstart (by decide) (Nat.le_of_ble_eq_true rfl) (fun p e s m args below meth c ls C0 hr hlocks hin hsz hP hK hD hN hl => ?_)
  obtain ⟨hx, hb, hml, hown, htl⟩ := id C0
  subst hsz
  have hD := hD.self (sz := s.heap.size)
  generalize hAe : va_A [(m0, .inr (9, [.int 0, .int 0, .int 0, .int (-1), .ref (ma 4), .ref (ma 5), .ref (ma 6), .ref (ma 7), .ref (ma 8), .ref (ma 9), .ref (ma 10), .ref (ma 11), .ref (ma 12), .ref (ma 13), .ref (ma 14), .ref (ma 15), .ref (ma 16), .ref (ma 17), .ref (ma 18), .ref (ma 19), .int 0, .ref (ma 21), .ref (ma 22), .ref (ma 23), .ref (ma 24), .ref (ma 25), .ref (ma 26), .ref (ma 27), .ref (ma 28), .ref (ma 29), .ref (ma 30), .ref (ma 31), .ref (ma 32), .ref (ma 33), .ref (ma 34), .ref (ma 35), .ref (ma 36), .ref (ma 37), .int 0, .ref (ma 39), .ref (ma 40), .ref (ma 41), .ref (ma 42), .ref (ma 43), .ref (ma 44), .ref (ma 45), .ref (ma 46), .ref (ma 47), .ref (ma 48), .int 0, .int 0, .int 0, .int 0, .int 0, .int 0, .int 0, .long 0, .int 0, .long 0, .long 0, .long 0, .long 0, .int 0, .int 0, .int 0, .int 0, .long 0])), (ma 39, .inl (G.2 0, 6, .inl (fun _ => 0))), (ma 11, .inl (G.2 4, 96, .inr (.inl (fun _ => 0))))] s.heap.size = A at hD ⊢
  have hA : ∀ q : Nat, s.heap.size ≤ q → A q := fun q h => by rw [← hAe]; exact Or.inr h
  have hS : va_S A s.heap s.heap [] := va_S.rf
  have hl : lv_has ls 16 [(0, .ref m0), (1, .int p0), (2, .int p1), (3, .int p2), (4, .int p3), (5, .int p4)] := hl
  refine lv_aload_n hx hb dX9_copy_0 rfl (lv_at hl 0 rfl) ?_
  refine lv_iconst (v := 0) hx hb dX9_copy_1 (by decide) ?_
  refine va_put (D := G.1) (ci := 9) (v := .int 0) (ty := .int) (C := RX9) (T := TX9) (N := 67) hx hb htl inlX9 tyX9 tyX9_ok nmX9 hown hK hP hD hS 0 rfl rfl 38 (by decide) (htl (.fieldLink RX9 147 "LaytimeDeskModel" "reason" "I") mW175) (fun _ h9 => h9) rfl (by decide +kernel) rfl rfl (Nat.le_of_ble_eq_true rfl) dX9_copy_2 (fun H locs hP hD hS => ?_)
  have hP : va_P G.1 xcl [(m0, .inr (9, [.int 0, .int 0, .int 0, .int (-1), .ref (ma 4), .ref (ma 5), .ref (ma 6), .ref (ma 7), .ref (ma 8), .ref (ma 9), .ref (ma 10), .ref (ma 11), .ref (ma 12), .ref (ma 13), .ref (ma 14), .ref (ma 15), .ref (ma 16), .ref (ma 17), .ref (ma 18), .ref (ma 19), .int 0, .ref (ma 21), .ref (ma 22), .ref (ma 23), .ref (ma 24), .ref (ma 25), .ref (ma 26), .ref (ma 27), .ref (ma 28), .ref (ma 29), .ref (ma 30), .ref (ma 31), .ref (ma 32), .ref (ma 33), .ref (ma 34), .ref (ma 35), .ref (ma 36), .ref (ma 37), .int 0, .ref (ma 39), .ref (ma 40), .ref (ma 41), .ref (ma 42), .ref (ma 43), .ref (ma 44), .ref (ma 45), .ref (ma 46), .ref (ma 47), .ref (ma 48), .int 0, .int 0, .int 0, .int 0, .int 0, .int 0, .int 0, .long 0, .int 0, .long 0, .long 0, .long 0, .long 0, .int 0, .int 0, .int 0, .int 0, .long 0])), (ma 39, .inl (G.2 0, 6, .inl (fun _ => 0))), (ma 11, .inl (G.2 4, 96, .inr (.inl (fun _ => 0))))] H := hP
  have hD : va_D A [(m0, .inr (9, [.int 0, .int 0, .int 0, .int (-1), .ref (ma 4), .ref (ma 5), .ref (ma 6), .ref (ma 7), .ref (ma 8), .ref (ma 9), .ref (ma 10), .ref (ma 11), .ref (ma 12), .ref (ma 13), .ref (ma 14), .ref (ma 15), .ref (ma 16), .ref (ma 17), .ref (ma 18), .ref (ma 19), .int 0, .ref (ma 21), .ref (ma 22), .ref (ma 23), .ref (ma 24), .ref (ma 25), .ref (ma 26), .ref (ma 27), .ref (ma 28), .ref (ma 29), .ref (ma 30), .ref (ma 31), .ref (ma 32), .ref (ma 33), .ref (ma 34), .ref (ma 35), .ref (ma 36), .ref (ma 37), .int 0, .ref (ma 39), .ref (ma 40), .ref (ma 41), .ref (ma 42), .ref (ma 43), .ref (ma 44), .ref (ma 45), .ref (ma 46), .ref (ma 47), .ref (ma 48), .int 0, .int 0, .int 0, .int 0, .int 0, .int 0, .int 0, .long 0, .int 0, .long 0, .long 0, .long 0, .long 0, .int 0, .int 0, .int 0, .int 0, .long 0])), (ma 39, .inl (G.2 0, 6, .inl (fun _ => 0))), (ma 11, .inl (G.2 4, 96, .inr (.inl (fun _ => 0))))] := hD
  refine lv_iload hx hb dX9_copy_5 (lv_at hl 5 rfl) ?_
  refine lv_if_lt (tgt := 17) hx hb dX9_copy_7 (by decide) (fun c_1 => ?_) (fun c_1 => ?_)
  · refine lv_iconst (v := 1) hx hb dX9_copy_17 (by decide) ?_
    refine lv_goto (tgt := 22) hx hb dX9_copy_18 (by decide) ?_
    refine lv_istore (lv' := [(6, .int 1), (0, .ref m0), (1, .int p0), (2, .int p1), (3, .int p2), (4, .int p3), (5, .int p4)]) hx hb dX9_copy_22 hl (by decide) rfl (fun ls hl => ?_)
    refine lv_aload_n hx hb dX9_copy_24 rfl (lv_at hl 1 rfl) ?_
    refine lv_iload hx hb dX9_copy_25 (lv_at hl 0 rfl) ?_
    refine lv_aload_n hx hb dX9_copy_27 rfl (lv_at hl 1 rfl) ?_
    refine lv_iload_n hx hb dX9_copy_28 rfl (lv_at hl 2 rfl) ?_
    refine lv_iload_n hx hb dX9_copy_29 rfl (lv_at hl 3 rfl) ?_
    refine xVri (rq := 0) (ci := 9) (wc := [(m0, .inr (9, [.int 0, .int 0, .int 0, .int (-1), .ref (ma 4), .ref (ma 5), .ref (ma 6), .ref (ma 7), .ref (ma 8), .ref (ma 9), .ref (ma 10), .ref (ma 11), .ref (ma 12), .ref (ma 13), .ref (ma 14), .ref (ma 15), .ref (ma 16), .ref (ma 17), .ref (ma 18), .ref (ma 19), .int 0, .ref (ma 21), .ref (ma 22), .ref (ma 23), .ref (ma 24), .ref (ma 25), .ref (ma 26), .ref (ma 27), .ref (ma 28), .ref (ma 29), .ref (ma 30), .ref (ma 31), .ref (ma 32), .ref (ma 33), .ref (ma 34), .ref (ma 35), .ref (ma 36), .ref (ma 37), .int 0, .ref (ma 39), .ref (ma 40), .ref (ma 41), .ref (ma 42), .ref (ma 43), .ref (ma 44), .ref (ma 45), .ref (ma 46), .ref (ma 47), .ref (ma 48), .int 0, .int 0, .int 0, .int 0, .int 0, .int 0, .int 0, .long 0, .int 0, .long 0, .long 0, .long 0, .long 0, .int 0, .int 0, .int 0, .int 0, .long 0])), (ma 11, .inl (G.2 4, 96, .inr (.inl (fun _ => 0))))]) (As := [.int p0, .int p1]) (rest := [.int 1, .ref m0]) C0 (c_X9_dayWhy l G m0 ma p0 p1) ok_X9_dayWhy (mW450 : Cond.methodLink RX9 206 yX9_dayWhy ∈ wsT) ⟨Nat.le_of_ble_eq_true rfl, Nat.le_of_ble_eq_true rfl⟩ hP hD hK hN [0, 2] rfl (by decide) rfl rfl rfl rfl hl.1 rfl (Nat.le_of_ble_eq_true rfl) ⟨Nat.le_of_ble_eq_true rfl, Nat.le_of_ble_eq_true rfl⟩ dX9_copy_30 (fun r_2 hr_2 => ?_)
    refine xVri (rq := 0) (ci := 9) (wc := []) (As := [.int 1, .int r_2]) (rest := []) C0 (c_X9_lesser l G m0 1 r_2) ok_X9_lesser (mW489 : Cond.methodLink RX9 209 yX9_lesser ∈ wsT) ⟨Nat.le_of_ble_eq_true rfl, Nat.le_of_ble_eq_true rfl⟩ hP hD hK hN [] rfl (by decide) rfl rfl rfl rfl hl.1 rfl (Nat.le_of_ble_eq_true rfl) ⟨Nat.le_of_ble_eq_true rfl, Nat.le_of_ble_eq_true rfl⟩ dX9_copy_33 (fun r_3 hr_3 => ?_)
    have fr_3 : x2 r_3 := by rw [hr_3]; exact x2s (x23 (Or.inl rfl : x2 1)) hr_2
    refine lv_istore (lv' := [(6, .int r_3), (0, .ref m0), (1, .int p0), (2, .int p1), (3, .int p2), (4, .int p3), (5, .int p4)]) hx hb dX9_copy_36 hl (by decide) rfl (fun ls hl => ?_)
    refine lv_aload_n hx hb dX9_copy_38 rfl (lv_at hl 1 rfl) ?_
    refine lv_iload hx hb dX9_copy_39 (lv_at hl 0 rfl) ?_
    refine lv_aload_n hx hb dX9_copy_41 rfl (lv_at hl 1 rfl) ?_
    refine lv_iload_n hx hb dX9_copy_42 rfl (lv_at hl 4 rfl) ?_
    refine lv_iload hx hb dX9_copy_43 (lv_at hl 5 rfl) ?_
    refine xVri (rq := 0) (ci := 9) (wc := [(m0, .inr (9, [.int 0, .int 0, .int 0, .int (-1), .ref (ma 4), .ref (ma 5), .ref (ma 6), .ref (ma 7), .ref (ma 8), .ref (ma 9), .ref (ma 10), .ref (ma 11), .ref (ma 12), .ref (ma 13), .ref (ma 14), .ref (ma 15), .ref (ma 16), .ref (ma 17), .ref (ma 18), .ref (ma 19), .int 0, .ref (ma 21), .ref (ma 22), .ref (ma 23), .ref (ma 24), .ref (ma 25), .ref (ma 26), .ref (ma 27), .ref (ma 28), .ref (ma 29), .ref (ma 30), .ref (ma 31), .ref (ma 32), .ref (ma 33), .ref (ma 34), .ref (ma 35), .ref (ma 36), .ref (ma 37), .int 0, .ref (ma 39), .ref (ma 40), .ref (ma 41), .ref (ma 42), .ref (ma 43), .ref (ma 44), .ref (ma 45), .ref (ma 46), .ref (ma 47), .ref (ma 48), .int 0, .int 0, .int 0, .int 0, .int 0, .int 0, .int 0, .long 0, .int 0, .long 0, .long 0, .long 0, .long 0, .int 0, .int 0, .int 0, .int 0, .long 0])), (ma 11, .inl (G.2 4, 96, .inr (.inl (fun _ => 0))))]) (As := [.int p2, .int p3]) (rest := [.int r_3, .ref m0]) C0 (c_X9_dayWhy l G m0 ma p2 p3) ok_X9_dayWhy (mW450 : Cond.methodLink RX9 206 yX9_dayWhy ∈ wsT) ⟨Nat.le_of_ble_eq_true rfl, Nat.le_of_ble_eq_true rfl⟩ hP hD hK hN [0, 2] rfl (by decide) rfl rfl rfl rfl hl.1 rfl (Nat.le_of_ble_eq_true rfl) ⟨Nat.le_of_ble_eq_true rfl, Nat.le_of_ble_eq_true rfl⟩ dX9_copy_45 (fun r_4 hr_4 => ?_)
    refine xVri (rq := 0) (ci := 9) (wc := []) (As := [.int r_3, .int r_4]) (rest := []) C0 (c_X9_lesser l G m0 r_3 r_4) ok_X9_lesser (mW489 : Cond.methodLink RX9 209 yX9_lesser ∈ wsT) ⟨Nat.le_of_ble_eq_true rfl, Nat.le_of_ble_eq_true rfl⟩ hP hD hK hN [] rfl (by decide) rfl rfl rfl rfl hl.1 rfl (Nat.le_of_ble_eq_true rfl) ⟨Nat.le_of_ble_eq_true rfl, Nat.le_of_ble_eq_true rfl⟩ dX9_copy_48 (fun r_5 hr_5 => ?_)
    have fr_5 : x2 r_5 := by rw [hr_5]; exact x2s (x23 fr_3) hr_4
    refine lv_istore (lv' := [(6, .int r_5), (0, .ref m0), (1, .int p0), (2, .int p1), (3, .int p2), (4, .int p3), (5, .int p4)]) hx hb dX9_copy_51 hl (by decide) rfl (fun ls hl => ?_)
    refine lv_iload hx hb dX9_copy_53 (lv_at hl 0 rfl) ?_
    refine lv_if_eq (tgt := 65) hx hb dX9_copy_55 (by decide) (fun c_6 => absurd c_6 (xn0 fr_5)) (fun c_6 => ?_)
    refine lv_aload_n hx hb dX9_copy_58 rfl (lv_at hl 1 rfl) ?_
    refine lv_iload hx hb dX9_copy_59 (lv_at hl 0 rfl) ?_
    refine xVwi (rq := 0) (ci := 9) (wc := [(m0, .inr (9, [.int 0, .int 0, .int 0, .int (-1), .ref (ma 4), .ref (ma 5), .ref (ma 6), .ref (ma 7), .ref (ma 8), .ref (ma 9), .ref (ma 10), .ref (ma 11), .ref (ma 12), .ref (ma 13), .ref (ma 14), .ref (ma 15), .ref (ma 16), .ref (ma 17), .ref (ma 18), .ref (ma 19), .int 0, .ref (ma 21), .ref (ma 22), .ref (ma 23), .ref (ma 24), .ref (ma 25), .ref (ma 26), .ref (ma 27), .ref (ma 28), .ref (ma 29), .ref (ma 30), .ref (ma 31), .ref (ma 32), .ref (ma 33), .ref (ma 34), .ref (ma 35), .ref (ma 36), .ref (ma 37), .int 0, .ref (ma 39), .ref (ma 40), .ref (ma 41), .ref (ma 42), .ref (ma 43), .ref (ma 44), .ref (ma 45), .ref (ma 46), .ref (ma 47), .ref (ma 48), .int 0, .int 0, .int 0, .int 0, .int 0, .int 0, .int 0, .long 0, .int 0, .long 0, .long 0, .long 0, .long 0, .int 0, .int 0, .int 0, .int 0, .long 0])), (ma 39, .inl (G.2 0, 6, .inl (fun _ => 0)))]) (wr := [(ma 11, .inl (G.2 4, 96, .inr (.inl (fun _ => 0))))]) (As := [.int r_5]) (rest := []) C0 (c_X9_no l G m0 ma r_5 (xin6 fr_5)) ok_X9_no (mW177 : Cond.methodLink RX9 168 yX9_no ∈ wsT) ⟨Nat.le_of_ble_eq_true rfl, Nat.le_of_ble_eq_true rfl⟩ hP hD hS hA hK hN [0, 1] [2] rfl rfl (by decide) (by decide) (by decide) rfl rfl rfl rfl hl.1 rfl (Nat.le_of_ble_eq_true rfl) ⟨Nat.le_of_ble_eq_true rfl, Nat.le_of_ble_eq_true rfl⟩ dX9_copy_61 (fun r_7 u_8 H locs hr_7 hP hD hS => ?_)
    have hP : va_P G.1 xcl [(ma 11, .inl (G.2 4, 96, .inr (.inl (fun _ => 0))))] H := hP
    have hD : va_D A [(ma 11, .inl (G.2 4, 96, .inr (.inl (fun _ => 0))))] := hD
    obtain rfl : r_7 = (-1) := hr_7
    have hP9 := hP.sub (ws' := []) [] rfl
    have hD9 := hD.sub (ws' := []) [] (by decide) rfl
    exact W.iret (v := (-1)) hx hb hr (fun t ht hW => ⟨⟨(-1), (), rfl, rfl, by rw [ht]; exact hP9, hD9⟩, hS.F ht⟩) hS.2.2 dX9_copy_64
  · refine lv_iload hx hb dX9_copy_10 (lv_at hl 5 rfl) ?_
    refine lv_bipush (v := 90) hx hb dX9_copy_12 (by decide) ?_
    refine lv_icmp_le (tgt := 21) hx hb dX9_copy_14 (by decide) (fun c_9 => ?_) (fun c_9 => ?_)
    · refine lv_iconst (v := 0) hx hb dX9_copy_21 (by decide) ?_
      refine lv_istore (lv' := [(6, .int 0), (0, .ref m0), (1, .int p0), (2, .int p1), (3, .int p2), (4, .int p3), (5, .int p4)]) hx hb dX9_copy_22 hl (by decide) rfl (fun ls hl => ?_)
      refine lv_aload_n hx hb dX9_copy_24 rfl (lv_at hl 1 rfl) ?_
      refine lv_iload hx hb dX9_copy_25 (lv_at hl 0 rfl) ?_
      refine lv_aload_n hx hb dX9_copy_27 rfl (lv_at hl 1 rfl) ?_
      refine lv_iload_n hx hb dX9_copy_28 rfl (lv_at hl 2 rfl) ?_
      refine lv_iload_n hx hb dX9_copy_29 rfl (lv_at hl 3 rfl) ?_
      refine xVri (rq := 0) (ci := 9) (wc := [(m0, .inr (9, [.int 0, .int 0, .int 0, .int (-1), .ref (ma 4), .ref (ma 5), .ref (ma 6), .ref (ma 7), .ref (ma 8), .ref (ma 9), .ref (ma 10), .ref (ma 11), .ref (ma 12), .ref (ma 13), .ref (ma 14), .ref (ma 15), .ref (ma 16), .ref (ma 17), .ref (ma 18), .ref (ma 19), .int 0, .ref (ma 21), .ref (ma 22), .ref (ma 23), .ref (ma 24), .ref (ma 25), .ref (ma 26), .ref (ma 27), .ref (ma 28), .ref (ma 29), .ref (ma 30), .ref (ma 31), .ref (ma 32), .ref (ma 33), .ref (ma 34), .ref (ma 35), .ref (ma 36), .ref (ma 37), .int 0, .ref (ma 39), .ref (ma 40), .ref (ma 41), .ref (ma 42), .ref (ma 43), .ref (ma 44), .ref (ma 45), .ref (ma 46), .ref (ma 47), .ref (ma 48), .int 0, .int 0, .int 0, .int 0, .int 0, .int 0, .int 0, .long 0, .int 0, .long 0, .long 0, .long 0, .long 0, .int 0, .int 0, .int 0, .int 0, .long 0])), (ma 11, .inl (G.2 4, 96, .inr (.inl (fun _ => 0))))]) (As := [.int p0, .int p1]) (rest := [.int 0, .ref m0]) C0 (c_X9_dayWhy l G m0 ma p0 p1) ok_X9_dayWhy (mW450 : Cond.methodLink RX9 206 yX9_dayWhy ∈ wsT) ⟨Nat.le_of_ble_eq_true rfl, Nat.le_of_ble_eq_true rfl⟩ hP hD hK hN [0, 2] rfl (by decide) rfl rfl rfl rfl hl.1 rfl (Nat.le_of_ble_eq_true rfl) ⟨Nat.le_of_ble_eq_true rfl, Nat.le_of_ble_eq_true rfl⟩ dX9_copy_30 (fun r_10 hr_10 => ?_)
      refine xVri (rq := 0) (ci := 9) (wc := []) (As := [.int 0, .int r_10]) (rest := []) C0 (c_X9_lesser l G m0 0 r_10) ok_X9_lesser (mW489 : Cond.methodLink RX9 209 yX9_lesser ∈ wsT) ⟨Nat.le_of_ble_eq_true rfl, Nat.le_of_ble_eq_true rfl⟩ hP hD hK hN [] rfl (by decide) rfl rfl rfl rfl hl.1 rfl (Nat.le_of_ble_eq_true rfl) ⟨Nat.le_of_ble_eq_true rfl, Nat.le_of_ble_eq_true rfl⟩ dX9_copy_33 (fun r_11 hr_11 => ?_)
      have fr_11 : x2 r_11 := by rw [hr_11]; exact x2s (Or.inl rfl : x3 0) hr_10
      refine lv_istore (lv' := [(6, .int r_11), (0, .ref m0), (1, .int p0), (2, .int p1), (3, .int p2), (4, .int p3), (5, .int p4)]) hx hb dX9_copy_36 hl (by decide) rfl (fun ls hl => ?_)
      refine lv_aload_n hx hb dX9_copy_38 rfl (lv_at hl 1 rfl) ?_
      refine lv_iload hx hb dX9_copy_39 (lv_at hl 0 rfl) ?_
      refine lv_aload_n hx hb dX9_copy_41 rfl (lv_at hl 1 rfl) ?_
      refine lv_iload_n hx hb dX9_copy_42 rfl (lv_at hl 4 rfl) ?_
      refine lv_iload hx hb dX9_copy_43 (lv_at hl 5 rfl) ?_
      refine xVri (rq := 0) (ci := 9) (wc := [(m0, .inr (9, [.int 0, .int 0, .int 0, .int (-1), .ref (ma 4), .ref (ma 5), .ref (ma 6), .ref (ma 7), .ref (ma 8), .ref (ma 9), .ref (ma 10), .ref (ma 11), .ref (ma 12), .ref (ma 13), .ref (ma 14), .ref (ma 15), .ref (ma 16), .ref (ma 17), .ref (ma 18), .ref (ma 19), .int 0, .ref (ma 21), .ref (ma 22), .ref (ma 23), .ref (ma 24), .ref (ma 25), .ref (ma 26), .ref (ma 27), .ref (ma 28), .ref (ma 29), .ref (ma 30), .ref (ma 31), .ref (ma 32), .ref (ma 33), .ref (ma 34), .ref (ma 35), .ref (ma 36), .ref (ma 37), .int 0, .ref (ma 39), .ref (ma 40), .ref (ma 41), .ref (ma 42), .ref (ma 43), .ref (ma 44), .ref (ma 45), .ref (ma 46), .ref (ma 47), .ref (ma 48), .int 0, .int 0, .int 0, .int 0, .int 0, .int 0, .int 0, .long 0, .int 0, .long 0, .long 0, .long 0, .long 0, .int 0, .int 0, .int 0, .int 0, .long 0])), (ma 11, .inl (G.2 4, 96, .inr (.inl (fun _ => 0))))]) (As := [.int p2, .int p3]) (rest := [.int r_11, .ref m0]) C0 (c_X9_dayWhy l G m0 ma p2 p3) ok_X9_dayWhy (mW450 : Cond.methodLink RX9 206 yX9_dayWhy ∈ wsT) ⟨Nat.le_of_ble_eq_true rfl, Nat.le_of_ble_eq_true rfl⟩ hP hD hK hN [0, 2] rfl (by decide) rfl rfl rfl rfl hl.1 rfl (Nat.le_of_ble_eq_true rfl) ⟨Nat.le_of_ble_eq_true rfl, Nat.le_of_ble_eq_true rfl⟩ dX9_copy_45 (fun r_12 hr_12 => ?_)
      refine xVri (rq := 0) (ci := 9) (wc := []) (As := [.int r_11, .int r_12]) (rest := []) C0 (c_X9_lesser l G m0 r_11 r_12) ok_X9_lesser (mW489 : Cond.methodLink RX9 209 yX9_lesser ∈ wsT) ⟨Nat.le_of_ble_eq_true rfl, Nat.le_of_ble_eq_true rfl⟩ hP hD hK hN [] rfl (by decide) rfl rfl rfl rfl hl.1 rfl (Nat.le_of_ble_eq_true rfl) ⟨Nat.le_of_ble_eq_true rfl, Nat.le_of_ble_eq_true rfl⟩ dX9_copy_48 (fun r_13 hr_13 => ?_)
      have fr_13 : x2 r_13 := by rw [hr_13]; exact x2s (x23 fr_11) hr_12
      refine lv_istore (lv' := [(6, .int r_13), (0, .ref m0), (1, .int p0), (2, .int p1), (3, .int p2), (4, .int p3), (5, .int p4)]) hx hb dX9_copy_51 hl (by decide) rfl (fun ls hl => ?_)
      refine lv_iload hx hb dX9_copy_53 (lv_at hl 0 rfl) ?_
      refine lv_if_eq (tgt := 65) hx hb dX9_copy_55 (by decide) (fun c_14 => absurd c_14 (xn0 fr_13)) (fun c_14 => ?_)
      refine lv_aload_n hx hb dX9_copy_58 rfl (lv_at hl 1 rfl) ?_
      refine lv_iload hx hb dX9_copy_59 (lv_at hl 0 rfl) ?_
      refine xVwi (rq := 0) (ci := 9) (wc := [(m0, .inr (9, [.int 0, .int 0, .int 0, .int (-1), .ref (ma 4), .ref (ma 5), .ref (ma 6), .ref (ma 7), .ref (ma 8), .ref (ma 9), .ref (ma 10), .ref (ma 11), .ref (ma 12), .ref (ma 13), .ref (ma 14), .ref (ma 15), .ref (ma 16), .ref (ma 17), .ref (ma 18), .ref (ma 19), .int 0, .ref (ma 21), .ref (ma 22), .ref (ma 23), .ref (ma 24), .ref (ma 25), .ref (ma 26), .ref (ma 27), .ref (ma 28), .ref (ma 29), .ref (ma 30), .ref (ma 31), .ref (ma 32), .ref (ma 33), .ref (ma 34), .ref (ma 35), .ref (ma 36), .ref (ma 37), .int 0, .ref (ma 39), .ref (ma 40), .ref (ma 41), .ref (ma 42), .ref (ma 43), .ref (ma 44), .ref (ma 45), .ref (ma 46), .ref (ma 47), .ref (ma 48), .int 0, .int 0, .int 0, .int 0, .int 0, .int 0, .int 0, .long 0, .int 0, .long 0, .long 0, .long 0, .long 0, .int 0, .int 0, .int 0, .int 0, .long 0])), (ma 39, .inl (G.2 0, 6, .inl (fun _ => 0)))]) (wr := [(ma 11, .inl (G.2 4, 96, .inr (.inl (fun _ => 0))))]) (As := [.int r_13]) (rest := []) C0 (c_X9_no l G m0 ma r_13 (xin6 fr_13)) ok_X9_no (mW177 : Cond.methodLink RX9 168 yX9_no ∈ wsT) ⟨Nat.le_of_ble_eq_true rfl, Nat.le_of_ble_eq_true rfl⟩ hP hD hS hA hK hN [0, 1] [2] rfl rfl (by decide) (by decide) (by decide) rfl rfl rfl rfl hl.1 rfl (Nat.le_of_ble_eq_true rfl) ⟨Nat.le_of_ble_eq_true rfl, Nat.le_of_ble_eq_true rfl⟩ dX9_copy_61 (fun r_15 u_16 H locs hr_15 hP hD hS => ?_)
      have hP : va_P G.1 xcl [(ma 11, .inl (G.2 4, 96, .inr (.inl (fun _ => 0))))] H := hP
      have hD : va_D A [(ma 11, .inl (G.2 4, 96, .inr (.inl (fun _ => 0))))] := hD
      obtain rfl : r_15 = (-1) := hr_15
      have hP9 := hP.sub (ws' := []) [] rfl
      have hD9 := hD.sub (ws' := []) [] (by decide) rfl
      exact W.iret (v := (-1)) hx hb hr (fun t ht hW => ⟨⟨(-1), (), rfl, rfl, by rw [ht]; exact hP9, hD9⟩, hS.F ht⟩) hS.2.2 dX9_copy_64
    · refine lv_iconst (v := 1) hx hb dX9_copy_17 (by decide) ?_
      refine lv_goto (tgt := 22) hx hb dX9_copy_18 (by decide) ?_
      refine lv_istore (lv' := [(6, .int 1), (0, .ref m0), (1, .int p0), (2, .int p1), (3, .int p2), (4, .int p3), (5, .int p4)]) hx hb dX9_copy_22 hl (by decide) rfl (fun ls hl => ?_)
      refine lv_aload_n hx hb dX9_copy_24 rfl (lv_at hl 1 rfl) ?_
      refine lv_iload hx hb dX9_copy_25 (lv_at hl 0 rfl) ?_
      refine lv_aload_n hx hb dX9_copy_27 rfl (lv_at hl 1 rfl) ?_
      refine lv_iload_n hx hb dX9_copy_28 rfl (lv_at hl 2 rfl) ?_
      refine lv_iload_n hx hb dX9_copy_29 rfl (lv_at hl 3 rfl) ?_
      refine xVri (rq := 0) (ci := 9) (wc := [(m0, .inr (9, [.int 0, .int 0, .int 0, .int (-1), .ref (ma 4), .ref (ma 5), .ref (ma 6), .ref (ma 7), .ref (ma 8), .ref (ma 9), .ref (ma 10), .ref (ma 11), .ref (ma 12), .ref (ma 13), .ref (ma 14), .ref (ma 15), .ref (ma 16), .ref (ma 17), .ref (ma 18), .ref (ma 19), .int 0, .ref (ma 21), .ref (ma 22), .ref (ma 23), .ref (ma 24), .ref (ma 25), .ref (ma 26), .ref (ma 27), .ref (ma 28), .ref (ma 29), .ref (ma 30), .ref (ma 31), .ref (ma 32), .ref (ma 33), .ref (ma 34), .ref (ma 35), .ref (ma 36), .ref (ma 37), .int 0, .ref (ma 39), .ref (ma 40), .ref (ma 41), .ref (ma 42), .ref (ma 43), .ref (ma 44), .ref (ma 45), .ref (ma 46), .ref (ma 47), .ref (ma 48), .int 0, .int 0, .int 0, .int 0, .int 0, .int 0, .int 0, .long 0, .int 0, .long 0, .long 0, .long 0, .long 0, .int 0, .int 0, .int 0, .int 0, .long 0])), (ma 11, .inl (G.2 4, 96, .inr (.inl (fun _ => 0))))]) (As := [.int p0, .int p1]) (rest := [.int 1, .ref m0]) C0 (c_X9_dayWhy l G m0 ma p0 p1) ok_X9_dayWhy (mW450 : Cond.methodLink RX9 206 yX9_dayWhy ∈ wsT) ⟨Nat.le_of_ble_eq_true rfl, Nat.le_of_ble_eq_true rfl⟩ hP hD hK hN [0, 2] rfl (by decide) rfl rfl rfl rfl hl.1 rfl (Nat.le_of_ble_eq_true rfl) ⟨Nat.le_of_ble_eq_true rfl, Nat.le_of_ble_eq_true rfl⟩ dX9_copy_30 (fun r_17 hr_17 => ?_)
      refine xVri (rq := 0) (ci := 9) (wc := []) (As := [.int 1, .int r_17]) (rest := []) C0 (c_X9_lesser l G m0 1 r_17) ok_X9_lesser (mW489 : Cond.methodLink RX9 209 yX9_lesser ∈ wsT) ⟨Nat.le_of_ble_eq_true rfl, Nat.le_of_ble_eq_true rfl⟩ hP hD hK hN [] rfl (by decide) rfl rfl rfl rfl hl.1 rfl (Nat.le_of_ble_eq_true rfl) ⟨Nat.le_of_ble_eq_true rfl, Nat.le_of_ble_eq_true rfl⟩ dX9_copy_33 (fun r_18 hr_18 => ?_)
      have fr_18 : x2 r_18 := by rw [hr_18]; exact x2s (x23 (Or.inl rfl : x2 1)) hr_17
      refine lv_istore (lv' := [(6, .int r_18), (0, .ref m0), (1, .int p0), (2, .int p1), (3, .int p2), (4, .int p3), (5, .int p4)]) hx hb dX9_copy_36 hl (by decide) rfl (fun ls hl => ?_)
      refine lv_aload_n hx hb dX9_copy_38 rfl (lv_at hl 1 rfl) ?_
      refine lv_iload hx hb dX9_copy_39 (lv_at hl 0 rfl) ?_
      refine lv_aload_n hx hb dX9_copy_41 rfl (lv_at hl 1 rfl) ?_
      refine lv_iload_n hx hb dX9_copy_42 rfl (lv_at hl 4 rfl) ?_
      refine lv_iload hx hb dX9_copy_43 (lv_at hl 5 rfl) ?_
      refine xVri (rq := 0) (ci := 9) (wc := [(m0, .inr (9, [.int 0, .int 0, .int 0, .int (-1), .ref (ma 4), .ref (ma 5), .ref (ma 6), .ref (ma 7), .ref (ma 8), .ref (ma 9), .ref (ma 10), .ref (ma 11), .ref (ma 12), .ref (ma 13), .ref (ma 14), .ref (ma 15), .ref (ma 16), .ref (ma 17), .ref (ma 18), .ref (ma 19), .int 0, .ref (ma 21), .ref (ma 22), .ref (ma 23), .ref (ma 24), .ref (ma 25), .ref (ma 26), .ref (ma 27), .ref (ma 28), .ref (ma 29), .ref (ma 30), .ref (ma 31), .ref (ma 32), .ref (ma 33), .ref (ma 34), .ref (ma 35), .ref (ma 36), .ref (ma 37), .int 0, .ref (ma 39), .ref (ma 40), .ref (ma 41), .ref (ma 42), .ref (ma 43), .ref (ma 44), .ref (ma 45), .ref (ma 46), .ref (ma 47), .ref (ma 48), .int 0, .int 0, .int 0, .int 0, .int 0, .int 0, .int 0, .long 0, .int 0, .long 0, .long 0, .long 0, .long 0, .int 0, .int 0, .int 0, .int 0, .long 0])), (ma 11, .inl (G.2 4, 96, .inr (.inl (fun _ => 0))))]) (As := [.int p2, .int p3]) (rest := [.int r_18, .ref m0]) C0 (c_X9_dayWhy l G m0 ma p2 p3) ok_X9_dayWhy (mW450 : Cond.methodLink RX9 206 yX9_dayWhy ∈ wsT) ⟨Nat.le_of_ble_eq_true rfl, Nat.le_of_ble_eq_true rfl⟩ hP hD hK hN [0, 2] rfl (by decide) rfl rfl rfl rfl hl.1 rfl (Nat.le_of_ble_eq_true rfl) ⟨Nat.le_of_ble_eq_true rfl, Nat.le_of_ble_eq_true rfl⟩ dX9_copy_45 (fun r_19 hr_19 => ?_)
      refine xVri (rq := 0) (ci := 9) (wc := []) (As := [.int r_18, .int r_19]) (rest := []) C0 (c_X9_lesser l G m0 r_18 r_19) ok_X9_lesser (mW489 : Cond.methodLink RX9 209 yX9_lesser ∈ wsT) ⟨Nat.le_of_ble_eq_true rfl, Nat.le_of_ble_eq_true rfl⟩ hP hD hK hN [] rfl (by decide) rfl rfl rfl rfl hl.1 rfl (Nat.le_of_ble_eq_true rfl) ⟨Nat.le_of_ble_eq_true rfl, Nat.le_of_ble_eq_true rfl⟩ dX9_copy_48 (fun r_20 hr_20 => ?_)
      have fr_20 : x2 r_20 := by rw [hr_20]; exact x2s (x23 fr_18) hr_19
      refine lv_istore (lv' := [(6, .int r_20), (0, .ref m0), (1, .int p0), (2, .int p1), (3, .int p2), (4, .int p3), (5, .int p4)]) hx hb dX9_copy_51 hl (by decide) rfl (fun ls hl => ?_)
      refine lv_iload hx hb dX9_copy_53 (lv_at hl 0 rfl) ?_
      refine lv_if_eq (tgt := 65) hx hb dX9_copy_55 (by decide) (fun c_21 => absurd c_21 (xn0 fr_20)) (fun c_21 => ?_)
      refine lv_aload_n hx hb dX9_copy_58 rfl (lv_at hl 1 rfl) ?_
      refine lv_iload hx hb dX9_copy_59 (lv_at hl 0 rfl) ?_
      refine xVwi (rq := 0) (ci := 9) (wc := [(m0, .inr (9, [.int 0, .int 0, .int 0, .int (-1), .ref (ma 4), .ref (ma 5), .ref (ma 6), .ref (ma 7), .ref (ma 8), .ref (ma 9), .ref (ma 10), .ref (ma 11), .ref (ma 12), .ref (ma 13), .ref (ma 14), .ref (ma 15), .ref (ma 16), .ref (ma 17), .ref (ma 18), .ref (ma 19), .int 0, .ref (ma 21), .ref (ma 22), .ref (ma 23), .ref (ma 24), .ref (ma 25), .ref (ma 26), .ref (ma 27), .ref (ma 28), .ref (ma 29), .ref (ma 30), .ref (ma 31), .ref (ma 32), .ref (ma 33), .ref (ma 34), .ref (ma 35), .ref (ma 36), .ref (ma 37), .int 0, .ref (ma 39), .ref (ma 40), .ref (ma 41), .ref (ma 42), .ref (ma 43), .ref (ma 44), .ref (ma 45), .ref (ma 46), .ref (ma 47), .ref (ma 48), .int 0, .int 0, .int 0, .int 0, .int 0, .int 0, .int 0, .long 0, .int 0, .long 0, .long 0, .long 0, .long 0, .int 0, .int 0, .int 0, .int 0, .long 0])), (ma 39, .inl (G.2 0, 6, .inl (fun _ => 0)))]) (wr := [(ma 11, .inl (G.2 4, 96, .inr (.inl (fun _ => 0))))]) (As := [.int r_20]) (rest := []) C0 (c_X9_no l G m0 ma r_20 (xin6 fr_20)) ok_X9_no (mW177 : Cond.methodLink RX9 168 yX9_no ∈ wsT) ⟨Nat.le_of_ble_eq_true rfl, Nat.le_of_ble_eq_true rfl⟩ hP hD hS hA hK hN [0, 1] [2] rfl rfl (by decide) (by decide) (by decide) rfl rfl rfl rfl hl.1 rfl (Nat.le_of_ble_eq_true rfl) ⟨Nat.le_of_ble_eq_true rfl, Nat.le_of_ble_eq_true rfl⟩ dX9_copy_61 (fun r_22 u_23 H locs hr_22 hP hD hS => ?_)
      have hP : va_P G.1 xcl [(ma 11, .inl (G.2 4, 96, .inr (.inl (fun _ => 0))))] H := hP
      have hD : va_D A [(ma 11, .inl (G.2 4, 96, .inr (.inl (fun _ => 0))))] := hD
      obtain rfl : r_22 = (-1) := hr_22
      have hP9 := hP.sub (ws' := []) [] rfl
      have hD9 := hD.sub (ws' := []) [] (by decide) rfl
      exact W.iret (v := (-1)) hx hb hr (fun t ht hW => ⟨⟨(-1), (), rfl, rfl, by rw [ht]; exact hP9, hD9⟩, hS.F ht⟩) hS.2.2 dX9_copy_64
theorem dX9_free_0 : decode cX9_free 0 = .ok (.aload_n 0, 1) := by decide +kernel
theorem dX9_free_1 : decode cX9_free 1 = .ok (.iconst 0, 1) := by decide +kernel
theorem dX9_free_2 : decode cX9_free 2 = .ok (.putfield 147, 3) := by decide +kernel
theorem dX9_free_5 : decode cX9_free 5 = .ok (.aload_n 0, 1) := by decide +kernel
theorem dX9_free_6 : decode cX9_free 6 = .ok (.iload_n 1, 1) := by decide +kernel
theorem dX9_free_7 : decode cX9_free 7 = .ok (.iload_n 2, 1) := by decide +kernel
theorem dX9_free_8 : decode cX9_free 8 = .ok (.invokevirtual 206, 3) := by decide +kernel
theorem dX9_free_11 : decode cX9_free 11 = .ok (.istore 4, 2) := by decide +kernel
theorem dX9_free_13 : decode cX9_free 13 = .ok (.iload 4, 2) := by decide +kernel
theorem dX9_free_15 : decode cX9_free 15 = .ok (.ifCond .eq 12, 3) := by decide +kernel
theorem dX9_free_18 : decode cX9_free 18 = .ok (.aload_n 0, 1) := by decide +kernel
theorem dX9_free_19 : decode cX9_free 19 = .ok (.iload 4, 2) := by decide +kernel
theorem dX9_free_21 : decode cX9_free 21 = .ok (.invokevirtual 168, 3) := by decide +kernel
theorem dX9_free_24 : decode cX9_free 24 = .ok (.pop, 1) := by decide +kernel
theorem dX9_free_25 : decode cX9_free 25 = .ok (.iconst 0, 1) := by decide +kernel
theorem dX9_free_26 : decode cX9_free 26 = .ok (.ireturn, 1) := by decide +kernel
set_option maxHeartbeats 4000000 in
set_option maxRecDepth 100000 in
theorem c_X9_free (l : Launch) (G : xG) (m0 : Nat) (ma : Nat → Nat) (p0 : Int32) (p1 : Int32) (p2 : Int32)  : xWi l G yX9_free cX9_free 6 (some .boolean) 3 65 0 0 [.ref m0, .int p0, .int p1, .int p2] [(m0, .inr (9, [.int 0, .int 0, .int 0, .int (-1), .ref (ma 4), .ref (ma 5), .ref (ma 6), .ref (ma 7), .ref (ma 8), .ref (ma 9), .ref (ma 10), .ref (ma 11), .ref (ma 12), .ref (ma 13), .ref (ma 14), .ref (ma 15), .ref (ma 16), .ref (ma 17), .ref (ma 18), .ref (ma 19), .int 0, .ref (ma 21), .ref (ma 22), .ref (ma 23), .ref (ma 24), .ref (ma 25), .ref (ma 26), .ref (ma 27), .ref (ma 28), .ref (ma 29), .ref (ma 30), .ref (ma 31), .ref (ma 32), .ref (ma 33), .ref (ma 34), .ref (ma 35), .ref (ma 36), .ref (ma 37), .int 0, .ref (ma 39), .ref (ma 40), .ref (ma 41), .ref (ma 42), .ref (ma 43), .ref (ma 44), .ref (ma 45), .ref (ma 46), .ref (ma 47), .ref (ma 48), .int 0, .int 0, .int 0, .int 0, .int 0, .int 0, .int 0, .long 0, .int 0, .long 0, .long 0, .long 0, .long 0, .int 0, .int 0, .int 0, .int 0, .long 0])), (ma 39, .inl (G.2 0, 6, .inl (fun _ => 0))), (ma 11, .inl (G.2 4, 96, .inr (.inl (fun _ => 0))))] (S := Unit) (fun r _ => r = 0) (fun _ => []) := by
  intro sz
  refine xstart (by decide) (Nat.le_of_ble_eq_true rfl) (fun p e s m args below meth c ls C0 hr hlocks hin hsz hP hK hD hN hl => ?_)
  obtain ⟨hx, hb, hml, hown, htl⟩ := id C0
  subst hsz
  have hD := hD.self (sz := s.heap.size)
  generalize hAe : va_A [(m0, .inr (9, [.int 0, .int 0, .int 0, .int (-1), .ref (ma 4), .ref (ma 5), .ref (ma 6), .ref (ma 7), .ref (ma 8), .ref (ma 9), .ref (ma 10), .ref (ma 11), .ref (ma 12), .ref (ma 13), .ref (ma 14), .ref (ma 15), .ref (ma 16), .ref (ma 17), .ref (ma 18), .ref (ma 19), .int 0, .ref (ma 21), .ref (ma 22), .ref (ma 23), .ref (ma 24), .ref (ma 25), .ref (ma 26), .ref (ma 27), .ref (ma 28), .ref (ma 29), .ref (ma 30), .ref (ma 31), .ref (ma 32), .ref (ma 33), .ref (ma 34), .ref (ma 35), .ref (ma 36), .ref (ma 37), .int 0, .ref (ma 39), .ref (ma 40), .ref (ma 41), .ref (ma 42), .ref (ma 43), .ref (ma 44), .ref (ma 45), .ref (ma 46), .ref (ma 47), .ref (ma 48), .int 0, .int 0, .int 0, .int 0, .int 0, .int 0, .int 0, .long 0, .int 0, .long 0, .long 0, .long 0, .long 0, .int 0, .int 0, .int 0, .int 0, .long 0])), (ma 39, .inl (G.2 0, 6, .inl (fun _ => 0))), (ma 11, .inl (G.2 4, 96, .inr (.inl (fun _ => 0))))] s.heap.size = A at hD ⊢
  have hA : ∀ q : Nat, s.heap.size ≤ q → A q := fun q h => by rw [← hAe]; exact Or.inr h
  have hS : va_S A s.heap s.heap [] := va_S.rf
  have hl : lv_has ls 6 [(0, .ref m0), (1, .int p0), (2, .int p1), (3, .int p2)] := hl
  refine lv_aload_n hx hb dX9_free_0 rfl (lv_at hl 0 rfl) ?_
  refine lv_iconst (v := 0) hx hb dX9_free_1 (by decide) ?_
  refine va_put (D := G.1) (ci := 9) (v := .int 0) (ty := .int) (C := RX9) (T := TX9) (N := 67) hx hb htl inlX9 tyX9 tyX9_ok nmX9 hown hK hP hD hS 0 rfl rfl 38 (by decide) (htl (.fieldLink RX9 147 "LaytimeDeskModel" "reason" "I") mW175) (fun _ h9 => h9) rfl (by decide +kernel) rfl rfl (Nat.le_of_ble_eq_true rfl) dX9_free_2 (fun H locs hP hD hS => ?_)
  have hP : va_P G.1 xcl [(m0, .inr (9, [.int 0, .int 0, .int 0, .int (-1), .ref (ma 4), .ref (ma 5), .ref (ma 6), .ref (ma 7), .ref (ma 8), .ref (ma 9), .ref (ma 10), .ref (ma 11), .ref (ma 12), .ref (ma 13), .ref (ma 14), .ref (ma 15), .ref (ma 16), .ref (ma 17), .ref (ma 18), .ref (ma 19), .int 0, .ref (ma 21), .ref (ma 22), .ref (ma 23), .ref (ma 24), .ref (ma 25), .ref (ma 26), .ref (ma 27), .ref (ma 28), .ref (ma 29), .ref (ma 30), .ref (ma 31), .ref (ma 32), .ref (ma 33), .ref (ma 34), .ref (ma 35), .ref (ma 36), .ref (ma 37), .int 0, .ref (ma 39), .ref (ma 40), .ref (ma 41), .ref (ma 42), .ref (ma 43), .ref (ma 44), .ref (ma 45), .ref (ma 46), .ref (ma 47), .ref (ma 48), .int 0, .int 0, .int 0, .int 0, .int 0, .int 0, .int 0, .long 0, .int 0, .long 0, .long 0, .long 0, .long 0, .int 0, .int 0, .int 0, .int 0, .long 0])), (ma 39, .inl (G.2 0, 6, .inl (fun _ => 0))), (ma 11, .inl (G.2 4, 96, .inr (.inl (fun _ => 0))))] H := hP
  have hD : va_D A [(m0, .inr (9, [.int 0, .int 0, .int 0, .int (-1), .ref (ma 4), .ref (ma 5), .ref (ma 6), .ref (ma 7), .ref (ma 8), .ref (ma 9), .ref (ma 10), .ref (ma 11), .ref (ma 12), .ref (ma 13), .ref (ma 14), .ref (ma 15), .ref (ma 16), .ref (ma 17), .ref (ma 18), .ref (ma 19), .int 0, .ref (ma 21), .ref (ma 22), .ref (ma 23), .ref (ma 24), .ref (ma 25), .ref (ma 26), .ref (ma 27), .ref (ma 28), .ref (ma 29), .ref (ma 30), .ref (ma 31), .ref (ma 32), .ref (ma 33), .ref (ma 34), .ref (ma 35), .ref (ma 36), .ref (ma 37), .int 0, .ref (ma 39), .ref (ma 40), .ref (ma 41), .ref (ma 42), .ref (ma 43), .ref (ma 44), .ref (ma 45), .ref (ma 46), .ref (ma 47), .ref (ma 48), .int 0, .int 0, .int 0, .int 0, .int 0, .int 0, .int 0, .long 0, .int 0, .long 0, .long 0, .long 0, .long 0, .int 0, .int 0, .int 0, .int 0, .long 0])), (ma 39, .inl (G.2 0, 6, .inl (fun _ => 0))), (ma 11, .inl (G.2 4, 96, .inr (.inl (fun _ => 0))))] := hD
  refine lv_aload_n hx hb dX9_free_5 rfl (lv_at hl 0 rfl) ?_
  refine lv_iload_n hx hb dX9_free_6 rfl (lv_at hl 1 rfl) ?_
  refine lv_iload_n hx hb dX9_free_7 rfl (lv_at hl 2 rfl) ?_
  refine xVri (rq := 0) (ci := 9) (wc := [(m0, .inr (9, [.int 0, .int 0, .int 0, .int (-1), .ref (ma 4), .ref (ma 5), .ref (ma 6), .ref (ma 7), .ref (ma 8), .ref (ma 9), .ref (ma 10), .ref (ma 11), .ref (ma 12), .ref (ma 13), .ref (ma 14), .ref (ma 15), .ref (ma 16), .ref (ma 17), .ref (ma 18), .ref (ma 19), .int 0, .ref (ma 21), .ref (ma 22), .ref (ma 23), .ref (ma 24), .ref (ma 25), .ref (ma 26), .ref (ma 27), .ref (ma 28), .ref (ma 29), .ref (ma 30), .ref (ma 31), .ref (ma 32), .ref (ma 33), .ref (ma 34), .ref (ma 35), .ref (ma 36), .ref (ma 37), .int 0, .ref (ma 39), .ref (ma 40), .ref (ma 41), .ref (ma 42), .ref (ma 43), .ref (ma 44), .ref (ma 45), .ref (ma 46), .ref (ma 47), .ref (ma 48), .int 0, .int 0, .int 0, .int 0, .int 0, .int 0, .int 0, .long 0, .int 0, .long 0, .long 0, .long 0, .long 0, .int 0, .int 0, .int 0, .int 0, .long 0])), (ma 11, .inl (G.2 4, 96, .inr (.inl (fun _ => 0))))]) (As := [.int p0, .int p1]) (rest := []) C0 (c_X9_dayWhy l G m0 ma p0 p1) ok_X9_dayWhy (mW450 : Cond.methodLink RX9 206 yX9_dayWhy ∈ wsT) ⟨Nat.le_of_ble_eq_true rfl, Nat.le_of_ble_eq_true rfl⟩ hP hD hK hN [0, 2] rfl (by decide) rfl rfl rfl rfl hl.1 rfl (Nat.le_of_ble_eq_true rfl) ⟨Nat.le_of_ble_eq_true rfl, Nat.le_of_ble_eq_true rfl⟩ dX9_free_8 (fun r_1 hr_1 => ?_)
  refine lv_istore (lv' := [(4, .int r_1), (0, .ref m0), (1, .int p0), (2, .int p1), (3, .int p2)]) hx hb dX9_free_11 hl (by decide) rfl (fun ls hl => ?_)
  refine lv_iload hx hb dX9_free_13 (lv_at hl 0 rfl) ?_
  refine lv_if_eq (tgt := 27) hx hb dX9_free_15 (by decide) (fun c_2 => absurd c_2 (xn0 hr_1)) (fun c_2 => ?_)
  refine lv_aload_n hx hb dX9_free_18 rfl (lv_at hl 1 rfl) ?_
  refine lv_iload hx hb dX9_free_19 (lv_at hl 0 rfl) ?_
  refine xVwi (rq := 0) (ci := 9) (wc := [(m0, .inr (9, [.int 0, .int 0, .int 0, .int (-1), .ref (ma 4), .ref (ma 5), .ref (ma 6), .ref (ma 7), .ref (ma 8), .ref (ma 9), .ref (ma 10), .ref (ma 11), .ref (ma 12), .ref (ma 13), .ref (ma 14), .ref (ma 15), .ref (ma 16), .ref (ma 17), .ref (ma 18), .ref (ma 19), .int 0, .ref (ma 21), .ref (ma 22), .ref (ma 23), .ref (ma 24), .ref (ma 25), .ref (ma 26), .ref (ma 27), .ref (ma 28), .ref (ma 29), .ref (ma 30), .ref (ma 31), .ref (ma 32), .ref (ma 33), .ref (ma 34), .ref (ma 35), .ref (ma 36), .ref (ma 37), .int 0, .ref (ma 39), .ref (ma 40), .ref (ma 41), .ref (ma 42), .ref (ma 43), .ref (ma 44), .ref (ma 45), .ref (ma 46), .ref (ma 47), .ref (ma 48), .int 0, .int 0, .int 0, .int 0, .int 0, .int 0, .int 0, .long 0, .int 0, .long 0, .long 0, .long 0, .long 0, .int 0, .int 0, .int 0, .int 0, .long 0])), (ma 39, .inl (G.2 0, 6, .inl (fun _ => 0)))]) (wr := [(ma 11, .inl (G.2 4, 96, .inr (.inl (fun _ => 0))))]) (As := [.int r_1]) (rest := []) C0 (c_X9_no l G m0 ma r_1 (xin6 hr_1)) ok_X9_no (mW177 : Cond.methodLink RX9 168 yX9_no ∈ wsT) ⟨Nat.le_of_ble_eq_true rfl, Nat.le_of_ble_eq_true rfl⟩ hP hD hS hA hK hN [0, 1] [2] rfl rfl (by decide) (by decide) (by decide) rfl rfl rfl rfl hl.1 rfl (Nat.le_of_ble_eq_true rfl) ⟨Nat.le_of_ble_eq_true rfl, Nat.le_of_ble_eq_true rfl⟩ dX9_free_21 (fun r_3 u_4 H locs hr_3 hP hD hS => ?_)
  have hP : va_P G.1 xcl [(ma 11, .inl (G.2 4, 96, .inr (.inl (fun _ => 0))))] H := hP
  have hD : va_D A [(ma 11, .inl (G.2 4, 96, .inr (.inl (fun _ => 0))))] := hD
  obtain rfl : r_3 = (-1) := hr_3
  refine lv_pop hx hb dX9_free_24 rfl ?_
  refine lv_iconst (v := 0) hx hb dX9_free_25 (by decide) ?_
  have hP9 := hP.sub (ws' := []) [] rfl
  have hD9 := hD.sub (ws' := []) [] (by decide) rfl
  exact W.zret (v := 0) (ty := .boolean) hx hb hr rfl (fun t ht hW => ⟨⟨0, (), rfl, rfl, by rw [ht]; exact hP9, hD9⟩, hS.F ht⟩) hS.2.2 dX9_free_26
theorem dX9_tons_0 : decode cX9_tons 0 = .ok (.aload_n 0, 1) := by decide +kernel
theorem dX9_tons_1 : decode cX9_tons 1 = .ok (.iconst 0, 1) := by decide +kernel
theorem dX9_tons_2 : decode cX9_tons 2 = .ok (.putfield 147, 3) := by decide +kernel
theorem dX9_tons_5 : decode cX9_tons 5 = .ok (.aload_n 0, 1) := by decide +kernel
theorem dX9_tons_6 : decode cX9_tons 6 = .ok (.iload_n 1, 1) := by decide +kernel
theorem dX9_tons_7 : decode cX9_tons 7 = .ok (.iconst 3, 1) := by decide +kernel
theorem dX9_tons_8 : decode cX9_tons 8 = .ok (.lload_n 2, 1) := by decide +kernel
theorem dX9_tons_9 : decode cX9_tons 9 = .ok (.ldc2_w 212, 3) := by decide +kernel
theorem dX9_tons_12 : decode cX9_tons 12 = .ok (.invokevirtual 214, 3) := by decide +kernel
theorem dX9_tons_15 : decode cX9_tons 15 = .ok (.ireturn, 1) := by decide +kernel
set_option maxHeartbeats 4000000 in
set_option maxRecDepth 100000 in
theorem c_X9_tons (l : Launch) (G : xG) (m0 : Nat) (ma : Nat → Nat) (p0 : Int32) (p1 : Int64)  : xWi l G yX9_tons cX9_tons 4 (some .boolean) 3 69 0 0 [.ref m0, .int p0, .long p1] [(m0, .inr (9, [.int 0, .int 0, .int 0, .int (-1), .ref (ma 4), .ref (ma 5), .ref (ma 6), .ref (ma 7), .ref (ma 8), .ref (ma 9), .ref (ma 10), .ref (ma 11), .ref (ma 12), .ref (ma 13), .ref (ma 14), .ref (ma 15), .ref (ma 16), .ref (ma 17), .ref (ma 18), .ref (ma 19), .int 0, .ref (ma 21), .ref (ma 22), .ref (ma 23), .ref (ma 24), .ref (ma 25), .ref (ma 26), .ref (ma 27), .ref (ma 28), .ref (ma 29), .ref (ma 30), .ref (ma 31), .ref (ma 32), .ref (ma 33), .ref (ma 34), .ref (ma 35), .ref (ma 36), .ref (ma 37), .int 0, .ref (ma 39), .ref (ma 40), .ref (ma 41), .ref (ma 42), .ref (ma 43), .ref (ma 44), .ref (ma 45), .ref (ma 46), .ref (ma 47), .ref (ma 48), .int 0, .int 0, .int 0, .int 0, .int 0, .int 0, .int 0, .long 0, .int 0, .long 0, .long 0, .long 0, .long 0, .int 0, .int 0, .int 0, .int 0, .long 0])), (ma 39, .inl (G.2 0, 6, .inl (fun _ => 0))), (ma 11, .inl (G.2 4, 96, .inr (.inl (fun _ => 0))))] (S := Unit) (fun r _ => r = 0) (fun _ => []) := by
  intro sz
  refine xstart (by decide) (Nat.le_of_ble_eq_true rfl) (fun p e s m args below meth c ls C0 hr hlocks hin hsz hP hK hD hN hl => ?_)
  obtain ⟨hx, hb, hml, hown, htl⟩ := id C0
  subst hsz
  have hD := hD.self (sz := s.heap.size)
  generalize hAe : va_A [(m0, .inr (9, [.int 0, .int 0, .int 0, .int (-1), .ref (ma 4), .ref (ma 5), .ref (ma 6), .ref (ma 7), .ref (ma 8), .ref (ma 9), .ref (ma 10), .ref (ma 11), .ref (ma 12), .ref (ma 13), .ref (ma 14), .ref (ma 15), .ref (ma 16), .ref (ma 17), .ref (ma 18), .ref (ma 19), .int 0, .ref (ma 21), .ref (ma 22), .ref (ma 23), .ref (ma 24), .ref (ma 25), .ref (ma 26), .ref (ma 27), .ref (ma 28), .ref (ma 29), .ref (ma 30), .ref (ma 31), .ref (ma 32), .ref (ma 33), .ref (ma 34), .ref (ma 35), .ref (ma 36), .ref (ma 37), .int 0, .ref (ma 39), .ref (ma 40), .ref (ma 41), .ref (ma 42), .ref (ma 43), .ref (ma 44), .ref (ma 45), .ref (ma 46), .ref (ma 47), .ref (ma 48), .int 0, .int 0, .int 0, .int 0, .int 0, .int 0, .int 0, .long 0, .int 0, .long 0, .long 0, .long 0, .long 0, .int 0, .int 0, .int 0, .int 0, .long 0])), (ma 39, .inl (G.2 0, 6, .inl (fun _ => 0))), (ma 11, .inl (G.2 4, 96, .inr (.inl (fun _ => 0))))] s.heap.size = A at hD ⊢
  have hA : ∀ q : Nat, s.heap.size ≤ q → A q := fun q h => by rw [← hAe]; exact Or.inr h
  have hS : va_S A s.heap s.heap [] := va_S.rf
  have hl : lv_has ls 4 [(0, .ref m0), (1, .int p0), (2, .long p1)] := hl
  refine lv_aload_n hx hb dX9_tons_0 rfl (lv_at hl 0 rfl) ?_
  refine lv_iconst (v := 0) hx hb dX9_tons_1 (by decide) ?_
  refine va_put (D := G.1) (ci := 9) (v := .int 0) (ty := .int) (C := RX9) (T := TX9) (N := 67) hx hb htl inlX9 tyX9 tyX9_ok nmX9 hown hK hP hD hS 0 rfl rfl 38 (by decide) (htl (.fieldLink RX9 147 "LaytimeDeskModel" "reason" "I") mW175) (fun _ h9 => h9) rfl (by decide +kernel) rfl rfl (Nat.le_of_ble_eq_true rfl) dX9_tons_2 (fun H locs hP hD hS => ?_)
  have hP : va_P G.1 xcl [(m0, .inr (9, [.int 0, .int 0, .int 0, .int (-1), .ref (ma 4), .ref (ma 5), .ref (ma 6), .ref (ma 7), .ref (ma 8), .ref (ma 9), .ref (ma 10), .ref (ma 11), .ref (ma 12), .ref (ma 13), .ref (ma 14), .ref (ma 15), .ref (ma 16), .ref (ma 17), .ref (ma 18), .ref (ma 19), .int 0, .ref (ma 21), .ref (ma 22), .ref (ma 23), .ref (ma 24), .ref (ma 25), .ref (ma 26), .ref (ma 27), .ref (ma 28), .ref (ma 29), .ref (ma 30), .ref (ma 31), .ref (ma 32), .ref (ma 33), .ref (ma 34), .ref (ma 35), .ref (ma 36), .ref (ma 37), .int 0, .ref (ma 39), .ref (ma 40), .ref (ma 41), .ref (ma 42), .ref (ma 43), .ref (ma 44), .ref (ma 45), .ref (ma 46), .ref (ma 47), .ref (ma 48), .int 0, .int 0, .int 0, .int 0, .int 0, .int 0, .int 0, .long 0, .int 0, .long 0, .long 0, .long 0, .long 0, .int 0, .int 0, .int 0, .int 0, .long 0])), (ma 39, .inl (G.2 0, 6, .inl (fun _ => 0))), (ma 11, .inl (G.2 4, 96, .inr (.inl (fun _ => 0))))] H := hP
  have hD : va_D A [(m0, .inr (9, [.int 0, .int 0, .int 0, .int (-1), .ref (ma 4), .ref (ma 5), .ref (ma 6), .ref (ma 7), .ref (ma 8), .ref (ma 9), .ref (ma 10), .ref (ma 11), .ref (ma 12), .ref (ma 13), .ref (ma 14), .ref (ma 15), .ref (ma 16), .ref (ma 17), .ref (ma 18), .ref (ma 19), .int 0, .ref (ma 21), .ref (ma 22), .ref (ma 23), .ref (ma 24), .ref (ma 25), .ref (ma 26), .ref (ma 27), .ref (ma 28), .ref (ma 29), .ref (ma 30), .ref (ma 31), .ref (ma 32), .ref (ma 33), .ref (ma 34), .ref (ma 35), .ref (ma 36), .ref (ma 37), .int 0, .ref (ma 39), .ref (ma 40), .ref (ma 41), .ref (ma 42), .ref (ma 43), .ref (ma 44), .ref (ma 45), .ref (ma 46), .ref (ma 47), .ref (ma 48), .int 0, .int 0, .int 0, .int 0, .int 0, .int 0, .int 0, .long 0, .int 0, .long 0, .long 0, .long 0, .long 0, .int 0, .int 0, .int 0, .int 0, .long 0])), (ma 39, .inl (G.2 0, 6, .inl (fun _ => 0))), (ma 11, .inl (G.2 4, 96, .inr (.inl (fun _ => 0))))] := hD
  refine lv_aload_n hx hb dX9_tons_5 rfl (lv_at hl 0 rfl) ?_
  refine lv_iload_n hx hb dX9_tons_6 rfl (lv_at hl 1 rfl) ?_
  refine lv_iconst (v := 3) hx hb dX9_tons_7 (by decide) ?_
  refine lv_lload_n hx hb dX9_tons_8 rfl (lv_at hl 2 rfl) ?_
  refine lv_ldc2 (v := 100000000) hx hb hown (htl (.constantLong RX9 212 (100000000)) mW512) dX9_tons_9 ?_
  refine xVwi (rq := 0) (ci := 9) (wc := [(m0, .inr (9, [.int 0, .int 0, .int 0, .int (-1), .ref (ma 4), .ref (ma 5), .ref (ma 6), .ref (ma 7), .ref (ma 8), .ref (ma 9), .ref (ma 10), .ref (ma 11), .ref (ma 12), .ref (ma 13), .ref (ma 14), .ref (ma 15), .ref (ma 16), .ref (ma 17), .ref (ma 18), .ref (ma 19), .int 0, .ref (ma 21), .ref (ma 22), .ref (ma 23), .ref (ma 24), .ref (ma 25), .ref (ma 26), .ref (ma 27), .ref (ma 28), .ref (ma 29), .ref (ma 30), .ref (ma 31), .ref (ma 32), .ref (ma 33), .ref (ma 34), .ref (ma 35), .ref (ma 36), .ref (ma 37), .int 0, .ref (ma 39), .ref (ma 40), .ref (ma 41), .ref (ma 42), .ref (ma 43), .ref (ma 44), .ref (ma 45), .ref (ma 46), .ref (ma 47), .ref (ma 48), .int 0, .int 0, .int 0, .int 0, .int 0, .int 0, .int 0, .long 0, .int 0, .long 0, .long 0, .long 0, .long 0, .int 0, .int 0, .int 0, .int 0, .long 0])), (ma 39, .inl (G.2 0, 6, .inl (fun _ => 0))), (ma 11, .inl (G.2 4, 96, .inr (.inl (fun _ => 0))))]) (wr := []) (As := [.int p0, .int 3, .long p1, .long 100000000]) (rest := []) C0 (c_X9_put l G m0 ma p0 3 p1 100000000) ok_X9_put (mW513 : Cond.methodLink RX9 214 yX9_put ∈ wsT) ⟨Nat.le_of_ble_eq_true rfl, Nat.le_of_ble_eq_true rfl⟩ hP hD hS hA hK hN [0, 1, 2] [] rfl rfl (by decide) (by decide) (by decide) rfl rfl rfl rfl hl.1 rfl (Nat.le_of_ble_eq_true rfl) ⟨Nat.le_of_ble_eq_true rfl, Nat.le_of_ble_eq_true rfl⟩ dX9_tons_12 (fun r_1 u_2 H locs hr_1 hP hD hS => ?_)
  have hP : va_P G.1 xcl [] H := hP
  have hD : va_D A [] := hD
  obtain rfl : r_1 = 0 := hr_1
  have hP9 := hP.sub (ws' := []) [] rfl
  have hD9 := hD.sub (ws' := []) [] (by decide) rfl
  exact W.zret (v := 0) (ty := .boolean) hx hb hr rfl (fun t ht hW => ⟨⟨0, (), rfl, rfl, by rw [ht]; exact hP9, hD9⟩, hS.F ht⟩) hS.2.2 dX9_tons_15
theorem dX9_office_0 : decode cX9_office 0 = .ok (.aload_n 0, 1) := by decide +kernel
theorem dX9_office_1 : decode cX9_office 1 = .ok (.iconst 0, 1) := by decide +kernel
theorem dX9_office_2 : decode cX9_office 2 = .ok (.putfield 147, 3) := by decide +kernel
theorem dX9_office_5 : decode cX9_office 5 = .ok (.iload_n 2, 1) := by decide +kernel
theorem dX9_office_6 : decode cX9_office 6 = .ok (.ifCond .lt 33, 3) := by decide +kernel
theorem dX9_office_9 : decode cX9_office 9 = .ok (.iload_n 2, 1) := by decide +kernel
theorem dX9_office_10 : decode cX9_office 10 = .ok (.sipush 1440, 3) := by decide +kernel
theorem dX9_office_13 : decode cX9_office 13 = .ok (.if_icmp .gt 26, 3) := by decide +kernel
theorem dX9_office_16 : decode cX9_office 16 = .ok (.iload_n 3, 1) := by decide +kernel
theorem dX9_office_17 : decode cX9_office 17 = .ok (.ifCond .lt 22, 3) := by decide +kernel
theorem dX9_office_20 : decode cX9_office 20 = .ok (.iload_n 3, 1) := by decide +kernel
theorem dX9_office_21 : decode cX9_office 21 = .ok (.sipush 1440, 3) := by decide +kernel
theorem dX9_office_24 : decode cX9_office 24 = .ok (.if_icmp .gt 15, 3) := by decide +kernel
theorem dX9_office_27 : decode cX9_office 27 = .ok (.iload 4, 2) := by decide +kernel
theorem dX9_office_29 : decode cX9_office 29 = .ok (.ifCond .lt 10, 3) := by decide +kernel
theorem dX9_office_32 : decode cX9_office 32 = .ok (.iload 4, 2) := by decide +kernel
theorem dX9_office_34 : decode cX9_office 34 = .ok (.ldc 218, 2) := by decide +kernel
theorem dX9_office_36 : decode cX9_office 36 = .ok (.if_icmp .le 7, 3) := by decide +kernel
theorem dX9_office_39 : decode cX9_office 39 = .ok (.iconst 1, 1) := by decide +kernel
theorem dX9_office_40 : decode cX9_office 40 = .ok (.goto 8, 3) := by decide +kernel
theorem dX9_office_43 : decode cX9_office 43 = .ok (.aload_n 0, 1) := by decide +kernel
theorem dX9_office_44 : decode cX9_office 44 = .ok (.iload_n 1, 1) := by decide +kernel
theorem dX9_office_45 : decode cX9_office 45 = .ok (.invokevirtual 165, 3) := by decide +kernel
theorem dX9_office_48 : decode cX9_office 48 = .ok (.istore 5, 2) := by decide +kernel
theorem dX9_office_50 : decode cX9_office 50 = .ok (.iload 5, 2) := by decide +kernel
theorem dX9_office_52 : decode cX9_office 52 = .ok (.ifCond .eq 12, 3) := by decide +kernel
theorem dX9_office_55 : decode cX9_office 55 = .ok (.aload_n 0, 1) := by decide +kernel
theorem dX9_office_56 : decode cX9_office 56 = .ok (.iload 5, 2) := by decide +kernel
theorem dX9_office_58 : decode cX9_office 58 = .ok (.invokevirtual 168, 3) := by decide +kernel
theorem dX9_office_61 : decode cX9_office 61 = .ok (.pop, 1) := by decide +kernel
theorem dX9_office_62 : decode cX9_office 62 = .ok (.iconst 0, 1) := by decide +kernel
theorem dX9_office_63 : decode cX9_office 63 = .ok (.ireturn, 1) := by decide +kernel
set_option maxHeartbeats 4000000 in
set_option maxRecDepth 100000 in
theorem c_X9_office (l : Launch) (G : xG) (m0 : Nat) (ma : Nat → Nat) (p0 : Int32) (p1 : Int32) (p2 : Int32) (p3 : Int32)  : xWi l G yX9_office cX9_office 6 (some .boolean) 2 42 0 0 [.ref m0, .int p0, .int p1, .int p2, .int p3] [(m0, .inr (9, [.int 0, .int 0, .int 0, .int (-1), .ref (ma 4), .ref (ma 5), .ref (ma 6), .ref (ma 7), .ref (ma 8), .ref (ma 9), .ref (ma 10), .ref (ma 11), .ref (ma 12), .ref (ma 13), .ref (ma 14), .ref (ma 15), .ref (ma 16), .ref (ma 17), .ref (ma 18), .ref (ma 19), .int 0, .ref (ma 21), .ref (ma 22), .ref (ma 23), .ref (ma 24), .ref (ma 25), .ref (ma 26), .ref (ma 27), .ref (ma 28), .ref (ma 29), .ref (ma 30), .ref (ma 31), .ref (ma 32), .ref (ma 33), .ref (ma 34), .ref (ma 35), .ref (ma 36), .ref (ma 37), .int 0, .ref (ma 39), .ref (ma 40), .ref (ma 41), .ref (ma 42), .ref (ma 43), .ref (ma 44), .ref (ma 45), .ref (ma 46), .ref (ma 47), .ref (ma 48), .int 0, .int 0, .int 0, .int 0, .int 0, .int 0, .int 0, .long 0, .int 0, .long 0, .long 0, .long 0, .long 0, .int 0, .int 0, .int 0, .int 0, .long 0])), (ma 39, .inl (G.2 0, 6, .inl (fun _ => 0))), (ma 11, .inl (G.2 4, 96, .inr (.inl (fun _ => 0))))] (S := Unit) (fun r _ => r = 0) (fun _ => []) := by
  intro sz
  refine xstart (by decide) (Nat.le_of_ble_eq_true rfl) (fun p e s m args below meth c ls C0 hr hlocks hin hsz hP hK hD hN hl => ?_)
  obtain ⟨hx, hb, hml, hown, htl⟩ := id C0
  subst hsz
  have hD := hD.self (sz := s.heap.size)
  generalize hAe : va_A [(m0, .inr (9, [.int 0, .int 0, .int 0, .int (-1), .ref (ma 4), .ref (ma 5), .ref (ma 6), .ref (ma 7), .ref (ma 8), .ref (ma 9), .ref (ma 10), .ref (ma 11), .ref (ma 12), .ref (ma 13), .ref (ma 14), .ref (ma 15), .ref (ma 16), .ref (ma 17), .ref (ma 18), .ref (ma 19), .int 0, .ref (ma 21), .ref (ma 22), .ref (ma 23), .ref (ma 24), .ref (ma 25), .ref (ma 26), .ref (ma 27), .ref (ma 28), .ref (ma 29), .ref (ma 30), .ref (ma 31), .ref (ma 32), .ref (ma 33), .ref (ma 34), .ref (ma 35), .ref (ma 36), .ref (ma 37), .int 0, .ref (ma 39), .ref (ma 40), .ref (ma 41), .ref (ma 42), .ref (ma 43), .ref (ma 44), .ref (ma 45), .ref (ma 46), .ref (ma 47), .ref (ma 48), .int 0, .int 0, .int 0, .int 0, .int 0, .int 0, .int 0, .long 0, .int 0, .long 0, .long 0, .long 0, .long 0, .int 0, .int 0, .int 0, .int 0, .long 0])), (ma 39, .inl (G.2 0, 6, .inl (fun _ => 0))), (ma 11, .inl (G.2 4, 96, .inr (.inl (fun _ => 0))))] s.heap.size = A at hD ⊢
  have hA : ∀ q : Nat, s.heap.size ≤ q → A q := fun q h => by rw [← hAe]; exact Or.inr h
  have hS : va_S A s.heap s.heap [] := va_S.rf
  have hl : lv_has ls 6 [(0, .ref m0), (1, .int p0), (2, .int p1), (3, .int p2), (4, .int p3)] := hl
  refine lv_aload_n hx hb dX9_office_0 rfl (lv_at hl 0 rfl) ?_
  refine lv_iconst (v := 0) hx hb dX9_office_1 (by decide) ?_
  refine va_put (D := G.1) (ci := 9) (v := .int 0) (ty := .int) (C := RX9) (T := TX9) (N := 67) hx hb htl inlX9 tyX9 tyX9_ok nmX9 hown hK hP hD hS 0 rfl rfl 38 (by decide) (htl (.fieldLink RX9 147 "LaytimeDeskModel" "reason" "I") mW175) (fun _ h9 => h9) rfl (by decide +kernel) rfl rfl (Nat.le_of_ble_eq_true rfl) dX9_office_2 (fun H locs hP hD hS => ?_)
  have hP : va_P G.1 xcl [(m0, .inr (9, [.int 0, .int 0, .int 0, .int (-1), .ref (ma 4), .ref (ma 5), .ref (ma 6), .ref (ma 7), .ref (ma 8), .ref (ma 9), .ref (ma 10), .ref (ma 11), .ref (ma 12), .ref (ma 13), .ref (ma 14), .ref (ma 15), .ref (ma 16), .ref (ma 17), .ref (ma 18), .ref (ma 19), .int 0, .ref (ma 21), .ref (ma 22), .ref (ma 23), .ref (ma 24), .ref (ma 25), .ref (ma 26), .ref (ma 27), .ref (ma 28), .ref (ma 29), .ref (ma 30), .ref (ma 31), .ref (ma 32), .ref (ma 33), .ref (ma 34), .ref (ma 35), .ref (ma 36), .ref (ma 37), .int 0, .ref (ma 39), .ref (ma 40), .ref (ma 41), .ref (ma 42), .ref (ma 43), .ref (ma 44), .ref (ma 45), .ref (ma 46), .ref (ma 47), .ref (ma 48), .int 0, .int 0, .int 0, .int 0, .int 0, .int 0, .int 0, .long 0, .int 0, .long 0, .long 0, .long 0, .long 0, .int 0, .int 0, .int 0, .int 0, .long 0])), (ma 39, .inl (G.2 0, 6, .inl (fun _ => 0))), (ma 11, .inl (G.2 4, 96, .inr (.inl (fun _ => 0))))] H := hP
  have hD : va_D A [(m0, .inr (9, [.int 0, .int 0, .int 0, .int (-1), .ref (ma 4), .ref (ma 5), .ref (ma 6), .ref (ma 7), .ref (ma 8), .ref (ma 9), .ref (ma 10), .ref (ma 11), .ref (ma 12), .ref (ma 13), .ref (ma 14), .ref (ma 15), .ref (ma 16), .ref (ma 17), .ref (ma 18), .ref (ma 19), .int 0, .ref (ma 21), .ref (ma 22), .ref (ma 23), .ref (ma 24), .ref (ma 25), .ref (ma 26), .ref (ma 27), .ref (ma 28), .ref (ma 29), .ref (ma 30), .ref (ma 31), .ref (ma 32), .ref (ma 33), .ref (ma 34), .ref (ma 35), .ref (ma 36), .ref (ma 37), .int 0, .ref (ma 39), .ref (ma 40), .ref (ma 41), .ref (ma 42), .ref (ma 43), .ref (ma 44), .ref (ma 45), .ref (ma 46), .ref (ma 47), .ref (ma 48), .int 0, .int 0, .int 0, .int 0, .int 0, .int 0, .int 0, .long 0, .int 0, .long 0, .long 0, .long 0, .long 0, .int 0, .int 0, .int 0, .int 0, .long 0])), (ma 39, .inl (G.2 0, 6, .inl (fun _ => 0))), (ma 11, .inl (G.2 4, 96, .inr (.inl (fun _ => 0))))] := hD
  refine lv_iload_n hx hb dX9_office_5 rfl (lv_at hl 2 rfl) ?_
  refine lv_if_lt (tgt := 39) hx hb dX9_office_6 (by decide) (fun c_1 => ?_) (fun c_1 => ?_)
  · refine lv_iconst (v := 1) hx hb dX9_office_39 (by decide) ?_
    refine lv_goto (tgt := 48) hx hb dX9_office_40 (by decide) ?_
    refine lv_istore (lv' := [(5, .int 1), (0, .ref m0), (1, .int p0), (2, .int p1), (3, .int p2), (4, .int p3)]) hx hb dX9_office_48 hl (by decide) rfl (fun ls hl => ?_)
    refine lv_iload hx hb dX9_office_50 (lv_at hl 0 rfl) ?_
    refine lv_if_eq (tgt := 64) hx hb dX9_office_52 (by decide) (fun c_2 => absurd c_2 (by decide +kernel)) (fun c_2 => ?_)
    refine lv_aload_n hx hb dX9_office_55 rfl (lv_at hl 1 rfl) ?_
    refine lv_iload hx hb dX9_office_56 (lv_at hl 0 rfl) ?_
    refine xVwi (rq := 0) (ci := 9) (wc := [(m0, .inr (9, [.int 0, .int 0, .int 0, .int (-1), .ref (ma 4), .ref (ma 5), .ref (ma 6), .ref (ma 7), .ref (ma 8), .ref (ma 9), .ref (ma 10), .ref (ma 11), .ref (ma 12), .ref (ma 13), .ref (ma 14), .ref (ma 15), .ref (ma 16), .ref (ma 17), .ref (ma 18), .ref (ma 19), .int 0, .ref (ma 21), .ref (ma 22), .ref (ma 23), .ref (ma 24), .ref (ma 25), .ref (ma 26), .ref (ma 27), .ref (ma 28), .ref (ma 29), .ref (ma 30), .ref (ma 31), .ref (ma 32), .ref (ma 33), .ref (ma 34), .ref (ma 35), .ref (ma 36), .ref (ma 37), .int 0, .ref (ma 39), .ref (ma 40), .ref (ma 41), .ref (ma 42), .ref (ma 43), .ref (ma 44), .ref (ma 45), .ref (ma 46), .ref (ma 47), .ref (ma 48), .int 0, .int 0, .int 0, .int 0, .int 0, .int 0, .int 0, .long 0, .int 0, .long 0, .long 0, .long 0, .long 0, .int 0, .int 0, .int 0, .int 0, .long 0])), (ma 39, .inl (G.2 0, 6, .inl (fun _ => 0)))]) (wr := [(ma 11, .inl (G.2 4, 96, .inr (.inl (fun _ => 0))))]) (As := [.int 1]) (rest := []) C0 (c_X9_no l G m0 ma 1 (by unfold vp_in; decide +kernel)) ok_X9_no (mW177 : Cond.methodLink RX9 168 yX9_no ∈ wsT) ⟨Nat.le_of_ble_eq_true rfl, Nat.le_of_ble_eq_true rfl⟩ hP hD hS hA hK hN [0, 1] [2] rfl rfl (by decide) (by decide) (by decide) rfl rfl rfl rfl hl.1 rfl (Nat.le_of_ble_eq_true rfl) ⟨Nat.le_of_ble_eq_true rfl, Nat.le_of_ble_eq_true rfl⟩ dX9_office_58 (fun r_3 u_4 H locs hr_3 hP hD hS => ?_)
    have hP : va_P G.1 xcl [(ma 11, .inl (G.2 4, 96, .inr (.inl (fun _ => 0))))] H := hP
    have hD : va_D A [(ma 11, .inl (G.2 4, 96, .inr (.inl (fun _ => 0))))] := hD
    obtain rfl : r_3 = (-1) := hr_3
    refine lv_pop hx hb dX9_office_61 rfl ?_
    refine lv_iconst (v := 0) hx hb dX9_office_62 (by decide) ?_
    have hP9 := hP.sub (ws' := []) [] rfl
    have hD9 := hD.sub (ws' := []) [] (by decide) rfl
    exact W.zret (v := 0) (ty := .boolean) hx hb hr rfl (fun t ht hW => ⟨⟨0, (), rfl, rfl, by rw [ht]; exact hP9, hD9⟩, hS.F ht⟩) hS.2.2 dX9_office_63
  · refine lv_iload_n hx hb dX9_office_9 rfl (lv_at hl 2 rfl) ?_
    refine lv_sipush (v := 1440) hx hb dX9_office_10 (by decide) ?_
    refine lv_icmp_gt (tgt := 39) hx hb dX9_office_13 (by decide) (fun c_5 => ?_) (fun c_5 => ?_)
    · refine lv_iconst (v := 1) hx hb dX9_office_39 (by decide) ?_
      refine lv_goto (tgt := 48) hx hb dX9_office_40 (by decide) ?_
      refine lv_istore (lv' := [(5, .int 1), (0, .ref m0), (1, .int p0), (2, .int p1), (3, .int p2), (4, .int p3)]) hx hb dX9_office_48 hl (by decide) rfl (fun ls hl => ?_)
      refine lv_iload hx hb dX9_office_50 (lv_at hl 0 rfl) ?_
      refine lv_if_eq (tgt := 64) hx hb dX9_office_52 (by decide) (fun c_6 => absurd c_6 (by decide +kernel)) (fun c_6 => ?_)
      refine lv_aload_n hx hb dX9_office_55 rfl (lv_at hl 1 rfl) ?_
      refine lv_iload hx hb dX9_office_56 (lv_at hl 0 rfl) ?_
      refine xVwi (rq := 0) (ci := 9) (wc := [(m0, .inr (9, [.int 0, .int 0, .int 0, .int (-1), .ref (ma 4), .ref (ma 5), .ref (ma 6), .ref (ma 7), .ref (ma 8), .ref (ma 9), .ref (ma 10), .ref (ma 11), .ref (ma 12), .ref (ma 13), .ref (ma 14), .ref (ma 15), .ref (ma 16), .ref (ma 17), .ref (ma 18), .ref (ma 19), .int 0, .ref (ma 21), .ref (ma 22), .ref (ma 23), .ref (ma 24), .ref (ma 25), .ref (ma 26), .ref (ma 27), .ref (ma 28), .ref (ma 29), .ref (ma 30), .ref (ma 31), .ref (ma 32), .ref (ma 33), .ref (ma 34), .ref (ma 35), .ref (ma 36), .ref (ma 37), .int 0, .ref (ma 39), .ref (ma 40), .ref (ma 41), .ref (ma 42), .ref (ma 43), .ref (ma 44), .ref (ma 45), .ref (ma 46), .ref (ma 47), .ref (ma 48), .int 0, .int 0, .int 0, .int 0, .int 0, .int 0, .int 0, .long 0, .int 0, .long 0, .long 0, .long 0, .long 0, .int 0, .int 0, .int 0, .int 0, .long 0])), (ma 39, .inl (G.2 0, 6, .inl (fun _ => 0)))]) (wr := [(ma 11, .inl (G.2 4, 96, .inr (.inl (fun _ => 0))))]) (As := [.int 1]) (rest := []) C0 (c_X9_no l G m0 ma 1 (by unfold vp_in; decide +kernel)) ok_X9_no (mW177 : Cond.methodLink RX9 168 yX9_no ∈ wsT) ⟨Nat.le_of_ble_eq_true rfl, Nat.le_of_ble_eq_true rfl⟩ hP hD hS hA hK hN [0, 1] [2] rfl rfl (by decide) (by decide) (by decide) rfl rfl rfl rfl hl.1 rfl (Nat.le_of_ble_eq_true rfl) ⟨Nat.le_of_ble_eq_true rfl, Nat.le_of_ble_eq_true rfl⟩ dX9_office_58 (fun r_7 u_8 H locs hr_7 hP hD hS => ?_)
      have hP : va_P G.1 xcl [(ma 11, .inl (G.2 4, 96, .inr (.inl (fun _ => 0))))] H := hP
      have hD : va_D A [(ma 11, .inl (G.2 4, 96, .inr (.inl (fun _ => 0))))] := hD
      obtain rfl : r_7 = (-1) := hr_7
      refine lv_pop hx hb dX9_office_61 rfl ?_
      refine lv_iconst (v := 0) hx hb dX9_office_62 (by decide) ?_
      have hP9 := hP.sub (ws' := []) [] rfl
      have hD9 := hD.sub (ws' := []) [] (by decide) rfl
      exact W.zret (v := 0) (ty := .boolean) hx hb hr rfl (fun t ht hW => ⟨⟨0, (), rfl, rfl, by rw [ht]; exact hP9, hD9⟩, hS.F ht⟩) hS.2.2 dX9_office_63
    · refine lv_iload_n hx hb dX9_office_16 rfl (lv_at hl 3 rfl) ?_
      refine lv_if_lt (tgt := 39) hx hb dX9_office_17 (by decide) (fun c_9 => ?_) (fun c_9 => ?_)
      · refine lv_iconst (v := 1) hx hb dX9_office_39 (by decide) ?_
        refine lv_goto (tgt := 48) hx hb dX9_office_40 (by decide) ?_
        refine lv_istore (lv' := [(5, .int 1), (0, .ref m0), (1, .int p0), (2, .int p1), (3, .int p2), (4, .int p3)]) hx hb dX9_office_48 hl (by decide) rfl (fun ls hl => ?_)
        refine lv_iload hx hb dX9_office_50 (lv_at hl 0 rfl) ?_
        refine lv_if_eq (tgt := 64) hx hb dX9_office_52 (by decide) (fun c_10 => absurd c_10 (by decide +kernel)) (fun c_10 => ?_)
        refine lv_aload_n hx hb dX9_office_55 rfl (lv_at hl 1 rfl) ?_
        refine lv_iload hx hb dX9_office_56 (lv_at hl 0 rfl) ?_
        refine xVwi (rq := 0) (ci := 9) (wc := [(m0, .inr (9, [.int 0, .int 0, .int 0, .int (-1), .ref (ma 4), .ref (ma 5), .ref (ma 6), .ref (ma 7), .ref (ma 8), .ref (ma 9), .ref (ma 10), .ref (ma 11), .ref (ma 12), .ref (ma 13), .ref (ma 14), .ref (ma 15), .ref (ma 16), .ref (ma 17), .ref (ma 18), .ref (ma 19), .int 0, .ref (ma 21), .ref (ma 22), .ref (ma 23), .ref (ma 24), .ref (ma 25), .ref (ma 26), .ref (ma 27), .ref (ma 28), .ref (ma 29), .ref (ma 30), .ref (ma 31), .ref (ma 32), .ref (ma 33), .ref (ma 34), .ref (ma 35), .ref (ma 36), .ref (ma 37), .int 0, .ref (ma 39), .ref (ma 40), .ref (ma 41), .ref (ma 42), .ref (ma 43), .ref (ma 44), .ref (ma 45), .ref (ma 46), .ref (ma 47), .ref (ma 48), .int 0, .int 0, .int 0, .int 0, .int 0, .int 0, .int 0, .long 0, .int 0, .long 0, .long 0, .long 0, .long 0, .int 0, .int 0, .int 0, .int 0, .long 0])), (ma 39, .inl (G.2 0, 6, .inl (fun _ => 0)))]) (wr := [(ma 11, .inl (G.2 4, 96, .inr (.inl (fun _ => 0))))]) (As := [.int 1]) (rest := []) C0 (c_X9_no l G m0 ma 1 (by unfold vp_in; decide +kernel)) ok_X9_no (mW177 : Cond.methodLink RX9 168 yX9_no ∈ wsT) ⟨Nat.le_of_ble_eq_true rfl, Nat.le_of_ble_eq_true rfl⟩ hP hD hS hA hK hN [0, 1] [2] rfl rfl (by decide) (by decide) (by decide) rfl rfl rfl rfl hl.1 rfl (Nat.le_of_ble_eq_true rfl) ⟨Nat.le_of_ble_eq_true rfl, Nat.le_of_ble_eq_true rfl⟩ dX9_office_58 (fun r_11 u_12 H locs hr_11 hP hD hS => ?_)
        have hP : va_P G.1 xcl [(ma 11, .inl (G.2 4, 96, .inr (.inl (fun _ => 0))))] H := hP
        have hD : va_D A [(ma 11, .inl (G.2 4, 96, .inr (.inl (fun _ => 0))))] := hD
        obtain rfl : r_11 = (-1) := hr_11
        refine lv_pop hx hb dX9_office_61 rfl ?_
        refine lv_iconst (v := 0) hx hb dX9_office_62 (by decide) ?_
        have hP9 := hP.sub (ws' := []) [] rfl
        have hD9 := hD.sub (ws' := []) [] (by decide) rfl
        exact W.zret (v := 0) (ty := .boolean) hx hb hr rfl (fun t ht hW => ⟨⟨0, (), rfl, rfl, by rw [ht]; exact hP9, hD9⟩, hS.F ht⟩) hS.2.2 dX9_office_63
      · refine lv_iload_n hx hb dX9_office_20 rfl (lv_at hl 3 rfl) ?_
        refine lv_sipush (v := 1440) hx hb dX9_office_21 (by decide) ?_
        refine lv_icmp_gt (tgt := 39) hx hb dX9_office_24 (by decide) (fun c_13 => ?_) (fun c_13 => ?_)
        · refine lv_iconst (v := 1) hx hb dX9_office_39 (by decide) ?_
          refine lv_goto (tgt := 48) hx hb dX9_office_40 (by decide) ?_
          refine lv_istore (lv' := [(5, .int 1), (0, .ref m0), (1, .int p0), (2, .int p1), (3, .int p2), (4, .int p3)]) hx hb dX9_office_48 hl (by decide) rfl (fun ls hl => ?_)
          refine lv_iload hx hb dX9_office_50 (lv_at hl 0 rfl) ?_
          refine lv_if_eq (tgt := 64) hx hb dX9_office_52 (by decide) (fun c_14 => absurd c_14 (by decide +kernel)) (fun c_14 => ?_)
          refine lv_aload_n hx hb dX9_office_55 rfl (lv_at hl 1 rfl) ?_
          refine lv_iload hx hb dX9_office_56 (lv_at hl 0 rfl) ?_
          refine xVwi (rq := 0) (ci := 9) (wc := [(m0, .inr (9, [.int 0, .int 0, .int 0, .int (-1), .ref (ma 4), .ref (ma 5), .ref (ma 6), .ref (ma 7), .ref (ma 8), .ref (ma 9), .ref (ma 10), .ref (ma 11), .ref (ma 12), .ref (ma 13), .ref (ma 14), .ref (ma 15), .ref (ma 16), .ref (ma 17), .ref (ma 18), .ref (ma 19), .int 0, .ref (ma 21), .ref (ma 22), .ref (ma 23), .ref (ma 24), .ref (ma 25), .ref (ma 26), .ref (ma 27), .ref (ma 28), .ref (ma 29), .ref (ma 30), .ref (ma 31), .ref (ma 32), .ref (ma 33), .ref (ma 34), .ref (ma 35), .ref (ma 36), .ref (ma 37), .int 0, .ref (ma 39), .ref (ma 40), .ref (ma 41), .ref (ma 42), .ref (ma 43), .ref (ma 44), .ref (ma 45), .ref (ma 46), .ref (ma 47), .ref (ma 48), .int 0, .int 0, .int 0, .int 0, .int 0, .int 0, .int 0, .long 0, .int 0, .long 0, .long 0, .long 0, .long 0, .int 0, .int 0, .int 0, .int 0, .long 0])), (ma 39, .inl (G.2 0, 6, .inl (fun _ => 0)))]) (wr := [(ma 11, .inl (G.2 4, 96, .inr (.inl (fun _ => 0))))]) (As := [.int 1]) (rest := []) C0 (c_X9_no l G m0 ma 1 (by unfold vp_in; decide +kernel)) ok_X9_no (mW177 : Cond.methodLink RX9 168 yX9_no ∈ wsT) ⟨Nat.le_of_ble_eq_true rfl, Nat.le_of_ble_eq_true rfl⟩ hP hD hS hA hK hN [0, 1] [2] rfl rfl (by decide) (by decide) (by decide) rfl rfl rfl rfl hl.1 rfl (Nat.le_of_ble_eq_true rfl) ⟨Nat.le_of_ble_eq_true rfl, Nat.le_of_ble_eq_true rfl⟩ dX9_office_58 (fun r_15 u_16 H locs hr_15 hP hD hS => ?_)
          have hP : va_P G.1 xcl [(ma 11, .inl (G.2 4, 96, .inr (.inl (fun _ => 0))))] H := hP
          have hD : va_D A [(ma 11, .inl (G.2 4, 96, .inr (.inl (fun _ => 0))))] := hD
          obtain rfl : r_15 = (-1) := hr_15
          refine lv_pop hx hb dX9_office_61 rfl ?_
          refine lv_iconst (v := 0) hx hb dX9_office_62 (by decide) ?_
          have hP9 := hP.sub (ws' := []) [] rfl
          have hD9 := hD.sub (ws' := []) [] (by decide) rfl
          exact W.zret (v := 0) (ty := .boolean) hx hb hr rfl (fun t ht hW => ⟨⟨0, (), rfl, rfl, by rw [ht]; exact hP9, hD9⟩, hS.F ht⟩) hS.2.2 dX9_office_63
        · refine lv_iload hx hb dX9_office_27 (lv_at hl 4 rfl) ?_
          refine lv_if_lt (tgt := 39) hx hb dX9_office_29 (by decide) (fun c_17 => ?_) (fun c_17 => ?_)
          · refine lv_iconst (v := 1) hx hb dX9_office_39 (by decide) ?_
            refine lv_goto (tgt := 48) hx hb dX9_office_40 (by decide) ?_
            refine lv_istore (lv' := [(5, .int 1), (0, .ref m0), (1, .int p0), (2, .int p1), (3, .int p2), (4, .int p3)]) hx hb dX9_office_48 hl (by decide) rfl (fun ls hl => ?_)
            refine lv_iload hx hb dX9_office_50 (lv_at hl 0 rfl) ?_
            refine lv_if_eq (tgt := 64) hx hb dX9_office_52 (by decide) (fun c_18 => absurd c_18 (by decide +kernel)) (fun c_18 => ?_)
            refine lv_aload_n hx hb dX9_office_55 rfl (lv_at hl 1 rfl) ?_
            refine lv_iload hx hb dX9_office_56 (lv_at hl 0 rfl) ?_
            refine xVwi (rq := 0) (ci := 9) (wc := [(m0, .inr (9, [.int 0, .int 0, .int 0, .int (-1), .ref (ma 4), .ref (ma 5), .ref (ma 6), .ref (ma 7), .ref (ma 8), .ref (ma 9), .ref (ma 10), .ref (ma 11), .ref (ma 12), .ref (ma 13), .ref (ma 14), .ref (ma 15), .ref (ma 16), .ref (ma 17), .ref (ma 18), .ref (ma 19), .int 0, .ref (ma 21), .ref (ma 22), .ref (ma 23), .ref (ma 24), .ref (ma 25), .ref (ma 26), .ref (ma 27), .ref (ma 28), .ref (ma 29), .ref (ma 30), .ref (ma 31), .ref (ma 32), .ref (ma 33), .ref (ma 34), .ref (ma 35), .ref (ma 36), .ref (ma 37), .int 0, .ref (ma 39), .ref (ma 40), .ref (ma 41), .ref (ma 42), .ref (ma 43), .ref (ma 44), .ref (ma 45), .ref (ma 46), .ref (ma 47), .ref (ma 48), .int 0, .int 0, .int 0, .int 0, .int 0, .int 0, .int 0, .long 0, .int 0, .long 0, .long 0, .long 0, .long 0, .int 0, .int 0, .int 0, .int 0, .long 0])), (ma 39, .inl (G.2 0, 6, .inl (fun _ => 0)))]) (wr := [(ma 11, .inl (G.2 4, 96, .inr (.inl (fun _ => 0))))]) (As := [.int 1]) (rest := []) C0 (c_X9_no l G m0 ma 1 (by unfold vp_in; decide +kernel)) ok_X9_no (mW177 : Cond.methodLink RX9 168 yX9_no ∈ wsT) ⟨Nat.le_of_ble_eq_true rfl, Nat.le_of_ble_eq_true rfl⟩ hP hD hS hA hK hN [0, 1] [2] rfl rfl (by decide) (by decide) (by decide) rfl rfl rfl rfl hl.1 rfl (Nat.le_of_ble_eq_true rfl) ⟨Nat.le_of_ble_eq_true rfl, Nat.le_of_ble_eq_true rfl⟩ dX9_office_58 (fun r_19 u_20 H locs hr_19 hP hD hS => ?_)
            have hP : va_P G.1 xcl [(ma 11, .inl (G.2 4, 96, .inr (.inl (fun _ => 0))))] H := hP
            have hD : va_D A [(ma 11, .inl (G.2 4, 96, .inr (.inl (fun _ => 0))))] := hD
            obtain rfl : r_19 = (-1) := hr_19
            refine lv_pop hx hb dX9_office_61 rfl ?_
            refine lv_iconst (v := 0) hx hb dX9_office_62 (by decide) ?_
            have hP9 := hP.sub (ws' := []) [] rfl
            have hD9 := hD.sub (ws' := []) [] (by decide) rfl
            exact W.zret (v := 0) (ty := .boolean) hx hb hr rfl (fun t ht hW => ⟨⟨0, (), rfl, rfl, by rw [ht]; exact hP9, hD9⟩, hS.F ht⟩) hS.2.2 dX9_office_63
          · refine lv_iload hx hb dX9_office_32 (lv_at hl 4 rfl) ?_
            refine lv_ldc (v := 100000) hx hb hown (htl (.constant RX9 218 (100000)) mW529) dX9_office_34 ?_
            refine lv_icmp_le (tgt := 43) hx hb dX9_office_36 (by decide) (fun c_21 => ?_) (fun c_21 => ?_)
            · refine lv_aload_n hx hb dX9_office_43 rfl (lv_at hl 0 rfl) ?_
              refine lv_iload_n hx hb dX9_office_44 rfl (lv_at hl 1 rfl) ?_
              refine xVri (rq := 0) (ci := 9) (wc := [(m0, .inr (9, [.int 0, .int 0, .int 0, .int (-1), .ref (ma 4), .ref (ma 5), .ref (ma 6), .ref (ma 7), .ref (ma 8), .ref (ma 9), .ref (ma 10), .ref (ma 11), .ref (ma 12), .ref (ma 13), .ref (ma 14), .ref (ma 15), .ref (ma 16), .ref (ma 17), .ref (ma 18), .ref (ma 19), .int 0, .ref (ma 21), .ref (ma 22), .ref (ma 23), .ref (ma 24), .ref (ma 25), .ref (ma 26), .ref (ma 27), .ref (ma 28), .ref (ma 29), .ref (ma 30), .ref (ma 31), .ref (ma 32), .ref (ma 33), .ref (ma 34), .ref (ma 35), .ref (ma 36), .ref (ma 37), .int 0, .ref (ma 39), .ref (ma 40), .ref (ma 41), .ref (ma 42), .ref (ma 43), .ref (ma 44), .ref (ma 45), .ref (ma 46), .ref (ma 47), .ref (ma 48), .int 0, .int 0, .int 0, .int 0, .int 0, .int 0, .int 0, .long 0, .int 0, .long 0, .long 0, .long 0, .long 0, .int 0, .int 0, .int 0, .int 0, .long 0])), (ma 11, .inl (G.2 4, 96, .inr (.inl (fun _ => 0))))]) (As := [.int p0]) (rest := []) C0 (c_X9_portWhy l G m0 ma p0) ok_X9_portWhy (mW387 : Cond.methodLink RX9 165 yX9_portWhy ∈ wsT) ⟨Nat.le_of_ble_eq_true rfl, Nat.le_of_ble_eq_true rfl⟩ hP hD hK hN [0, 2] rfl (by decide) rfl rfl rfl rfl hl.1 rfl (Nat.le_of_ble_eq_true rfl) ⟨Nat.le_of_ble_eq_true rfl, Nat.le_of_ble_eq_true rfl⟩ dX9_office_45 (fun r_22 hr_22 => ?_)
              refine lv_istore (lv' := [(5, .int r_22), (0, .ref m0), (1, .int p0), (2, .int p1), (3, .int p2), (4, .int p3)]) hx hb dX9_office_48 hl (by decide) rfl (fun ls hl => ?_)
              refine lv_iload hx hb dX9_office_50 (lv_at hl 0 rfl) ?_
              refine lv_if_eq (tgt := 64) hx hb dX9_office_52 (by decide) (fun c_23 => absurd c_23 (xn0 hr_22)) (fun c_23 => ?_)
              refine lv_aload_n hx hb dX9_office_55 rfl (lv_at hl 1 rfl) ?_
              refine lv_iload hx hb dX9_office_56 (lv_at hl 0 rfl) ?_
              refine xVwi (rq := 0) (ci := 9) (wc := [(m0, .inr (9, [.int 0, .int 0, .int 0, .int (-1), .ref (ma 4), .ref (ma 5), .ref (ma 6), .ref (ma 7), .ref (ma 8), .ref (ma 9), .ref (ma 10), .ref (ma 11), .ref (ma 12), .ref (ma 13), .ref (ma 14), .ref (ma 15), .ref (ma 16), .ref (ma 17), .ref (ma 18), .ref (ma 19), .int 0, .ref (ma 21), .ref (ma 22), .ref (ma 23), .ref (ma 24), .ref (ma 25), .ref (ma 26), .ref (ma 27), .ref (ma 28), .ref (ma 29), .ref (ma 30), .ref (ma 31), .ref (ma 32), .ref (ma 33), .ref (ma 34), .ref (ma 35), .ref (ma 36), .ref (ma 37), .int 0, .ref (ma 39), .ref (ma 40), .ref (ma 41), .ref (ma 42), .ref (ma 43), .ref (ma 44), .ref (ma 45), .ref (ma 46), .ref (ma 47), .ref (ma 48), .int 0, .int 0, .int 0, .int 0, .int 0, .int 0, .int 0, .long 0, .int 0, .long 0, .long 0, .long 0, .long 0, .int 0, .int 0, .int 0, .int 0, .long 0])), (ma 39, .inl (G.2 0, 6, .inl (fun _ => 0)))]) (wr := [(ma 11, .inl (G.2 4, 96, .inr (.inl (fun _ => 0))))]) (As := [.int r_22]) (rest := []) C0 (c_X9_no l G m0 ma r_22 (xin6 hr_22)) ok_X9_no (mW177 : Cond.methodLink RX9 168 yX9_no ∈ wsT) ⟨Nat.le_of_ble_eq_true rfl, Nat.le_of_ble_eq_true rfl⟩ hP hD hS hA hK hN [0, 1] [2] rfl rfl (by decide) (by decide) (by decide) rfl rfl rfl rfl hl.1 rfl (Nat.le_of_ble_eq_true rfl) ⟨Nat.le_of_ble_eq_true rfl, Nat.le_of_ble_eq_true rfl⟩ dX9_office_58 (fun r_24 u_25 H locs hr_24 hP hD hS => ?_)
              have hP : va_P G.1 xcl [(ma 11, .inl (G.2 4, 96, .inr (.inl (fun _ => 0))))] H := hP
              have hD : va_D A [(ma 11, .inl (G.2 4, 96, .inr (.inl (fun _ => 0))))] := hD
              obtain rfl : r_24 = (-1) := hr_24
              refine lv_pop hx hb dX9_office_61 rfl ?_
              refine lv_iconst (v := 0) hx hb dX9_office_62 (by decide) ?_
              have hP9 := hP.sub (ws' := []) [] rfl
              have hD9 := hD.sub (ws' := []) [] (by decide) rfl
              exact W.zret (v := 0) (ty := .boolean) hx hb hr rfl (fun t ht hW => ⟨⟨0, (), rfl, rfl, by rw [ht]; exact hP9, hD9⟩, hS.F ht⟩) hS.2.2 dX9_office_63
            · refine lv_iconst (v := 1) hx hb dX9_office_39 (by decide) ?_
              refine lv_goto (tgt := 48) hx hb dX9_office_40 (by decide) ?_
              refine lv_istore (lv' := [(5, .int 1), (0, .ref m0), (1, .int p0), (2, .int p1), (3, .int p2), (4, .int p3)]) hx hb dX9_office_48 hl (by decide) rfl (fun ls hl => ?_)
              refine lv_iload hx hb dX9_office_50 (lv_at hl 0 rfl) ?_
              refine lv_if_eq (tgt := 64) hx hb dX9_office_52 (by decide) (fun c_26 => absurd c_26 (by decide +kernel)) (fun c_26 => ?_)
              refine lv_aload_n hx hb dX9_office_55 rfl (lv_at hl 1 rfl) ?_
              refine lv_iload hx hb dX9_office_56 (lv_at hl 0 rfl) ?_
              refine xVwi (rq := 0) (ci := 9) (wc := [(m0, .inr (9, [.int 0, .int 0, .int 0, .int (-1), .ref (ma 4), .ref (ma 5), .ref (ma 6), .ref (ma 7), .ref (ma 8), .ref (ma 9), .ref (ma 10), .ref (ma 11), .ref (ma 12), .ref (ma 13), .ref (ma 14), .ref (ma 15), .ref (ma 16), .ref (ma 17), .ref (ma 18), .ref (ma 19), .int 0, .ref (ma 21), .ref (ma 22), .ref (ma 23), .ref (ma 24), .ref (ma 25), .ref (ma 26), .ref (ma 27), .ref (ma 28), .ref (ma 29), .ref (ma 30), .ref (ma 31), .ref (ma 32), .ref (ma 33), .ref (ma 34), .ref (ma 35), .ref (ma 36), .ref (ma 37), .int 0, .ref (ma 39), .ref (ma 40), .ref (ma 41), .ref (ma 42), .ref (ma 43), .ref (ma 44), .ref (ma 45), .ref (ma 46), .ref (ma 47), .ref (ma 48), .int 0, .int 0, .int 0, .int 0, .int 0, .int 0, .int 0, .long 0, .int 0, .long 0, .long 0, .long 0, .long 0, .int 0, .int 0, .int 0, .int 0, .long 0])), (ma 39, .inl (G.2 0, 6, .inl (fun _ => 0)))]) (wr := [(ma 11, .inl (G.2 4, 96, .inr (.inl (fun _ => 0))))]) (As := [.int 1]) (rest := []) C0 (c_X9_no l G m0 ma 1 (by unfold vp_in; decide +kernel)) ok_X9_no (mW177 : Cond.methodLink RX9 168 yX9_no ∈ wsT) ⟨Nat.le_of_ble_eq_true rfl, Nat.le_of_ble_eq_true rfl⟩ hP hD hS hA hK hN [0, 1] [2] rfl rfl (by decide) (by decide) (by decide) rfl rfl rfl rfl hl.1 rfl (Nat.le_of_ble_eq_true rfl) ⟨Nat.le_of_ble_eq_true rfl, Nat.le_of_ble_eq_true rfl⟩ dX9_office_58 (fun r_27 u_28 H locs hr_27 hP hD hS => ?_)
              have hP : va_P G.1 xcl [(ma 11, .inl (G.2 4, 96, .inr (.inl (fun _ => 0))))] H := hP
              have hD : va_D A [(ma 11, .inl (G.2 4, 96, .inr (.inl (fun _ => 0))))] := hD
              obtain rfl : r_27 = (-1) := hr_27
              refine lv_pop hx hb dX9_office_61 rfl ?_
              refine lv_iconst (v := 0) hx hb dX9_office_62 (by decide) ?_
              have hP9 := hP.sub (ws' := []) [] rfl
              have hD9 := hD.sub (ws' := []) [] (by decide) rfl
              exact W.zret (v := 0) (ty := .boolean) hx hb hr rfl (fun t ht hW => ⟨⟨0, (), rfl, rfl, by rw [ht]; exact hP9, hD9⟩, hS.F ht⟩) hS.2.2 dX9_office_63
theorem dX9_offset_0 : decode cX9_offset 0 = .ok (.aload_n 0, 1) := by decide +kernel
theorem dX9_offset_1 : decode cX9_offset 1 = .ok (.iconst 0, 1) := by decide +kernel
theorem dX9_offset_2 : decode cX9_offset 2 = .ok (.putfield 147, 3) := by decide +kernel
theorem dX9_offset_5 : decode cX9_offset 5 = .ok (.aload_n 0, 1) := by decide +kernel
theorem dX9_offset_6 : decode cX9_offset 6 = .ok (.iload_n 1, 1) := by decide +kernel
theorem dX9_offset_7 : decode cX9_offset 7 = .ok (.bipush 7, 2) := by decide +kernel
theorem dX9_offset_9 : decode cX9_offset 9 = .ok (.iload_n 2, 1) := by decide +kernel
theorem dX9_offset_10 : decode cX9_offset 10 = .ok (.i2l, 1) := by decide +kernel
theorem dX9_offset_11 : decode cX9_offset 11 = .ok (.ldc2_w 219, 3) := by decide +kernel
theorem dX9_offset_14 : decode cX9_offset 14 = .ok (.invokevirtual 214, 3) := by decide +kernel
theorem dX9_offset_17 : decode cX9_offset 17 = .ok (.ireturn, 1) := by decide +kernel
set_option maxHeartbeats 4000000 in
set_option maxRecDepth 100000 in
theorem c_X9_offset (l : Launch) (G : xG) (m0 : Nat) (ma : Nat → Nat) (p0 : Int32) (p1 : Int32)  : xWi l G yX9_offset cX9_offset 3 (some .boolean) 3 69 0 0 [.ref m0, .int p0, .int p1] [(m0, .inr (9, [.int 0, .int 0, .int 0, .int (-1), .ref (ma 4), .ref (ma 5), .ref (ma 6), .ref (ma 7), .ref (ma 8), .ref (ma 9), .ref (ma 10), .ref (ma 11), .ref (ma 12), .ref (ma 13), .ref (ma 14), .ref (ma 15), .ref (ma 16), .ref (ma 17), .ref (ma 18), .ref (ma 19), .int 0, .ref (ma 21), .ref (ma 22), .ref (ma 23), .ref (ma 24), .ref (ma 25), .ref (ma 26), .ref (ma 27), .ref (ma 28), .ref (ma 29), .ref (ma 30), .ref (ma 31), .ref (ma 32), .ref (ma 33), .ref (ma 34), .ref (ma 35), .ref (ma 36), .ref (ma 37), .int 0, .ref (ma 39), .ref (ma 40), .ref (ma 41), .ref (ma 42), .ref (ma 43), .ref (ma 44), .ref (ma 45), .ref (ma 46), .ref (ma 47), .ref (ma 48), .int 0, .int 0, .int 0, .int 0, .int 0, .int 0, .int 0, .long 0, .int 0, .long 0, .long 0, .long 0, .long 0, .int 0, .int 0, .int 0, .int 0, .long 0])), (ma 39, .inl (G.2 0, 6, .inl (fun _ => 0))), (ma 11, .inl (G.2 4, 96, .inr (.inl (fun _ => 0))))] (S := Unit) (fun r _ => r = 0) (fun _ => []) := by
  intro sz
  refine xstart (by decide) (Nat.le_of_ble_eq_true rfl) (fun p e s m args below meth c ls C0 hr hlocks hin hsz hP hK hD hN hl => ?_)
  obtain ⟨hx, hb, hml, hown, htl⟩ := id C0
  subst hsz
  have hD := hD.self (sz := s.heap.size)
  generalize hAe : va_A [(m0, .inr (9, [.int 0, .int 0, .int 0, .int (-1), .ref (ma 4), .ref (ma 5), .ref (ma 6), .ref (ma 7), .ref (ma 8), .ref (ma 9), .ref (ma 10), .ref (ma 11), .ref (ma 12), .ref (ma 13), .ref (ma 14), .ref (ma 15), .ref (ma 16), .ref (ma 17), .ref (ma 18), .ref (ma 19), .int 0, .ref (ma 21), .ref (ma 22), .ref (ma 23), .ref (ma 24), .ref (ma 25), .ref (ma 26), .ref (ma 27), .ref (ma 28), .ref (ma 29), .ref (ma 30), .ref (ma 31), .ref (ma 32), .ref (ma 33), .ref (ma 34), .ref (ma 35), .ref (ma 36), .ref (ma 37), .int 0, .ref (ma 39), .ref (ma 40), .ref (ma 41), .ref (ma 42), .ref (ma 43), .ref (ma 44), .ref (ma 45), .ref (ma 46), .ref (ma 47), .ref (ma 48), .int 0, .int 0, .int 0, .int 0, .int 0, .int 0, .int 0, .long 0, .int 0, .long 0, .long 0, .long 0, .long 0, .int 0, .int 0, .int 0, .int 0, .long 0])), (ma 39, .inl (G.2 0, 6, .inl (fun _ => 0))), (ma 11, .inl (G.2 4, 96, .inr (.inl (fun _ => 0))))] s.heap.size = A at hD ⊢
  have hA : ∀ q : Nat, s.heap.size ≤ q → A q := fun q h => by rw [← hAe]; exact Or.inr h
  have hS : va_S A s.heap s.heap [] := va_S.rf
  have hl : lv_has ls 3 [(0, .ref m0), (1, .int p0), (2, .int p1)] := hl
  refine lv_aload_n hx hb dX9_offset_0 rfl (lv_at hl 0 rfl) ?_
  refine lv_iconst (v := 0) hx hb dX9_offset_1 (by decide) ?_
  refine va_put (D := G.1) (ci := 9) (v := .int 0) (ty := .int) (C := RX9) (T := TX9) (N := 67) hx hb htl inlX9 tyX9 tyX9_ok nmX9 hown hK hP hD hS 0 rfl rfl 38 (by decide) (htl (.fieldLink RX9 147 "LaytimeDeskModel" "reason" "I") mW175) (fun _ h9 => h9) rfl (by decide +kernel) rfl rfl (Nat.le_of_ble_eq_true rfl) dX9_offset_2 (fun H locs hP hD hS => ?_)
  have hP : va_P G.1 xcl [(m0, .inr (9, [.int 0, .int 0, .int 0, .int (-1), .ref (ma 4), .ref (ma 5), .ref (ma 6), .ref (ma 7), .ref (ma 8), .ref (ma 9), .ref (ma 10), .ref (ma 11), .ref (ma 12), .ref (ma 13), .ref (ma 14), .ref (ma 15), .ref (ma 16), .ref (ma 17), .ref (ma 18), .ref (ma 19), .int 0, .ref (ma 21), .ref (ma 22), .ref (ma 23), .ref (ma 24), .ref (ma 25), .ref (ma 26), .ref (ma 27), .ref (ma 28), .ref (ma 29), .ref (ma 30), .ref (ma 31), .ref (ma 32), .ref (ma 33), .ref (ma 34), .ref (ma 35), .ref (ma 36), .ref (ma 37), .int 0, .ref (ma 39), .ref (ma 40), .ref (ma 41), .ref (ma 42), .ref (ma 43), .ref (ma 44), .ref (ma 45), .ref (ma 46), .ref (ma 47), .ref (ma 48), .int 0, .int 0, .int 0, .int 0, .int 0, .int 0, .int 0, .long 0, .int 0, .long 0, .long 0, .long 0, .long 0, .int 0, .int 0, .int 0, .int 0, .long 0])), (ma 39, .inl (G.2 0, 6, .inl (fun _ => 0))), (ma 11, .inl (G.2 4, 96, .inr (.inl (fun _ => 0))))] H := hP
  have hD : va_D A [(m0, .inr (9, [.int 0, .int 0, .int 0, .int (-1), .ref (ma 4), .ref (ma 5), .ref (ma 6), .ref (ma 7), .ref (ma 8), .ref (ma 9), .ref (ma 10), .ref (ma 11), .ref (ma 12), .ref (ma 13), .ref (ma 14), .ref (ma 15), .ref (ma 16), .ref (ma 17), .ref (ma 18), .ref (ma 19), .int 0, .ref (ma 21), .ref (ma 22), .ref (ma 23), .ref (ma 24), .ref (ma 25), .ref (ma 26), .ref (ma 27), .ref (ma 28), .ref (ma 29), .ref (ma 30), .ref (ma 31), .ref (ma 32), .ref (ma 33), .ref (ma 34), .ref (ma 35), .ref (ma 36), .ref (ma 37), .int 0, .ref (ma 39), .ref (ma 40), .ref (ma 41), .ref (ma 42), .ref (ma 43), .ref (ma 44), .ref (ma 45), .ref (ma 46), .ref (ma 47), .ref (ma 48), .int 0, .int 0, .int 0, .int 0, .int 0, .int 0, .int 0, .long 0, .int 0, .long 0, .long 0, .long 0, .long 0, .int 0, .int 0, .int 0, .int 0, .long 0])), (ma 39, .inl (G.2 0, 6, .inl (fun _ => 0))), (ma 11, .inl (G.2 4, 96, .inr (.inl (fun _ => 0))))] := hD
  refine lv_aload_n hx hb dX9_offset_5 rfl (lv_at hl 0 rfl) ?_
  refine lv_iload_n hx hb dX9_offset_6 rfl (lv_at hl 1 rfl) ?_
  refine lv_bipush (v := 7) hx hb dX9_offset_7 (by decide) ?_
  refine lv_iload_n hx hb dX9_offset_9 rfl (lv_at hl 2 rfl) ?_
  refine lv_i2l hx hb dX9_offset_10 rfl ?_
  refine lv_topl (fun z_1 ez_1 => ?_)
  refine lv_ldc2 (v := 1000000) hx hb hown (htl (.constantLong RX9 219 (1000000)) mW539) dX9_offset_11 ?_
  refine xVwi (rq := 0) (ci := 9) (wc := [(m0, .inr (9, [.int 0, .int 0, .int 0, .int (-1), .ref (ma 4), .ref (ma 5), .ref (ma 6), .ref (ma 7), .ref (ma 8), .ref (ma 9), .ref (ma 10), .ref (ma 11), .ref (ma 12), .ref (ma 13), .ref (ma 14), .ref (ma 15), .ref (ma 16), .ref (ma 17), .ref (ma 18), .ref (ma 19), .int 0, .ref (ma 21), .ref (ma 22), .ref (ma 23), .ref (ma 24), .ref (ma 25), .ref (ma 26), .ref (ma 27), .ref (ma 28), .ref (ma 29), .ref (ma 30), .ref (ma 31), .ref (ma 32), .ref (ma 33), .ref (ma 34), .ref (ma 35), .ref (ma 36), .ref (ma 37), .int 0, .ref (ma 39), .ref (ma 40), .ref (ma 41), .ref (ma 42), .ref (ma 43), .ref (ma 44), .ref (ma 45), .ref (ma 46), .ref (ma 47), .ref (ma 48), .int 0, .int 0, .int 0, .int 0, .int 0, .int 0, .int 0, .long 0, .int 0, .long 0, .long 0, .long 0, .long 0, .int 0, .int 0, .int 0, .int 0, .long 0])), (ma 39, .inl (G.2 0, 6, .inl (fun _ => 0))), (ma 11, .inl (G.2 4, 96, .inr (.inl (fun _ => 0))))]) (wr := []) (As := [.int p0, .int 7, .long z_1, .long 1000000]) (rest := []) C0 (c_X9_put l G m0 ma p0 7 z_1 1000000) ok_X9_put (mW513 : Cond.methodLink RX9 214 yX9_put ∈ wsT) ⟨Nat.le_of_ble_eq_true rfl, Nat.le_of_ble_eq_true rfl⟩ hP hD hS hA hK hN [0, 1, 2] [] rfl rfl (by decide) (by decide) (by decide) rfl rfl rfl rfl hl.1 rfl (Nat.le_of_ble_eq_true rfl) ⟨Nat.le_of_ble_eq_true rfl, Nat.le_of_ble_eq_true rfl⟩ dX9_offset_14 (fun r_2 u_3 H locs hr_2 hP hD hS => ?_)
  have hP : va_P G.1 xcl [] H := hP
  have hD : va_D A [] := hD
  obtain rfl : r_2 = 0 := hr_2
  have hP9 := hP.sub (ws' := []) [] rfl
  have hD9 := hD.sub (ws' := []) [] (by decide) rfl
  exact W.zret (v := 0) (ty := .boolean) hx hb hr rfl (fun t ht hW => ⟨⟨0, (), rfl, rfl, by rw [ht]; exact hP9, hD9⟩, hS.F ht⟩) hS.2.2 dX9_offset_17
theorem dX9_rate_0 : decode cX9_rate 0 = .ok (.aload_n 0, 1) := by decide +kernel
theorem dX9_rate_1 : decode cX9_rate 1 = .ok (.iconst 0, 1) := by decide +kernel
theorem dX9_rate_2 : decode cX9_rate 2 = .ok (.putfield 147, 3) := by decide +kernel
theorem dX9_rate_5 : decode cX9_rate 5 = .ok (.lload_n 2, 1) := by decide +kernel
theorem dX9_rate_6 : decode cX9_rate 6 = .ok (.lconst 0, 1) := by decide +kernel
theorem dX9_rate_7 : decode cX9_rate 7 = .ok (.lcmp, 1) := by decide +kernel
theorem dX9_rate_8 : decode cX9_rate 8 = .ok (.ifCond .lt 27, 3) := by decide +kernel
theorem dX9_rate_11 : decode cX9_rate 11 = .ok (.lload_n 2, 1) := by decide +kernel
theorem dX9_rate_12 : decode cX9_rate 12 = .ok (.ldc2_w 221, 3) := by decide +kernel
theorem dX9_rate_15 : decode cX9_rate 15 = .ok (.lcmp, 1) := by decide +kernel
theorem dX9_rate_16 : decode cX9_rate 16 = .ok (.ifCond .gt 19, 3) := by decide +kernel
theorem dX9_rate_19 : decode cX9_rate 19 = .ok (.lload 4, 2) := by decide +kernel
theorem dX9_rate_21 : decode cX9_rate 21 = .ok (.lconst 0, 1) := by decide +kernel
theorem dX9_rate_22 : decode cX9_rate 22 = .ok (.lcmp, 1) := by decide +kernel
theorem dX9_rate_23 : decode cX9_rate 23 = .ok (.ifCond .lt 12, 3) := by decide +kernel
theorem dX9_rate_26 : decode cX9_rate 26 = .ok (.lload 4, 2) := by decide +kernel
theorem dX9_rate_28 : decode cX9_rate 28 = .ok (.ldc2_w 221, 3) := by decide +kernel
theorem dX9_rate_31 : decode cX9_rate 31 = .ok (.lcmp, 1) := by decide +kernel
theorem dX9_rate_32 : decode cX9_rate 32 = .ok (.ifCond .le 7, 3) := by decide +kernel
theorem dX9_rate_35 : decode cX9_rate 35 = .ok (.iconst 1, 1) := by decide +kernel
theorem dX9_rate_36 : decode cX9_rate 36 = .ok (.goto 8, 3) := by decide +kernel
theorem dX9_rate_39 : decode cX9_rate 39 = .ok (.aload_n 0, 1) := by decide +kernel
theorem dX9_rate_40 : decode cX9_rate 40 = .ok (.iload_n 1, 1) := by decide +kernel
theorem dX9_rate_41 : decode cX9_rate 41 = .ok (.invokevirtual 165, 3) := by decide +kernel
theorem dX9_rate_44 : decode cX9_rate 44 = .ok (.istore 6, 2) := by decide +kernel
theorem dX9_rate_46 : decode cX9_rate 46 = .ok (.iload 6, 2) := by decide +kernel
theorem dX9_rate_48 : decode cX9_rate 48 = .ok (.ifCond .eq 12, 3) := by decide +kernel
theorem dX9_rate_51 : decode cX9_rate 51 = .ok (.aload_n 0, 1) := by decide +kernel
theorem dX9_rate_52 : decode cX9_rate 52 = .ok (.iload 6, 2) := by decide +kernel
theorem dX9_rate_54 : decode cX9_rate 54 = .ok (.invokevirtual 168, 3) := by decide +kernel
theorem dX9_rate_57 : decode cX9_rate 57 = .ok (.pop, 1) := by decide +kernel
theorem dX9_rate_58 : decode cX9_rate 58 = .ok (.iconst 0, 1) := by decide +kernel
theorem dX9_rate_59 : decode cX9_rate 59 = .ok (.ireturn, 1) := by decide +kernel
set_option maxHeartbeats 4000000 in
set_option maxRecDepth 100000 in
theorem c_X9_rate (l : Launch) (G : xG) (m0 : Nat) (ma : Nat → Nat) (p0 : Int32) (p1 : Int64) (p2 : Int64)  : xWi l G yX9_rate cX9_rate 7 (some .boolean) 2 42 0 0 [.ref m0, .int p0, .long p1, .long p2] [(m0, .inr (9, [.int 0, .int 0, .int 0, .int (-1), .ref (ma 4), .ref (ma 5), .ref (ma 6), .ref (ma 7), .ref (ma 8), .ref (ma 9), .ref (ma 10), .ref (ma 11), .ref (ma 12), .ref (ma 13), .ref (ma 14), .ref (ma 15), .ref (ma 16), .ref (ma 17), .ref (ma 18), .ref (ma 19), .int 0, .ref (ma 21), .ref (ma 22), .ref (ma 23), .ref (ma 24), .ref (ma 25), .ref (ma 26), .ref (ma 27), .ref (ma 28), .ref (ma 29), .ref (ma 30), .ref (ma 31), .ref (ma 32), .ref (ma 33), .ref (ma 34), .ref (ma 35), .ref (ma 36), .ref (ma 37), .int 0, .ref (ma 39), .ref (ma 40), .ref (ma 41), .ref (ma 42), .ref (ma 43), .ref (ma 44), .ref (ma 45), .ref (ma 46), .ref (ma 47), .ref (ma 48), .int 0, .int 0, .int 0, .int 0, .int 0, .int 0, .int 0, .long 0, .int 0, .long 0, .long 0, .long 0, .long 0, .int 0, .int 0, .int 0, .int 0, .long 0])), (ma 39, .inl (G.2 0, 6, .inl (fun _ => 0))), (ma 11, .inl (G.2 4, 96, .inr (.inl (fun _ => 0))))] (S := Unit) (fun r _ => r = 0) (fun _ => []) := by
  intro sz
  refine xstart (by decide) (Nat.le_of_ble_eq_true rfl) (fun p e s m args below meth c ls C0 hr hlocks hin hsz hP hK hD hN hl => ?_)
  obtain ⟨hx, hb, hml, hown, htl⟩ := id C0
  subst hsz
  have hD := hD.self (sz := s.heap.size)
  generalize hAe : va_A [(m0, .inr (9, [.int 0, .int 0, .int 0, .int (-1), .ref (ma 4), .ref (ma 5), .ref (ma 6), .ref (ma 7), .ref (ma 8), .ref (ma 9), .ref (ma 10), .ref (ma 11), .ref (ma 12), .ref (ma 13), .ref (ma 14), .ref (ma 15), .ref (ma 16), .ref (ma 17), .ref (ma 18), .ref (ma 19), .int 0, .ref (ma 21), .ref (ma 22), .ref (ma 23), .ref (ma 24), .ref (ma 25), .ref (ma 26), .ref (ma 27), .ref (ma 28), .ref (ma 29), .ref (ma 30), .ref (ma 31), .ref (ma 32), .ref (ma 33), .ref (ma 34), .ref (ma 35), .ref (ma 36), .ref (ma 37), .int 0, .ref (ma 39), .ref (ma 40), .ref (ma 41), .ref (ma 42), .ref (ma 43), .ref (ma 44), .ref (ma 45), .ref (ma 46), .ref (ma 47), .ref (ma 48), .int 0, .int 0, .int 0, .int 0, .int 0, .int 0, .int 0, .long 0, .int 0, .long 0, .long 0, .long 0, .long 0, .int 0, .int 0, .int 0, .int 0, .long 0])), (ma 39, .inl (G.2 0, 6, .inl (fun _ => 0))), (ma 11, .inl (G.2 4, 96, .inr (.inl (fun _ => 0))))] s.heap.size = A at hD ⊢
  have hA : ∀ q : Nat, s.heap.size ≤ q → A q := fun q h => by rw [← hAe]; exact Or.inr h
  have hS : va_S A s.heap s.heap [] := va_S.rf
  have hl : lv_has ls 7 [(0, .ref m0), (1, .int p0), (2, .long p1), (4, .long p2)] := hl
  refine lv_aload_n hx hb dX9_rate_0 rfl (lv_at hl 0 rfl) ?_
  refine lv_iconst (v := 0) hx hb dX9_rate_1 (by decide) ?_
  refine va_put (D := G.1) (ci := 9) (v := .int 0) (ty := .int) (C := RX9) (T := TX9) (N := 67) hx hb htl inlX9 tyX9 tyX9_ok nmX9 hown hK hP hD hS 0 rfl rfl 38 (by decide) (htl (.fieldLink RX9 147 "LaytimeDeskModel" "reason" "I") mW175) (fun _ h9 => h9) rfl (by decide +kernel) rfl rfl (Nat.le_of_ble_eq_true rfl) dX9_rate_2 (fun H locs hP hD hS => ?_)
  have hP : va_P G.1 xcl [(m0, .inr (9, [.int 0, .int 0, .int 0, .int (-1), .ref (ma 4), .ref (ma 5), .ref (ma 6), .ref (ma 7), .ref (ma 8), .ref (ma 9), .ref (ma 10), .ref (ma 11), .ref (ma 12), .ref (ma 13), .ref (ma 14), .ref (ma 15), .ref (ma 16), .ref (ma 17), .ref (ma 18), .ref (ma 19), .int 0, .ref (ma 21), .ref (ma 22), .ref (ma 23), .ref (ma 24), .ref (ma 25), .ref (ma 26), .ref (ma 27), .ref (ma 28), .ref (ma 29), .ref (ma 30), .ref (ma 31), .ref (ma 32), .ref (ma 33), .ref (ma 34), .ref (ma 35), .ref (ma 36), .ref (ma 37), .int 0, .ref (ma 39), .ref (ma 40), .ref (ma 41), .ref (ma 42), .ref (ma 43), .ref (ma 44), .ref (ma 45), .ref (ma 46), .ref (ma 47), .ref (ma 48), .int 0, .int 0, .int 0, .int 0, .int 0, .int 0, .int 0, .long 0, .int 0, .long 0, .long 0, .long 0, .long 0, .int 0, .int 0, .int 0, .int 0, .long 0])), (ma 39, .inl (G.2 0, 6, .inl (fun _ => 0))), (ma 11, .inl (G.2 4, 96, .inr (.inl (fun _ => 0))))] H := hP
  have hD : va_D A [(m0, .inr (9, [.int 0, .int 0, .int 0, .int (-1), .ref (ma 4), .ref (ma 5), .ref (ma 6), .ref (ma 7), .ref (ma 8), .ref (ma 9), .ref (ma 10), .ref (ma 11), .ref (ma 12), .ref (ma 13), .ref (ma 14), .ref (ma 15), .ref (ma 16), .ref (ma 17), .ref (ma 18), .ref (ma 19), .int 0, .ref (ma 21), .ref (ma 22), .ref (ma 23), .ref (ma 24), .ref (ma 25), .ref (ma 26), .ref (ma 27), .ref (ma 28), .ref (ma 29), .ref (ma 30), .ref (ma 31), .ref (ma 32), .ref (ma 33), .ref (ma 34), .ref (ma 35), .ref (ma 36), .ref (ma 37), .int 0, .ref (ma 39), .ref (ma 40), .ref (ma 41), .ref (ma 42), .ref (ma 43), .ref (ma 44), .ref (ma 45), .ref (ma 46), .ref (ma 47), .ref (ma 48), .int 0, .int 0, .int 0, .int 0, .int 0, .int 0, .int 0, .long 0, .int 0, .long 0, .long 0, .long 0, .long 0, .int 0, .int 0, .int 0, .int 0, .long 0])), (ma 39, .inl (G.2 0, 6, .inl (fun _ => 0))), (ma 11, .inl (G.2 4, 96, .inr (.inl (fun _ => 0))))] := hD
  refine lv_lload_n hx hb dX9_rate_5 rfl (lv_at hl 2 rfl) ?_
  refine lv_lconst (v := 0) hx hb dX9_rate_6 (by decide) ?_
  refine W.lcmp hx hb dX9_rate_7 ?_
  refine lv_topi (fun z_1 ez_1 => ?_)
  refine lv_if_lt (tgt := 35) hx hb dX9_rate_8 (by decide) (fun c_2 => ?_) (fun c_2 => ?_)
  · refine lv_iconst (v := 1) hx hb dX9_rate_35 (by decide) ?_
    refine lv_goto (tgt := 44) hx hb dX9_rate_36 (by decide) ?_
    refine lv_istore (lv' := [(6, .int 1), (0, .ref m0), (1, .int p0), (2, .long p1), (4, .long p2)]) hx hb dX9_rate_44 hl (by decide) rfl (fun ls hl => ?_)
    refine lv_iload hx hb dX9_rate_46 (lv_at hl 0 rfl) ?_
    refine lv_if_eq (tgt := 60) hx hb dX9_rate_48 (by decide) (fun c_3 => absurd c_3 (by decide +kernel)) (fun c_3 => ?_)
    refine lv_aload_n hx hb dX9_rate_51 rfl (lv_at hl 1 rfl) ?_
    refine lv_iload hx hb dX9_rate_52 (lv_at hl 0 rfl) ?_
    refine xVwi (rq := 0) (ci := 9) (wc := [(m0, .inr (9, [.int 0, .int 0, .int 0, .int (-1), .ref (ma 4), .ref (ma 5), .ref (ma 6), .ref (ma 7), .ref (ma 8), .ref (ma 9), .ref (ma 10), .ref (ma 11), .ref (ma 12), .ref (ma 13), .ref (ma 14), .ref (ma 15), .ref (ma 16), .ref (ma 17), .ref (ma 18), .ref (ma 19), .int 0, .ref (ma 21), .ref (ma 22), .ref (ma 23), .ref (ma 24), .ref (ma 25), .ref (ma 26), .ref (ma 27), .ref (ma 28), .ref (ma 29), .ref (ma 30), .ref (ma 31), .ref (ma 32), .ref (ma 33), .ref (ma 34), .ref (ma 35), .ref (ma 36), .ref (ma 37), .int 0, .ref (ma 39), .ref (ma 40), .ref (ma 41), .ref (ma 42), .ref (ma 43), .ref (ma 44), .ref (ma 45), .ref (ma 46), .ref (ma 47), .ref (ma 48), .int 0, .int 0, .int 0, .int 0, .int 0, .int 0, .int 0, .long 0, .int 0, .long 0, .long 0, .long 0, .long 0, .int 0, .int 0, .int 0, .int 0, .long 0])), (ma 39, .inl (G.2 0, 6, .inl (fun _ => 0)))]) (wr := [(ma 11, .inl (G.2 4, 96, .inr (.inl (fun _ => 0))))]) (As := [.int 1]) (rest := []) C0 (c_X9_no l G m0 ma 1 (by unfold vp_in; decide +kernel)) ok_X9_no (mW177 : Cond.methodLink RX9 168 yX9_no ∈ wsT) ⟨Nat.le_of_ble_eq_true rfl, Nat.le_of_ble_eq_true rfl⟩ hP hD hS hA hK hN [0, 1] [2] rfl rfl (by decide) (by decide) (by decide) rfl rfl rfl rfl hl.1 rfl (Nat.le_of_ble_eq_true rfl) ⟨Nat.le_of_ble_eq_true rfl, Nat.le_of_ble_eq_true rfl⟩ dX9_rate_54 (fun r_4 u_5 H locs hr_4 hP hD hS => ?_)
    have hP : va_P G.1 xcl [(ma 11, .inl (G.2 4, 96, .inr (.inl (fun _ => 0))))] H := hP
    have hD : va_D A [(ma 11, .inl (G.2 4, 96, .inr (.inl (fun _ => 0))))] := hD
    obtain rfl : r_4 = (-1) := hr_4
    refine lv_pop hx hb dX9_rate_57 rfl ?_
    refine lv_iconst (v := 0) hx hb dX9_rate_58 (by decide) ?_
    have hP9 := hP.sub (ws' := []) [] rfl
    have hD9 := hD.sub (ws' := []) [] (by decide) rfl
    exact W.zret (v := 0) (ty := .boolean) hx hb hr rfl (fun t ht hW => ⟨⟨0, (), rfl, rfl, by rw [ht]; exact hP9, hD9⟩, hS.F ht⟩) hS.2.2 dX9_rate_59
  · refine lv_lload_n hx hb dX9_rate_11 rfl (lv_at hl 2 rfl) ?_
    refine lv_ldc2 (v := 1000000000) hx hb hown (htl (.constantLong RX9 221 (1000000000)) mW551) dX9_rate_12 ?_
    refine W.lcmp hx hb dX9_rate_15 ?_
    refine lv_topi (fun z_6 ez_6 => ?_)
    refine lv_if_gt (tgt := 35) hx hb dX9_rate_16 (by decide) (fun c_7 => ?_) (fun c_7 => ?_)
    · refine lv_iconst (v := 1) hx hb dX9_rate_35 (by decide) ?_
      refine lv_goto (tgt := 44) hx hb dX9_rate_36 (by decide) ?_
      refine lv_istore (lv' := [(6, .int 1), (0, .ref m0), (1, .int p0), (2, .long p1), (4, .long p2)]) hx hb dX9_rate_44 hl (by decide) rfl (fun ls hl => ?_)
      refine lv_iload hx hb dX9_rate_46 (lv_at hl 0 rfl) ?_
      refine lv_if_eq (tgt := 60) hx hb dX9_rate_48 (by decide) (fun c_8 => absurd c_8 (by decide +kernel)) (fun c_8 => ?_)
      refine lv_aload_n hx hb dX9_rate_51 rfl (lv_at hl 1 rfl) ?_
      refine lv_iload hx hb dX9_rate_52 (lv_at hl 0 rfl) ?_
      refine xVwi (rq := 0) (ci := 9) (wc := [(m0, .inr (9, [.int 0, .int 0, .int 0, .int (-1), .ref (ma 4), .ref (ma 5), .ref (ma 6), .ref (ma 7), .ref (ma 8), .ref (ma 9), .ref (ma 10), .ref (ma 11), .ref (ma 12), .ref (ma 13), .ref (ma 14), .ref (ma 15), .ref (ma 16), .ref (ma 17), .ref (ma 18), .ref (ma 19), .int 0, .ref (ma 21), .ref (ma 22), .ref (ma 23), .ref (ma 24), .ref (ma 25), .ref (ma 26), .ref (ma 27), .ref (ma 28), .ref (ma 29), .ref (ma 30), .ref (ma 31), .ref (ma 32), .ref (ma 33), .ref (ma 34), .ref (ma 35), .ref (ma 36), .ref (ma 37), .int 0, .ref (ma 39), .ref (ma 40), .ref (ma 41), .ref (ma 42), .ref (ma 43), .ref (ma 44), .ref (ma 45), .ref (ma 46), .ref (ma 47), .ref (ma 48), .int 0, .int 0, .int 0, .int 0, .int 0, .int 0, .int 0, .long 0, .int 0, .long 0, .long 0, .long 0, .long 0, .int 0, .int 0, .int 0, .int 0, .long 0])), (ma 39, .inl (G.2 0, 6, .inl (fun _ => 0)))]) (wr := [(ma 11, .inl (G.2 4, 96, .inr (.inl (fun _ => 0))))]) (As := [.int 1]) (rest := []) C0 (c_X9_no l G m0 ma 1 (by unfold vp_in; decide +kernel)) ok_X9_no (mW177 : Cond.methodLink RX9 168 yX9_no ∈ wsT) ⟨Nat.le_of_ble_eq_true rfl, Nat.le_of_ble_eq_true rfl⟩ hP hD hS hA hK hN [0, 1] [2] rfl rfl (by decide) (by decide) (by decide) rfl rfl rfl rfl hl.1 rfl (Nat.le_of_ble_eq_true rfl) ⟨Nat.le_of_ble_eq_true rfl, Nat.le_of_ble_eq_true rfl⟩ dX9_rate_54 (fun r_9 u_10 H locs hr_9 hP hD hS => ?_)
      have hP : va_P G.1 xcl [(ma 11, .inl (G.2 4, 96, .inr (.inl (fun _ => 0))))] H := hP
      have hD : va_D A [(ma 11, .inl (G.2 4, 96, .inr (.inl (fun _ => 0))))] := hD
      obtain rfl : r_9 = (-1) := hr_9
      refine lv_pop hx hb dX9_rate_57 rfl ?_
      refine lv_iconst (v := 0) hx hb dX9_rate_58 (by decide) ?_
      have hP9 := hP.sub (ws' := []) [] rfl
      have hD9 := hD.sub (ws' := []) [] (by decide) rfl
      exact W.zret (v := 0) (ty := .boolean) hx hb hr rfl (fun t ht hW => ⟨⟨0, (), rfl, rfl, by rw [ht]; exact hP9, hD9⟩, hS.F ht⟩) hS.2.2 dX9_rate_59
    · refine lv_lload hx hb dX9_rate_19 (lv_at hl 3 rfl) ?_
      refine lv_lconst (v := 0) hx hb dX9_rate_21 (by decide) ?_
      refine W.lcmp hx hb dX9_rate_22 ?_
      refine lv_topi (fun z_11 ez_11 => ?_)
      refine lv_if_lt (tgt := 35) hx hb dX9_rate_23 (by decide) (fun c_12 => ?_) (fun c_12 => ?_)
      · refine lv_iconst (v := 1) hx hb dX9_rate_35 (by decide) ?_
        refine lv_goto (tgt := 44) hx hb dX9_rate_36 (by decide) ?_
        refine lv_istore (lv' := [(6, .int 1), (0, .ref m0), (1, .int p0), (2, .long p1), (4, .long p2)]) hx hb dX9_rate_44 hl (by decide) rfl (fun ls hl => ?_)
        refine lv_iload hx hb dX9_rate_46 (lv_at hl 0 rfl) ?_
        refine lv_if_eq (tgt := 60) hx hb dX9_rate_48 (by decide) (fun c_13 => absurd c_13 (by decide +kernel)) (fun c_13 => ?_)
        refine lv_aload_n hx hb dX9_rate_51 rfl (lv_at hl 1 rfl) ?_
        refine lv_iload hx hb dX9_rate_52 (lv_at hl 0 rfl) ?_
        refine xVwi (rq := 0) (ci := 9) (wc := [(m0, .inr (9, [.int 0, .int 0, .int 0, .int (-1), .ref (ma 4), .ref (ma 5), .ref (ma 6), .ref (ma 7), .ref (ma 8), .ref (ma 9), .ref (ma 10), .ref (ma 11), .ref (ma 12), .ref (ma 13), .ref (ma 14), .ref (ma 15), .ref (ma 16), .ref (ma 17), .ref (ma 18), .ref (ma 19), .int 0, .ref (ma 21), .ref (ma 22), .ref (ma 23), .ref (ma 24), .ref (ma 25), .ref (ma 26), .ref (ma 27), .ref (ma 28), .ref (ma 29), .ref (ma 30), .ref (ma 31), .ref (ma 32), .ref (ma 33), .ref (ma 34), .ref (ma 35), .ref (ma 36), .ref (ma 37), .int 0, .ref (ma 39), .ref (ma 40), .ref (ma 41), .ref (ma 42), .ref (ma 43), .ref (ma 44), .ref (ma 45), .ref (ma 46), .ref (ma 47), .ref (ma 48), .int 0, .int 0, .int 0, .int 0, .int 0, .int 0, .int 0, .long 0, .int 0, .long 0, .long 0, .long 0, .long 0, .int 0, .int 0, .int 0, .int 0, .long 0])), (ma 39, .inl (G.2 0, 6, .inl (fun _ => 0)))]) (wr := [(ma 11, .inl (G.2 4, 96, .inr (.inl (fun _ => 0))))]) (As := [.int 1]) (rest := []) C0 (c_X9_no l G m0 ma 1 (by unfold vp_in; decide +kernel)) ok_X9_no (mW177 : Cond.methodLink RX9 168 yX9_no ∈ wsT) ⟨Nat.le_of_ble_eq_true rfl, Nat.le_of_ble_eq_true rfl⟩ hP hD hS hA hK hN [0, 1] [2] rfl rfl (by decide) (by decide) (by decide) rfl rfl rfl rfl hl.1 rfl (Nat.le_of_ble_eq_true rfl) ⟨Nat.le_of_ble_eq_true rfl, Nat.le_of_ble_eq_true rfl⟩ dX9_rate_54 (fun r_14 u_15 H locs hr_14 hP hD hS => ?_)
        have hP : va_P G.1 xcl [(ma 11, .inl (G.2 4, 96, .inr (.inl (fun _ => 0))))] H := hP
        have hD : va_D A [(ma 11, .inl (G.2 4, 96, .inr (.inl (fun _ => 0))))] := hD
        obtain rfl : r_14 = (-1) := hr_14
        refine lv_pop hx hb dX9_rate_57 rfl ?_
        refine lv_iconst (v := 0) hx hb dX9_rate_58 (by decide) ?_
        have hP9 := hP.sub (ws' := []) [] rfl
        have hD9 := hD.sub (ws' := []) [] (by decide) rfl
        exact W.zret (v := 0) (ty := .boolean) hx hb hr rfl (fun t ht hW => ⟨⟨0, (), rfl, rfl, by rw [ht]; exact hP9, hD9⟩, hS.F ht⟩) hS.2.2 dX9_rate_59
      · refine lv_lload hx hb dX9_rate_26 (lv_at hl 3 rfl) ?_
        refine lv_ldc2 (v := 1000000000) hx hb hown (htl (.constantLong RX9 221 (1000000000)) mW551) dX9_rate_28 ?_
        refine W.lcmp hx hb dX9_rate_31 ?_
        refine lv_topi (fun z_16 ez_16 => ?_)
        refine lv_if_le (tgt := 39) hx hb dX9_rate_32 (by decide) (fun c_17 => ?_) (fun c_17 => ?_)
        · refine lv_aload_n hx hb dX9_rate_39 rfl (lv_at hl 0 rfl) ?_
          refine lv_iload_n hx hb dX9_rate_40 rfl (lv_at hl 1 rfl) ?_
          refine xVri (rq := 0) (ci := 9) (wc := [(m0, .inr (9, [.int 0, .int 0, .int 0, .int (-1), .ref (ma 4), .ref (ma 5), .ref (ma 6), .ref (ma 7), .ref (ma 8), .ref (ma 9), .ref (ma 10), .ref (ma 11), .ref (ma 12), .ref (ma 13), .ref (ma 14), .ref (ma 15), .ref (ma 16), .ref (ma 17), .ref (ma 18), .ref (ma 19), .int 0, .ref (ma 21), .ref (ma 22), .ref (ma 23), .ref (ma 24), .ref (ma 25), .ref (ma 26), .ref (ma 27), .ref (ma 28), .ref (ma 29), .ref (ma 30), .ref (ma 31), .ref (ma 32), .ref (ma 33), .ref (ma 34), .ref (ma 35), .ref (ma 36), .ref (ma 37), .int 0, .ref (ma 39), .ref (ma 40), .ref (ma 41), .ref (ma 42), .ref (ma 43), .ref (ma 44), .ref (ma 45), .ref (ma 46), .ref (ma 47), .ref (ma 48), .int 0, .int 0, .int 0, .int 0, .int 0, .int 0, .int 0, .long 0, .int 0, .long 0, .long 0, .long 0, .long 0, .int 0, .int 0, .int 0, .int 0, .long 0])), (ma 11, .inl (G.2 4, 96, .inr (.inl (fun _ => 0))))]) (As := [.int p0]) (rest := []) C0 (c_X9_portWhy l G m0 ma p0) ok_X9_portWhy (mW387 : Cond.methodLink RX9 165 yX9_portWhy ∈ wsT) ⟨Nat.le_of_ble_eq_true rfl, Nat.le_of_ble_eq_true rfl⟩ hP hD hK hN [0, 2] rfl (by decide) rfl rfl rfl rfl hl.1 rfl (Nat.le_of_ble_eq_true rfl) ⟨Nat.le_of_ble_eq_true rfl, Nat.le_of_ble_eq_true rfl⟩ dX9_rate_41 (fun r_18 hr_18 => ?_)
          refine lv_istore (lv' := [(6, .int r_18), (0, .ref m0), (1, .int p0), (2, .long p1), (4, .long p2)]) hx hb dX9_rate_44 hl (by decide) rfl (fun ls hl => ?_)
          refine lv_iload hx hb dX9_rate_46 (lv_at hl 0 rfl) ?_
          refine lv_if_eq (tgt := 60) hx hb dX9_rate_48 (by decide) (fun c_19 => absurd c_19 (xn0 hr_18)) (fun c_19 => ?_)
          refine lv_aload_n hx hb dX9_rate_51 rfl (lv_at hl 1 rfl) ?_
          refine lv_iload hx hb dX9_rate_52 (lv_at hl 0 rfl) ?_
          refine xVwi (rq := 0) (ci := 9) (wc := [(m0, .inr (9, [.int 0, .int 0, .int 0, .int (-1), .ref (ma 4), .ref (ma 5), .ref (ma 6), .ref (ma 7), .ref (ma 8), .ref (ma 9), .ref (ma 10), .ref (ma 11), .ref (ma 12), .ref (ma 13), .ref (ma 14), .ref (ma 15), .ref (ma 16), .ref (ma 17), .ref (ma 18), .ref (ma 19), .int 0, .ref (ma 21), .ref (ma 22), .ref (ma 23), .ref (ma 24), .ref (ma 25), .ref (ma 26), .ref (ma 27), .ref (ma 28), .ref (ma 29), .ref (ma 30), .ref (ma 31), .ref (ma 32), .ref (ma 33), .ref (ma 34), .ref (ma 35), .ref (ma 36), .ref (ma 37), .int 0, .ref (ma 39), .ref (ma 40), .ref (ma 41), .ref (ma 42), .ref (ma 43), .ref (ma 44), .ref (ma 45), .ref (ma 46), .ref (ma 47), .ref (ma 48), .int 0, .int 0, .int 0, .int 0, .int 0, .int 0, .int 0, .long 0, .int 0, .long 0, .long 0, .long 0, .long 0, .int 0, .int 0, .int 0, .int 0, .long 0])), (ma 39, .inl (G.2 0, 6, .inl (fun _ => 0)))]) (wr := [(ma 11, .inl (G.2 4, 96, .inr (.inl (fun _ => 0))))]) (As := [.int r_18]) (rest := []) C0 (c_X9_no l G m0 ma r_18 (xin6 hr_18)) ok_X9_no (mW177 : Cond.methodLink RX9 168 yX9_no ∈ wsT) ⟨Nat.le_of_ble_eq_true rfl, Nat.le_of_ble_eq_true rfl⟩ hP hD hS hA hK hN [0, 1] [2] rfl rfl (by decide) (by decide) (by decide) rfl rfl rfl rfl hl.1 rfl (Nat.le_of_ble_eq_true rfl) ⟨Nat.le_of_ble_eq_true rfl, Nat.le_of_ble_eq_true rfl⟩ dX9_rate_54 (fun r_20 u_21 H locs hr_20 hP hD hS => ?_)
          have hP : va_P G.1 xcl [(ma 11, .inl (G.2 4, 96, .inr (.inl (fun _ => 0))))] H := hP
          have hD : va_D A [(ma 11, .inl (G.2 4, 96, .inr (.inl (fun _ => 0))))] := hD
          obtain rfl : r_20 = (-1) := hr_20
          refine lv_pop hx hb dX9_rate_57 rfl ?_
          refine lv_iconst (v := 0) hx hb dX9_rate_58 (by decide) ?_
          have hP9 := hP.sub (ws' := []) [] rfl
          have hD9 := hD.sub (ws' := []) [] (by decide) rfl
          exact W.zret (v := 0) (ty := .boolean) hx hb hr rfl (fun t ht hW => ⟨⟨0, (), rfl, rfl, by rw [ht]; exact hP9, hD9⟩, hS.F ht⟩) hS.2.2 dX9_rate_59
        · refine lv_iconst (v := 1) hx hb dX9_rate_35 (by decide) ?_
          refine lv_goto (tgt := 44) hx hb dX9_rate_36 (by decide) ?_
          refine lv_istore (lv' := [(6, .int 1), (0, .ref m0), (1, .int p0), (2, .long p1), (4, .long p2)]) hx hb dX9_rate_44 hl (by decide) rfl (fun ls hl => ?_)
          refine lv_iload hx hb dX9_rate_46 (lv_at hl 0 rfl) ?_
          refine lv_if_eq (tgt := 60) hx hb dX9_rate_48 (by decide) (fun c_22 => absurd c_22 (by decide +kernel)) (fun c_22 => ?_)
          refine lv_aload_n hx hb dX9_rate_51 rfl (lv_at hl 1 rfl) ?_
          refine lv_iload hx hb dX9_rate_52 (lv_at hl 0 rfl) ?_
          refine xVwi (rq := 0) (ci := 9) (wc := [(m0, .inr (9, [.int 0, .int 0, .int 0, .int (-1), .ref (ma 4), .ref (ma 5), .ref (ma 6), .ref (ma 7), .ref (ma 8), .ref (ma 9), .ref (ma 10), .ref (ma 11), .ref (ma 12), .ref (ma 13), .ref (ma 14), .ref (ma 15), .ref (ma 16), .ref (ma 17), .ref (ma 18), .ref (ma 19), .int 0, .ref (ma 21), .ref (ma 22), .ref (ma 23), .ref (ma 24), .ref (ma 25), .ref (ma 26), .ref (ma 27), .ref (ma 28), .ref (ma 29), .ref (ma 30), .ref (ma 31), .ref (ma 32), .ref (ma 33), .ref (ma 34), .ref (ma 35), .ref (ma 36), .ref (ma 37), .int 0, .ref (ma 39), .ref (ma 40), .ref (ma 41), .ref (ma 42), .ref (ma 43), .ref (ma 44), .ref (ma 45), .ref (ma 46), .ref (ma 47), .ref (ma 48), .int 0, .int 0, .int 0, .int 0, .int 0, .int 0, .int 0, .long 0, .int 0, .long 0, .long 0, .long 0, .long 0, .int 0, .int 0, .int 0, .int 0, .long 0])), (ma 39, .inl (G.2 0, 6, .inl (fun _ => 0)))]) (wr := [(ma 11, .inl (G.2 4, 96, .inr (.inl (fun _ => 0))))]) (As := [.int 1]) (rest := []) C0 (c_X9_no l G m0 ma 1 (by unfold vp_in; decide +kernel)) ok_X9_no (mW177 : Cond.methodLink RX9 168 yX9_no ∈ wsT) ⟨Nat.le_of_ble_eq_true rfl, Nat.le_of_ble_eq_true rfl⟩ hP hD hS hA hK hN [0, 1] [2] rfl rfl (by decide) (by decide) (by decide) rfl rfl rfl rfl hl.1 rfl (Nat.le_of_ble_eq_true rfl) ⟨Nat.le_of_ble_eq_true rfl, Nat.le_of_ble_eq_true rfl⟩ dX9_rate_54 (fun r_23 u_24 H locs hr_23 hP hD hS => ?_)
          have hP : va_P G.1 xcl [(ma 11, .inl (G.2 4, 96, .inr (.inl (fun _ => 0))))] H := hP
          have hD : va_D A [(ma 11, .inl (G.2 4, 96, .inr (.inl (fun _ => 0))))] := hD
          obtain rfl : r_23 = (-1) := hr_23
          refine lv_pop hx hb dX9_rate_57 rfl ?_
          refine lv_iconst (v := 0) hx hb dX9_rate_58 (by decide) ?_
          have hP9 := hP.sub (ws' := []) [] rfl
          have hD9 := hD.sub (ws' := []) [] (by decide) rfl
          exact W.zret (v := 0) (ty := .boolean) hx hb hr rfl (fun t ht hW => ⟨⟨0, (), rfl, rfl, by rw [ht]; exact hP9, hD9⟩, hS.F ht⟩) hS.2.2 dX9_rate_59
theorem dX9_told_0 : decode cX9_told 0 = .ok (.aload_n 0, 1) := by decide +kernel
theorem dX9_told_1 : decode cX9_told 1 = .ok (.iconst 0, 1) := by decide +kernel
theorem dX9_told_2 : decode cX9_told 2 = .ok (.putfield 147, 3) := by decide +kernel
theorem dX9_told_5 : decode cX9_told 5 = .ok (.iload_n 2, 1) := by decide +kernel
theorem dX9_told_6 : decode cX9_told 6 = .ok (.ifCond .lt 9, 3) := by decide +kernel
theorem dX9_told_9 : decode cX9_told 9 = .ok (.iload_n 2, 1) := by decide +kernel
theorem dX9_told_10 : decode cX9_told 10 = .ok (.bipush 7, 2) := by decide +kernel
theorem dX9_told_12 : decode cX9_told 12 = .ok (.if_icmp .le 7, 3) := by decide +kernel
theorem dX9_told_15 : decode cX9_told 15 = .ok (.iconst 1, 1) := by decide +kernel
theorem dX9_told_16 : decode cX9_told 16 = .ok (.goto 8, 3) := by decide +kernel
theorem dX9_told_19 : decode cX9_told 19 = .ok (.aload_n 0, 1) := by decide +kernel
theorem dX9_told_20 : decode cX9_told 20 = .ok (.iload_n 1, 1) := by decide +kernel
theorem dX9_told_21 : decode cX9_told 21 = .ok (.invokevirtual 165, 3) := by decide +kernel
theorem dX9_told_24 : decode cX9_told 24 = .ok (.istore_n 3, 1) := by decide +kernel
theorem dX9_told_25 : decode cX9_told 25 = .ok (.iload_n 3, 1) := by decide +kernel
theorem dX9_told_26 : decode cX9_told 26 = .ok (.ifCond .eq 9, 3) := by decide +kernel
theorem dX9_told_29 : decode cX9_told 29 = .ok (.aload_n 0, 1) := by decide +kernel
theorem dX9_told_30 : decode cX9_told 30 = .ok (.iload_n 3, 1) := by decide +kernel
theorem dX9_told_31 : decode cX9_told 31 = .ok (.invokevirtual 168, 3) := by decide +kernel
theorem dX9_told_34 : decode cX9_told 34 = .ok (.ireturn, 1) := by decide +kernel
set_option maxHeartbeats 4000000 in
set_option maxRecDepth 100000 in
theorem c_X9_told (l : Launch) (G : xG) (m0 : Nat) (ma : Nat → Nat) (p0 : Int32) (p1 : Int32)  : xWi l G yX9_told cX9_told 4 (some .int) 2 42 0 0 [.ref m0, .int p0, .int p1] [(m0, .inr (9, [.int 0, .int 0, .int 0, .int (-1), .ref (ma 4), .ref (ma 5), .ref (ma 6), .ref (ma 7), .ref (ma 8), .ref (ma 9), .ref (ma 10), .ref (ma 11), .ref (ma 12), .ref (ma 13), .ref (ma 14), .ref (ma 15), .ref (ma 16), .ref (ma 17), .ref (ma 18), .ref (ma 19), .int 0, .ref (ma 21), .ref (ma 22), .ref (ma 23), .ref (ma 24), .ref (ma 25), .ref (ma 26), .ref (ma 27), .ref (ma 28), .ref (ma 29), .ref (ma 30), .ref (ma 31), .ref (ma 32), .ref (ma 33), .ref (ma 34), .ref (ma 35), .ref (ma 36), .ref (ma 37), .int 0, .ref (ma 39), .ref (ma 40), .ref (ma 41), .ref (ma 42), .ref (ma 43), .ref (ma 44), .ref (ma 45), .ref (ma 46), .ref (ma 47), .ref (ma 48), .int 0, .int 0, .int 0, .int 0, .int 0, .int 0, .int 0, .long 0, .int 0, .long 0, .long 0, .long 0, .long 0, .int 0, .int 0, .int 0, .int 0, .long 0])), (ma 39, .inl (G.2 0, 6, .inl (fun _ => 0))), (ma 11, .inl (G.2 4, 96, .inr (.inl (fun _ => 0))))] (S := Unit) (fun r _ => r = (-1)) (fun _ => []) := by
  intro sz
  refine xstart (by decide) (Nat.le_of_ble_eq_true rfl) (fun p e s m args below meth c ls C0 hr hlocks hin hsz hP hK hD hN hl => ?_)
  obtain ⟨hx, hb, hml, hown, htl⟩ := id C0
  subst hsz
  have hD := hD.self (sz := s.heap.size)
  generalize hAe : va_A [(m0, .inr (9, [.int 0, .int 0, .int 0, .int (-1), .ref (ma 4), .ref (ma 5), .ref (ma 6), .ref (ma 7), .ref (ma 8), .ref (ma 9), .ref (ma 10), .ref (ma 11), .ref (ma 12), .ref (ma 13), .ref (ma 14), .ref (ma 15), .ref (ma 16), .ref (ma 17), .ref (ma 18), .ref (ma 19), .int 0, .ref (ma 21), .ref (ma 22), .ref (ma 23), .ref (ma 24), .ref (ma 25), .ref (ma 26), .ref (ma 27), .ref (ma 28), .ref (ma 29), .ref (ma 30), .ref (ma 31), .ref (ma 32), .ref (ma 33), .ref (ma 34), .ref (ma 35), .ref (ma 36), .ref (ma 37), .int 0, .ref (ma 39), .ref (ma 40), .ref (ma 41), .ref (ma 42), .ref (ma 43), .ref (ma 44), .ref (ma 45), .ref (ma 46), .ref (ma 47), .ref (ma 48), .int 0, .int 0, .int 0, .int 0, .int 0, .int 0, .int 0, .long 0, .int 0, .long 0, .long 0, .long 0, .long 0, .int 0, .int 0, .int 0, .int 0, .long 0])), (ma 39, .inl (G.2 0, 6, .inl (fun _ => 0))), (ma 11, .inl (G.2 4, 96, .inr (.inl (fun _ => 0))))] s.heap.size = A at hD ⊢
  have hA : ∀ q : Nat, s.heap.size ≤ q → A q := fun q h => by rw [← hAe]; exact Or.inr h
  have hS : va_S A s.heap s.heap [] := va_S.rf
  have hl : lv_has ls 4 [(0, .ref m0), (1, .int p0), (2, .int p1)] := hl
  refine lv_aload_n hx hb dX9_told_0 rfl (lv_at hl 0 rfl) ?_
  refine lv_iconst (v := 0) hx hb dX9_told_1 (by decide) ?_
  refine va_put (D := G.1) (ci := 9) (v := .int 0) (ty := .int) (C := RX9) (T := TX9) (N := 67) hx hb htl inlX9 tyX9 tyX9_ok nmX9 hown hK hP hD hS 0 rfl rfl 38 (by decide) (htl (.fieldLink RX9 147 "LaytimeDeskModel" "reason" "I") mW175) (fun _ h9 => h9) rfl (by decide +kernel) rfl rfl (Nat.le_of_ble_eq_true rfl) dX9_told_2 (fun H locs hP hD hS => ?_)
  have hP : va_P G.1 xcl [(m0, .inr (9, [.int 0, .int 0, .int 0, .int (-1), .ref (ma 4), .ref (ma 5), .ref (ma 6), .ref (ma 7), .ref (ma 8), .ref (ma 9), .ref (ma 10), .ref (ma 11), .ref (ma 12), .ref (ma 13), .ref (ma 14), .ref (ma 15), .ref (ma 16), .ref (ma 17), .ref (ma 18), .ref (ma 19), .int 0, .ref (ma 21), .ref (ma 22), .ref (ma 23), .ref (ma 24), .ref (ma 25), .ref (ma 26), .ref (ma 27), .ref (ma 28), .ref (ma 29), .ref (ma 30), .ref (ma 31), .ref (ma 32), .ref (ma 33), .ref (ma 34), .ref (ma 35), .ref (ma 36), .ref (ma 37), .int 0, .ref (ma 39), .ref (ma 40), .ref (ma 41), .ref (ma 42), .ref (ma 43), .ref (ma 44), .ref (ma 45), .ref (ma 46), .ref (ma 47), .ref (ma 48), .int 0, .int 0, .int 0, .int 0, .int 0, .int 0, .int 0, .long 0, .int 0, .long 0, .long 0, .long 0, .long 0, .int 0, .int 0, .int 0, .int 0, .long 0])), (ma 39, .inl (G.2 0, 6, .inl (fun _ => 0))), (ma 11, .inl (G.2 4, 96, .inr (.inl (fun _ => 0))))] H := hP
  have hD : va_D A [(m0, .inr (9, [.int 0, .int 0, .int 0, .int (-1), .ref (ma 4), .ref (ma 5), .ref (ma 6), .ref (ma 7), .ref (ma 8), .ref (ma 9), .ref (ma 10), .ref (ma 11), .ref (ma 12), .ref (ma 13), .ref (ma 14), .ref (ma 15), .ref (ma 16), .ref (ma 17), .ref (ma 18), .ref (ma 19), .int 0, .ref (ma 21), .ref (ma 22), .ref (ma 23), .ref (ma 24), .ref (ma 25), .ref (ma 26), .ref (ma 27), .ref (ma 28), .ref (ma 29), .ref (ma 30), .ref (ma 31), .ref (ma 32), .ref (ma 33), .ref (ma 34), .ref (ma 35), .ref (ma 36), .ref (ma 37), .int 0, .ref (ma 39), .ref (ma 40), .ref (ma 41), .ref (ma 42), .ref (ma 43), .ref (ma 44), .ref (ma 45), .ref (ma 46), .ref (ma 47), .ref (ma 48), .int 0, .int 0, .int 0, .int 0, .int 0, .int 0, .int 0, .long 0, .int 0, .long 0, .long 0, .long 0, .long 0, .int 0, .int 0, .int 0, .int 0, .long 0])), (ma 39, .inl (G.2 0, 6, .inl (fun _ => 0))), (ma 11, .inl (G.2 4, 96, .inr (.inl (fun _ => 0))))] := hD
  refine lv_iload_n hx hb dX9_told_5 rfl (lv_at hl 2 rfl) ?_
  refine lv_if_lt (tgt := 15) hx hb dX9_told_6 (by decide) (fun c_1 => ?_) (fun c_1 => ?_)
  · refine lv_iconst (v := 1) hx hb dX9_told_15 (by decide) ?_
    refine lv_goto (tgt := 24) hx hb dX9_told_16 (by decide) ?_
    refine lv_istore_n (lv' := [(3, .int 1), (0, .ref m0), (1, .int p0), (2, .int p1)]) hx hb dX9_told_24 rfl hl (by decide) rfl (fun ls hl => ?_)
    refine lv_iload_n hx hb dX9_told_25 rfl (lv_at hl 0 rfl) ?_
    refine lv_if_eq (tgt := 35) hx hb dX9_told_26 (by decide) (fun c_2 => absurd c_2 (by decide +kernel)) (fun c_2 => ?_)
    refine lv_aload_n hx hb dX9_told_29 rfl (lv_at hl 1 rfl) ?_
    refine lv_iload_n hx hb dX9_told_30 rfl (lv_at hl 0 rfl) ?_
    refine xVwi (rq := 0) (ci := 9) (wc := [(m0, .inr (9, [.int 0, .int 0, .int 0, .int (-1), .ref (ma 4), .ref (ma 5), .ref (ma 6), .ref (ma 7), .ref (ma 8), .ref (ma 9), .ref (ma 10), .ref (ma 11), .ref (ma 12), .ref (ma 13), .ref (ma 14), .ref (ma 15), .ref (ma 16), .ref (ma 17), .ref (ma 18), .ref (ma 19), .int 0, .ref (ma 21), .ref (ma 22), .ref (ma 23), .ref (ma 24), .ref (ma 25), .ref (ma 26), .ref (ma 27), .ref (ma 28), .ref (ma 29), .ref (ma 30), .ref (ma 31), .ref (ma 32), .ref (ma 33), .ref (ma 34), .ref (ma 35), .ref (ma 36), .ref (ma 37), .int 0, .ref (ma 39), .ref (ma 40), .ref (ma 41), .ref (ma 42), .ref (ma 43), .ref (ma 44), .ref (ma 45), .ref (ma 46), .ref (ma 47), .ref (ma 48), .int 0, .int 0, .int 0, .int 0, .int 0, .int 0, .int 0, .long 0, .int 0, .long 0, .long 0, .long 0, .long 0, .int 0, .int 0, .int 0, .int 0, .long 0])), (ma 39, .inl (G.2 0, 6, .inl (fun _ => 0)))]) (wr := [(ma 11, .inl (G.2 4, 96, .inr (.inl (fun _ => 0))))]) (As := [.int 1]) (rest := []) C0 (c_X9_no l G m0 ma 1 (by unfold vp_in; decide +kernel)) ok_X9_no (mW177 : Cond.methodLink RX9 168 yX9_no ∈ wsT) ⟨Nat.le_of_ble_eq_true rfl, Nat.le_of_ble_eq_true rfl⟩ hP hD hS hA hK hN [0, 1] [2] rfl rfl (by decide) (by decide) (by decide) rfl rfl rfl rfl hl.1 rfl (Nat.le_of_ble_eq_true rfl) ⟨Nat.le_of_ble_eq_true rfl, Nat.le_of_ble_eq_true rfl⟩ dX9_told_31 (fun r_3 u_4 H locs hr_3 hP hD hS => ?_)
    have hP : va_P G.1 xcl [(ma 11, .inl (G.2 4, 96, .inr (.inl (fun _ => 0))))] H := hP
    have hD : va_D A [(ma 11, .inl (G.2 4, 96, .inr (.inl (fun _ => 0))))] := hD
    obtain rfl : r_3 = (-1) := hr_3
    have hP9 := hP.sub (ws' := []) [] rfl
    have hD9 := hD.sub (ws' := []) [] (by decide) rfl
    exact W.iret (v := (-1)) hx hb hr (fun t ht hW => ⟨⟨(-1), (), rfl, rfl, by rw [ht]; exact hP9, hD9⟩, hS.F ht⟩) hS.2.2 dX9_told_34
  · refine lv_iload_n hx hb dX9_told_9 rfl (lv_at hl 2 rfl) ?_
    refine lv_bipush (v := 7) hx hb dX9_told_10 (by decide) ?_
    refine lv_icmp_le (tgt := 19) hx hb dX9_told_12 (by decide) (fun c_5 => ?_) (fun c_5 => ?_)
    · refine lv_aload_n hx hb dX9_told_19 rfl (lv_at hl 0 rfl) ?_
      refine lv_iload_n hx hb dX9_told_20 rfl (lv_at hl 1 rfl) ?_
      refine xVri (rq := 0) (ci := 9) (wc := [(m0, .inr (9, [.int 0, .int 0, .int 0, .int (-1), .ref (ma 4), .ref (ma 5), .ref (ma 6), .ref (ma 7), .ref (ma 8), .ref (ma 9), .ref (ma 10), .ref (ma 11), .ref (ma 12), .ref (ma 13), .ref (ma 14), .ref (ma 15), .ref (ma 16), .ref (ma 17), .ref (ma 18), .ref (ma 19), .int 0, .ref (ma 21), .ref (ma 22), .ref (ma 23), .ref (ma 24), .ref (ma 25), .ref (ma 26), .ref (ma 27), .ref (ma 28), .ref (ma 29), .ref (ma 30), .ref (ma 31), .ref (ma 32), .ref (ma 33), .ref (ma 34), .ref (ma 35), .ref (ma 36), .ref (ma 37), .int 0, .ref (ma 39), .ref (ma 40), .ref (ma 41), .ref (ma 42), .ref (ma 43), .ref (ma 44), .ref (ma 45), .ref (ma 46), .ref (ma 47), .ref (ma 48), .int 0, .int 0, .int 0, .int 0, .int 0, .int 0, .int 0, .long 0, .int 0, .long 0, .long 0, .long 0, .long 0, .int 0, .int 0, .int 0, .int 0, .long 0])), (ma 11, .inl (G.2 4, 96, .inr (.inl (fun _ => 0))))]) (As := [.int p0]) (rest := []) C0 (c_X9_portWhy l G m0 ma p0) ok_X9_portWhy (mW387 : Cond.methodLink RX9 165 yX9_portWhy ∈ wsT) ⟨Nat.le_of_ble_eq_true rfl, Nat.le_of_ble_eq_true rfl⟩ hP hD hK hN [0, 2] rfl (by decide) rfl rfl rfl rfl hl.1 rfl (Nat.le_of_ble_eq_true rfl) ⟨Nat.le_of_ble_eq_true rfl, Nat.le_of_ble_eq_true rfl⟩ dX9_told_21 (fun r_6 hr_6 => ?_)
      refine lv_istore_n (lv' := [(3, .int r_6), (0, .ref m0), (1, .int p0), (2, .int p1)]) hx hb dX9_told_24 rfl hl (by decide) rfl (fun ls hl => ?_)
      refine lv_iload_n hx hb dX9_told_25 rfl (lv_at hl 0 rfl) ?_
      refine lv_if_eq (tgt := 35) hx hb dX9_told_26 (by decide) (fun c_7 => absurd c_7 (xn0 hr_6)) (fun c_7 => ?_)
      refine lv_aload_n hx hb dX9_told_29 rfl (lv_at hl 1 rfl) ?_
      refine lv_iload_n hx hb dX9_told_30 rfl (lv_at hl 0 rfl) ?_
      refine xVwi (rq := 0) (ci := 9) (wc := [(m0, .inr (9, [.int 0, .int 0, .int 0, .int (-1), .ref (ma 4), .ref (ma 5), .ref (ma 6), .ref (ma 7), .ref (ma 8), .ref (ma 9), .ref (ma 10), .ref (ma 11), .ref (ma 12), .ref (ma 13), .ref (ma 14), .ref (ma 15), .ref (ma 16), .ref (ma 17), .ref (ma 18), .ref (ma 19), .int 0, .ref (ma 21), .ref (ma 22), .ref (ma 23), .ref (ma 24), .ref (ma 25), .ref (ma 26), .ref (ma 27), .ref (ma 28), .ref (ma 29), .ref (ma 30), .ref (ma 31), .ref (ma 32), .ref (ma 33), .ref (ma 34), .ref (ma 35), .ref (ma 36), .ref (ma 37), .int 0, .ref (ma 39), .ref (ma 40), .ref (ma 41), .ref (ma 42), .ref (ma 43), .ref (ma 44), .ref (ma 45), .ref (ma 46), .ref (ma 47), .ref (ma 48), .int 0, .int 0, .int 0, .int 0, .int 0, .int 0, .int 0, .long 0, .int 0, .long 0, .long 0, .long 0, .long 0, .int 0, .int 0, .int 0, .int 0, .long 0])), (ma 39, .inl (G.2 0, 6, .inl (fun _ => 0)))]) (wr := [(ma 11, .inl (G.2 4, 96, .inr (.inl (fun _ => 0))))]) (As := [.int r_6]) (rest := []) C0 (c_X9_no l G m0 ma r_6 (xin6 hr_6)) ok_X9_no (mW177 : Cond.methodLink RX9 168 yX9_no ∈ wsT) ⟨Nat.le_of_ble_eq_true rfl, Nat.le_of_ble_eq_true rfl⟩ hP hD hS hA hK hN [0, 1] [2] rfl rfl (by decide) (by decide) (by decide) rfl rfl rfl rfl hl.1 rfl (Nat.le_of_ble_eq_true rfl) ⟨Nat.le_of_ble_eq_true rfl, Nat.le_of_ble_eq_true rfl⟩ dX9_told_31 (fun r_8 u_9 H locs hr_8 hP hD hS => ?_)
      have hP : va_P G.1 xcl [(ma 11, .inl (G.2 4, 96, .inr (.inl (fun _ => 0))))] H := hP
      have hD : va_D A [(ma 11, .inl (G.2 4, 96, .inr (.inl (fun _ => 0))))] := hD
      obtain rfl : r_8 = (-1) := hr_8
      have hP9 := hP.sub (ws' := []) [] rfl
      have hD9 := hD.sub (ws' := []) [] (by decide) rfl
      exact W.iret (v := (-1)) hx hb hr (fun t ht hW => ⟨⟨(-1), (), rfl, rfl, by rw [ht]; exact hP9, hD9⟩, hS.F ht⟩) hS.2.2 dX9_told_34
    · refine lv_iconst (v := 1) hx hb dX9_told_15 (by decide) ?_
      refine lv_goto (tgt := 24) hx hb dX9_told_16 (by decide) ?_
      refine lv_istore_n (lv' := [(3, .int 1), (0, .ref m0), (1, .int p0), (2, .int p1)]) hx hb dX9_told_24 rfl hl (by decide) rfl (fun ls hl => ?_)
      refine lv_iload_n hx hb dX9_told_25 rfl (lv_at hl 0 rfl) ?_
      refine lv_if_eq (tgt := 35) hx hb dX9_told_26 (by decide) (fun c_10 => absurd c_10 (by decide +kernel)) (fun c_10 => ?_)
      refine lv_aload_n hx hb dX9_told_29 rfl (lv_at hl 1 rfl) ?_
      refine lv_iload_n hx hb dX9_told_30 rfl (lv_at hl 0 rfl) ?_
      refine xVwi (rq := 0) (ci := 9) (wc := [(m0, .inr (9, [.int 0, .int 0, .int 0, .int (-1), .ref (ma 4), .ref (ma 5), .ref (ma 6), .ref (ma 7), .ref (ma 8), .ref (ma 9), .ref (ma 10), .ref (ma 11), .ref (ma 12), .ref (ma 13), .ref (ma 14), .ref (ma 15), .ref (ma 16), .ref (ma 17), .ref (ma 18), .ref (ma 19), .int 0, .ref (ma 21), .ref (ma 22), .ref (ma 23), .ref (ma 24), .ref (ma 25), .ref (ma 26), .ref (ma 27), .ref (ma 28), .ref (ma 29), .ref (ma 30), .ref (ma 31), .ref (ma 32), .ref (ma 33), .ref (ma 34), .ref (ma 35), .ref (ma 36), .ref (ma 37), .int 0, .ref (ma 39), .ref (ma 40), .ref (ma 41), .ref (ma 42), .ref (ma 43), .ref (ma 44), .ref (ma 45), .ref (ma 46), .ref (ma 47), .ref (ma 48), .int 0, .int 0, .int 0, .int 0, .int 0, .int 0, .int 0, .long 0, .int 0, .long 0, .long 0, .long 0, .long 0, .int 0, .int 0, .int 0, .int 0, .long 0])), (ma 39, .inl (G.2 0, 6, .inl (fun _ => 0)))]) (wr := [(ma 11, .inl (G.2 4, 96, .inr (.inl (fun _ => 0))))]) (As := [.int 1]) (rest := []) C0 (c_X9_no l G m0 ma 1 (by unfold vp_in; decide +kernel)) ok_X9_no (mW177 : Cond.methodLink RX9 168 yX9_no ∈ wsT) ⟨Nat.le_of_ble_eq_true rfl, Nat.le_of_ble_eq_true rfl⟩ hP hD hS hA hK hN [0, 1] [2] rfl rfl (by decide) (by decide) (by decide) rfl rfl rfl rfl hl.1 rfl (Nat.le_of_ble_eq_true rfl) ⟨Nat.le_of_ble_eq_true rfl, Nat.le_of_ble_eq_true rfl⟩ dX9_told_31 (fun r_11 u_12 H locs hr_11 hP hD hS => ?_)
      have hP : va_P G.1 xcl [(ma 11, .inl (G.2 4, 96, .inr (.inl (fun _ => 0))))] H := hP
      have hD : va_D A [(ma 11, .inl (G.2 4, 96, .inr (.inl (fun _ => 0))))] := hD
      obtain rfl : r_11 = (-1) := hr_11
      have hP9 := hP.sub (ws' := []) [] rfl
      have hD9 := hD.sub (ws' := []) [] (by decide) rfl
      exact W.iret (v := (-1)) hx hb hr (fun t ht hW => ⟨⟨(-1), (), rfl, rfl, by rw [ht]; exact hP9, hD9⟩, hS.F ht⟩) hS.2.2 dX9_told_34
theorem dX9_state_0 : decode cX9_state 0 = .ok (.aload_n 0, 1) := by decide +kernel
theorem dX9_state_1 : decode cX9_state 1 = .ok (.iconst 0, 1) := by decide +kernel
theorem dX9_state_2 : decode cX9_state 2 = .ok (.putfield 147, 3) := by decide +kernel
theorem dX9_state_5 : decode cX9_state 5 = .ok (.aload_n 0, 1) := by decide +kernel
theorem dX9_state_6 : decode cX9_state 6 = .ok (.iload_n 1, 1) := by decide +kernel
theorem dX9_state_7 : decode cX9_state 7 = .ok (.iload_n 2, 1) := by decide +kernel
theorem dX9_state_8 : decode cX9_state 8 = .ok (.invokevirtual 195, 3) := by decide +kernel
theorem dX9_state_11 : decode cX9_state 11 = .ok (.istore_n 3, 1) := by decide +kernel
theorem dX9_state_12 : decode cX9_state 12 = .ok (.iload_n 3, 1) := by decide +kernel
theorem dX9_state_13 : decode cX9_state 13 = .ok (.ifCond .ne 14, 3) := by decide +kernel
theorem dX9_state_27 : decode cX9_state 27 = .ok (.iload_n 3, 1) := by decide +kernel
theorem dX9_state_28 : decode cX9_state 28 = .ok (.ifCond .eq 9, 3) := by decide +kernel
theorem dX9_state_31 : decode cX9_state 31 = .ok (.aload_n 0, 1) := by decide +kernel
theorem dX9_state_32 : decode cX9_state 32 = .ok (.iload_n 3, 1) := by decide +kernel
theorem dX9_state_33 : decode cX9_state 33 = .ok (.invokevirtual 168, 3) := by decide +kernel
theorem dX9_state_36 : decode cX9_state 36 = .ok (.ireturn, 1) := by decide +kernel
set_option maxHeartbeats 4000000 in
set_option maxRecDepth 100000 in
theorem c_X9_state (l : Launch) (G : xG) (m0 : Nat) (ma : Nat → Nat) (p0 : Int32) (p1 : Int32)  : xWi l G yX9_state cX9_state 6 (some .int) 3 65 0 0 [.ref m0, .int p0, .int p1] [(m0, .inr (9, [.int 0, .int 0, .int 0, .int (-1), .ref (ma 4), .ref (ma 5), .ref (ma 6), .ref (ma 7), .ref (ma 8), .ref (ma 9), .ref (ma 10), .ref (ma 11), .ref (ma 12), .ref (ma 13), .ref (ma 14), .ref (ma 15), .ref (ma 16), .ref (ma 17), .ref (ma 18), .ref (ma 19), .int 0, .ref (ma 21), .ref (ma 22), .ref (ma 23), .ref (ma 24), .ref (ma 25), .ref (ma 26), .ref (ma 27), .ref (ma 28), .ref (ma 29), .ref (ma 30), .ref (ma 31), .ref (ma 32), .ref (ma 33), .ref (ma 34), .ref (ma 35), .ref (ma 36), .ref (ma 37), .int 0, .ref (ma 39), .ref (ma 40), .ref (ma 41), .ref (ma 42), .ref (ma 43), .ref (ma 44), .ref (ma 45), .ref (ma 46), .ref (ma 47), .ref (ma 48), .int 0, .int 0, .int 0, .int 0, .int 0, .int 0, .int 0, .long 0, .int 0, .long 0, .long 0, .long 0, .long 0, .int 0, .int 0, .int 0, .int 0, .long 0])), (ma 39, .inl (G.2 0, 6, .inl (fun _ => 0))), (ma 11, .inl (G.2 4, 96, .inr (.inl (fun _ => 0))))] (S := Unit) (fun r _ => r = (-1)) (fun _ => []) := by
  intro sz
  refine xstart (by decide) (Nat.le_of_ble_eq_true rfl) (fun p e s m args below meth c ls C0 hr hlocks hin hsz hP hK hD hN hl => ?_)
  obtain ⟨hx, hb, hml, hown, htl⟩ := id C0
  subst hsz
  have hD := hD.self (sz := s.heap.size)
  generalize hAe : va_A [(m0, .inr (9, [.int 0, .int 0, .int 0, .int (-1), .ref (ma 4), .ref (ma 5), .ref (ma 6), .ref (ma 7), .ref (ma 8), .ref (ma 9), .ref (ma 10), .ref (ma 11), .ref (ma 12), .ref (ma 13), .ref (ma 14), .ref (ma 15), .ref (ma 16), .ref (ma 17), .ref (ma 18), .ref (ma 19), .int 0, .ref (ma 21), .ref (ma 22), .ref (ma 23), .ref (ma 24), .ref (ma 25), .ref (ma 26), .ref (ma 27), .ref (ma 28), .ref (ma 29), .ref (ma 30), .ref (ma 31), .ref (ma 32), .ref (ma 33), .ref (ma 34), .ref (ma 35), .ref (ma 36), .ref (ma 37), .int 0, .ref (ma 39), .ref (ma 40), .ref (ma 41), .ref (ma 42), .ref (ma 43), .ref (ma 44), .ref (ma 45), .ref (ma 46), .ref (ma 47), .ref (ma 48), .int 0, .int 0, .int 0, .int 0, .int 0, .int 0, .int 0, .long 0, .int 0, .long 0, .long 0, .long 0, .long 0, .int 0, .int 0, .int 0, .int 0, .long 0])), (ma 39, .inl (G.2 0, 6, .inl (fun _ => 0))), (ma 11, .inl (G.2 4, 96, .inr (.inl (fun _ => 0))))] s.heap.size = A at hD ⊢
  have hA : ∀ q : Nat, s.heap.size ≤ q → A q := fun q h => by rw [← hAe]; exact Or.inr h
  have hS : va_S A s.heap s.heap [] := va_S.rf
  have hl : lv_has ls 6 [(0, .ref m0), (1, .int p0), (2, .int p1)] := hl
  refine lv_aload_n hx hb dX9_state_0 rfl (lv_at hl 0 rfl) ?_
  refine lv_iconst (v := 0) hx hb dX9_state_1 (by decide) ?_
  refine va_put (D := G.1) (ci := 9) (v := .int 0) (ty := .int) (C := RX9) (T := TX9) (N := 67) hx hb htl inlX9 tyX9 tyX9_ok nmX9 hown hK hP hD hS 0 rfl rfl 38 (by decide) (htl (.fieldLink RX9 147 "LaytimeDeskModel" "reason" "I") mW175) (fun _ h9 => h9) rfl (by decide +kernel) rfl rfl (Nat.le_of_ble_eq_true rfl) dX9_state_2 (fun H locs hP hD hS => ?_)
  have hP : va_P G.1 xcl [(m0, .inr (9, [.int 0, .int 0, .int 0, .int (-1), .ref (ma 4), .ref (ma 5), .ref (ma 6), .ref (ma 7), .ref (ma 8), .ref (ma 9), .ref (ma 10), .ref (ma 11), .ref (ma 12), .ref (ma 13), .ref (ma 14), .ref (ma 15), .ref (ma 16), .ref (ma 17), .ref (ma 18), .ref (ma 19), .int 0, .ref (ma 21), .ref (ma 22), .ref (ma 23), .ref (ma 24), .ref (ma 25), .ref (ma 26), .ref (ma 27), .ref (ma 28), .ref (ma 29), .ref (ma 30), .ref (ma 31), .ref (ma 32), .ref (ma 33), .ref (ma 34), .ref (ma 35), .ref (ma 36), .ref (ma 37), .int 0, .ref (ma 39), .ref (ma 40), .ref (ma 41), .ref (ma 42), .ref (ma 43), .ref (ma 44), .ref (ma 45), .ref (ma 46), .ref (ma 47), .ref (ma 48), .int 0, .int 0, .int 0, .int 0, .int 0, .int 0, .int 0, .long 0, .int 0, .long 0, .long 0, .long 0, .long 0, .int 0, .int 0, .int 0, .int 0, .long 0])), (ma 39, .inl (G.2 0, 6, .inl (fun _ => 0))), (ma 11, .inl (G.2 4, 96, .inr (.inl (fun _ => 0))))] H := hP
  have hD : va_D A [(m0, .inr (9, [.int 0, .int 0, .int 0, .int (-1), .ref (ma 4), .ref (ma 5), .ref (ma 6), .ref (ma 7), .ref (ma 8), .ref (ma 9), .ref (ma 10), .ref (ma 11), .ref (ma 12), .ref (ma 13), .ref (ma 14), .ref (ma 15), .ref (ma 16), .ref (ma 17), .ref (ma 18), .ref (ma 19), .int 0, .ref (ma 21), .ref (ma 22), .ref (ma 23), .ref (ma 24), .ref (ma 25), .ref (ma 26), .ref (ma 27), .ref (ma 28), .ref (ma 29), .ref (ma 30), .ref (ma 31), .ref (ma 32), .ref (ma 33), .ref (ma 34), .ref (ma 35), .ref (ma 36), .ref (ma 37), .int 0, .ref (ma 39), .ref (ma 40), .ref (ma 41), .ref (ma 42), .ref (ma 43), .ref (ma 44), .ref (ma 45), .ref (ma 46), .ref (ma 47), .ref (ma 48), .int 0, .int 0, .int 0, .int 0, .int 0, .int 0, .int 0, .long 0, .int 0, .long 0, .long 0, .long 0, .long 0, .int 0, .int 0, .int 0, .int 0, .long 0])), (ma 39, .inl (G.2 0, 6, .inl (fun _ => 0))), (ma 11, .inl (G.2 4, 96, .inr (.inl (fun _ => 0))))] := hD
  refine lv_aload_n hx hb dX9_state_5 rfl (lv_at hl 0 rfl) ?_
  refine lv_iload_n hx hb dX9_state_6 rfl (lv_at hl 1 rfl) ?_
  refine lv_iload_n hx hb dX9_state_7 rfl (lv_at hl 2 rfl) ?_
  refine xVri (rq := 0) (ci := 9) (wc := [(m0, .inr (9, [.int 0, .int 0, .int 0, .int (-1), .ref (ma 4), .ref (ma 5), .ref (ma 6), .ref (ma 7), .ref (ma 8), .ref (ma 9), .ref (ma 10), .ref (ma 11), .ref (ma 12), .ref (ma 13), .ref (ma 14), .ref (ma 15), .ref (ma 16), .ref (ma 17), .ref (ma 18), .ref (ma 19), .int 0, .ref (ma 21), .ref (ma 22), .ref (ma 23), .ref (ma 24), .ref (ma 25), .ref (ma 26), .ref (ma 27), .ref (ma 28), .ref (ma 29), .ref (ma 30), .ref (ma 31), .ref (ma 32), .ref (ma 33), .ref (ma 34), .ref (ma 35), .ref (ma 36), .ref (ma 37), .int 0, .ref (ma 39), .ref (ma 40), .ref (ma 41), .ref (ma 42), .ref (ma 43), .ref (ma 44), .ref (ma 45), .ref (ma 46), .ref (ma 47), .ref (ma 48), .int 0, .int 0, .int 0, .int 0, .int 0, .int 0, .int 0, .long 0, .int 0, .long 0, .long 0, .long 0, .long 0, .int 0, .int 0, .int 0, .int 0, .long 0])), (ma 11, .inl (G.2 4, 96, .inr (.inl (fun _ => 0))))]) (As := [.int p0, .int p1]) (rest := []) C0 (c_X9_minuteWhy l G m0 ma p0 p1) ok_X9_minuteWhy (mW421 : Cond.methodLink RX9 195 yX9_minuteWhy ∈ wsT) ⟨Nat.le_of_ble_eq_true rfl, Nat.le_of_ble_eq_true rfl⟩ hP hD hK hN [0, 2] rfl (by decide) rfl rfl rfl rfl hl.1 rfl (Nat.le_of_ble_eq_true rfl) ⟨Nat.le_of_ble_eq_true rfl, Nat.le_of_ble_eq_true rfl⟩ dX9_state_8 (fun r_1 hr_1 => ?_)
  refine lv_istore_n (lv' := [(3, .int r_1), (0, .ref m0), (1, .int p0), (2, .int p1)]) hx hb dX9_state_11 rfl hl (by decide) rfl (fun ls hl => ?_)
  refine lv_iload_n hx hb dX9_state_12 rfl (lv_at hl 0 rfl) ?_
  refine lv_if_ne (tgt := 27) hx hb dX9_state_13 (by decide) (fun c_2 => ?_) (fun c_2 => absurd c_2 (xn0 hr_1))
  refine lv_iload_n hx hb dX9_state_27 rfl (lv_at hl 0 rfl) ?_
  refine lv_if_eq (tgt := 37) hx hb dX9_state_28 (by decide) (fun c_3 => absurd c_3 (xn0 hr_1)) (fun c_3 => ?_)
  refine lv_aload_n hx hb dX9_state_31 rfl (lv_at hl 1 rfl) ?_
  refine lv_iload_n hx hb dX9_state_32 rfl (lv_at hl 0 rfl) ?_
  refine xVwi (rq := 0) (ci := 9) (wc := [(m0, .inr (9, [.int 0, .int 0, .int 0, .int (-1), .ref (ma 4), .ref (ma 5), .ref (ma 6), .ref (ma 7), .ref (ma 8), .ref (ma 9), .ref (ma 10), .ref (ma 11), .ref (ma 12), .ref (ma 13), .ref (ma 14), .ref (ma 15), .ref (ma 16), .ref (ma 17), .ref (ma 18), .ref (ma 19), .int 0, .ref (ma 21), .ref (ma 22), .ref (ma 23), .ref (ma 24), .ref (ma 25), .ref (ma 26), .ref (ma 27), .ref (ma 28), .ref (ma 29), .ref (ma 30), .ref (ma 31), .ref (ma 32), .ref (ma 33), .ref (ma 34), .ref (ma 35), .ref (ma 36), .ref (ma 37), .int 0, .ref (ma 39), .ref (ma 40), .ref (ma 41), .ref (ma 42), .ref (ma 43), .ref (ma 44), .ref (ma 45), .ref (ma 46), .ref (ma 47), .ref (ma 48), .int 0, .int 0, .int 0, .int 0, .int 0, .int 0, .int 0, .long 0, .int 0, .long 0, .long 0, .long 0, .long 0, .int 0, .int 0, .int 0, .int 0, .long 0])), (ma 39, .inl (G.2 0, 6, .inl (fun _ => 0)))]) (wr := [(ma 11, .inl (G.2 4, 96, .inr (.inl (fun _ => 0))))]) (As := [.int r_1]) (rest := []) C0 (c_X9_no l G m0 ma r_1 (xin6 hr_1)) ok_X9_no (mW177 : Cond.methodLink RX9 168 yX9_no ∈ wsT) ⟨Nat.le_of_ble_eq_true rfl, Nat.le_of_ble_eq_true rfl⟩ hP hD hS hA hK hN [0, 1] [2] rfl rfl (by decide) (by decide) (by decide) rfl rfl rfl rfl hl.1 rfl (Nat.le_of_ble_eq_true rfl) ⟨Nat.le_of_ble_eq_true rfl, Nat.le_of_ble_eq_true rfl⟩ dX9_state_33 (fun r_4 u_5 H locs hr_4 hP hD hS => ?_)
  have hP : va_P G.1 xcl [(ma 11, .inl (G.2 4, 96, .inr (.inl (fun _ => 0))))] H := hP
  have hD : va_D A [(ma 11, .inl (G.2 4, 96, .inr (.inl (fun _ => 0))))] := hD
  obtain rfl : r_4 = (-1) := hr_4
  have hP9 := hP.sub (ws' := []) [] rfl
  have hD9 := hD.sub (ws' := []) [] (by decide) rfl
  exact W.iret (v := (-1)) hx hb hr (fun t ht hW => ⟨⟨(-1), (), rfl, rfl, by rw [ht]; exact hP9, hD9⟩, hS.F ht⟩) hS.2.2 dX9_state_36
theorem dX9_minute_0 : decode cX9_minute 0 = .ok (.aload_n 0, 1) := by decide +kernel
theorem dX9_minute_1 : decode cX9_minute 1 = .ok (.iconst 0, 1) := by decide +kernel
theorem dX9_minute_2 : decode cX9_minute 2 = .ok (.putfield 147, 3) := by decide +kernel
theorem dX9_minute_5 : decode cX9_minute 5 = .ok (.aload_n 0, 1) := by decide +kernel
theorem dX9_minute_6 : decode cX9_minute 6 = .ok (.iload_n 1, 1) := by decide +kernel
theorem dX9_minute_7 : decode cX9_minute 7 = .ok (.iload_n 2, 1) := by decide +kernel
theorem dX9_minute_8 : decode cX9_minute 8 = .ok (.invokevirtual 195, 3) := by decide +kernel
theorem dX9_minute_11 : decode cX9_minute 11 = .ok (.istore 4, 2) := by decide +kernel
theorem dX9_minute_13 : decode cX9_minute 13 = .ok (.iload 4, 2) := by decide +kernel
theorem dX9_minute_15 : decode cX9_minute 15 = .ok (.ifCond .eq 10, 3) := by decide +kernel
theorem dX9_minute_18 : decode cX9_minute 18 = .ok (.aload_n 0, 1) := by decide +kernel
theorem dX9_minute_19 : decode cX9_minute 19 = .ok (.iload 4, 2) := by decide +kernel
theorem dX9_minute_21 : decode cX9_minute 21 = .ok (.invokevirtual 168, 3) := by decide +kernel
theorem dX9_minute_24 : decode cX9_minute 24 = .ok (.ireturn, 1) := by decide +kernel
set_option maxHeartbeats 4000000 in
set_option maxRecDepth 100000 in
theorem c_X9_minute (l : Launch) (G : xG) (m0 : Nat) (ma : Nat → Nat) (p0 : Int32) (p1 : Int32) (p2 : Int32)  : xWi l G yX9_minute cX9_minute 5 (some .int) 3 65 0 0 [.ref m0, .int p0, .int p1, .int p2] [(m0, .inr (9, [.int 0, .int 0, .int 0, .int (-1), .ref (ma 4), .ref (ma 5), .ref (ma 6), .ref (ma 7), .ref (ma 8), .ref (ma 9), .ref (ma 10), .ref (ma 11), .ref (ma 12), .ref (ma 13), .ref (ma 14), .ref (ma 15), .ref (ma 16), .ref (ma 17), .ref (ma 18), .ref (ma 19), .int 0, .ref (ma 21), .ref (ma 22), .ref (ma 23), .ref (ma 24), .ref (ma 25), .ref (ma 26), .ref (ma 27), .ref (ma 28), .ref (ma 29), .ref (ma 30), .ref (ma 31), .ref (ma 32), .ref (ma 33), .ref (ma 34), .ref (ma 35), .ref (ma 36), .ref (ma 37), .int 0, .ref (ma 39), .ref (ma 40), .ref (ma 41), .ref (ma 42), .ref (ma 43), .ref (ma 44), .ref (ma 45), .ref (ma 46), .ref (ma 47), .ref (ma 48), .int 0, .int 0, .int 0, .int 0, .int 0, .int 0, .int 0, .long 0, .int 0, .long 0, .long 0, .long 0, .long 0, .int 0, .int 0, .int 0, .int 0, .long 0])), (ma 39, .inl (G.2 0, 6, .inl (fun _ => 0))), (ma 11, .inl (G.2 4, 96, .inr (.inl (fun _ => 0))))] (S := Unit) (fun r _ => r = (-1)) (fun _ => []) := by
  intro sz
  refine xstart (by decide) (Nat.le_of_ble_eq_true rfl) (fun p e s m args below meth c ls C0 hr hlocks hin hsz hP hK hD hN hl => ?_)
  obtain ⟨hx, hb, hml, hown, htl⟩ := id C0
  subst hsz
  have hD := hD.self (sz := s.heap.size)
  generalize hAe : va_A [(m0, .inr (9, [.int 0, .int 0, .int 0, .int (-1), .ref (ma 4), .ref (ma 5), .ref (ma 6), .ref (ma 7), .ref (ma 8), .ref (ma 9), .ref (ma 10), .ref (ma 11), .ref (ma 12), .ref (ma 13), .ref (ma 14), .ref (ma 15), .ref (ma 16), .ref (ma 17), .ref (ma 18), .ref (ma 19), .int 0, .ref (ma 21), .ref (ma 22), .ref (ma 23), .ref (ma 24), .ref (ma 25), .ref (ma 26), .ref (ma 27), .ref (ma 28), .ref (ma 29), .ref (ma 30), .ref (ma 31), .ref (ma 32), .ref (ma 33), .ref (ma 34), .ref (ma 35), .ref (ma 36), .ref (ma 37), .int 0, .ref (ma 39), .ref (ma 40), .ref (ma 41), .ref (ma 42), .ref (ma 43), .ref (ma 44), .ref (ma 45), .ref (ma 46), .ref (ma 47), .ref (ma 48), .int 0, .int 0, .int 0, .int 0, .int 0, .int 0, .int 0, .long 0, .int 0, .long 0, .long 0, .long 0, .long 0, .int 0, .int 0, .int 0, .int 0, .long 0])), (ma 39, .inl (G.2 0, 6, .inl (fun _ => 0))), (ma 11, .inl (G.2 4, 96, .inr (.inl (fun _ => 0))))] s.heap.size = A at hD ⊢
  have hA : ∀ q : Nat, s.heap.size ≤ q → A q := fun q h => by rw [← hAe]; exact Or.inr h
  have hS : va_S A s.heap s.heap [] := va_S.rf
  have hl : lv_has ls 5 [(0, .ref m0), (1, .int p0), (2, .int p1), (3, .int p2)] := hl
  refine lv_aload_n hx hb dX9_minute_0 rfl (lv_at hl 0 rfl) ?_
  refine lv_iconst (v := 0) hx hb dX9_minute_1 (by decide) ?_
  refine va_put (D := G.1) (ci := 9) (v := .int 0) (ty := .int) (C := RX9) (T := TX9) (N := 67) hx hb htl inlX9 tyX9 tyX9_ok nmX9 hown hK hP hD hS 0 rfl rfl 38 (by decide) (htl (.fieldLink RX9 147 "LaytimeDeskModel" "reason" "I") mW175) (fun _ h9 => h9) rfl (by decide +kernel) rfl rfl (Nat.le_of_ble_eq_true rfl) dX9_minute_2 (fun H locs hP hD hS => ?_)
  have hP : va_P G.1 xcl [(m0, .inr (9, [.int 0, .int 0, .int 0, .int (-1), .ref (ma 4), .ref (ma 5), .ref (ma 6), .ref (ma 7), .ref (ma 8), .ref (ma 9), .ref (ma 10), .ref (ma 11), .ref (ma 12), .ref (ma 13), .ref (ma 14), .ref (ma 15), .ref (ma 16), .ref (ma 17), .ref (ma 18), .ref (ma 19), .int 0, .ref (ma 21), .ref (ma 22), .ref (ma 23), .ref (ma 24), .ref (ma 25), .ref (ma 26), .ref (ma 27), .ref (ma 28), .ref (ma 29), .ref (ma 30), .ref (ma 31), .ref (ma 32), .ref (ma 33), .ref (ma 34), .ref (ma 35), .ref (ma 36), .ref (ma 37), .int 0, .ref (ma 39), .ref (ma 40), .ref (ma 41), .ref (ma 42), .ref (ma 43), .ref (ma 44), .ref (ma 45), .ref (ma 46), .ref (ma 47), .ref (ma 48), .int 0, .int 0, .int 0, .int 0, .int 0, .int 0, .int 0, .long 0, .int 0, .long 0, .long 0, .long 0, .long 0, .int 0, .int 0, .int 0, .int 0, .long 0])), (ma 39, .inl (G.2 0, 6, .inl (fun _ => 0))), (ma 11, .inl (G.2 4, 96, .inr (.inl (fun _ => 0))))] H := hP
  have hD : va_D A [(m0, .inr (9, [.int 0, .int 0, .int 0, .int (-1), .ref (ma 4), .ref (ma 5), .ref (ma 6), .ref (ma 7), .ref (ma 8), .ref (ma 9), .ref (ma 10), .ref (ma 11), .ref (ma 12), .ref (ma 13), .ref (ma 14), .ref (ma 15), .ref (ma 16), .ref (ma 17), .ref (ma 18), .ref (ma 19), .int 0, .ref (ma 21), .ref (ma 22), .ref (ma 23), .ref (ma 24), .ref (ma 25), .ref (ma 26), .ref (ma 27), .ref (ma 28), .ref (ma 29), .ref (ma 30), .ref (ma 31), .ref (ma 32), .ref (ma 33), .ref (ma 34), .ref (ma 35), .ref (ma 36), .ref (ma 37), .int 0, .ref (ma 39), .ref (ma 40), .ref (ma 41), .ref (ma 42), .ref (ma 43), .ref (ma 44), .ref (ma 45), .ref (ma 46), .ref (ma 47), .ref (ma 48), .int 0, .int 0, .int 0, .int 0, .int 0, .int 0, .int 0, .long 0, .int 0, .long 0, .long 0, .long 0, .long 0, .int 0, .int 0, .int 0, .int 0, .long 0])), (ma 39, .inl (G.2 0, 6, .inl (fun _ => 0))), (ma 11, .inl (G.2 4, 96, .inr (.inl (fun _ => 0))))] := hD
  refine lv_aload_n hx hb dX9_minute_5 rfl (lv_at hl 0 rfl) ?_
  refine lv_iload_n hx hb dX9_minute_6 rfl (lv_at hl 1 rfl) ?_
  refine lv_iload_n hx hb dX9_minute_7 rfl (lv_at hl 2 rfl) ?_
  refine xVri (rq := 0) (ci := 9) (wc := [(m0, .inr (9, [.int 0, .int 0, .int 0, .int (-1), .ref (ma 4), .ref (ma 5), .ref (ma 6), .ref (ma 7), .ref (ma 8), .ref (ma 9), .ref (ma 10), .ref (ma 11), .ref (ma 12), .ref (ma 13), .ref (ma 14), .ref (ma 15), .ref (ma 16), .ref (ma 17), .ref (ma 18), .ref (ma 19), .int 0, .ref (ma 21), .ref (ma 22), .ref (ma 23), .ref (ma 24), .ref (ma 25), .ref (ma 26), .ref (ma 27), .ref (ma 28), .ref (ma 29), .ref (ma 30), .ref (ma 31), .ref (ma 32), .ref (ma 33), .ref (ma 34), .ref (ma 35), .ref (ma 36), .ref (ma 37), .int 0, .ref (ma 39), .ref (ma 40), .ref (ma 41), .ref (ma 42), .ref (ma 43), .ref (ma 44), .ref (ma 45), .ref (ma 46), .ref (ma 47), .ref (ma 48), .int 0, .int 0, .int 0, .int 0, .int 0, .int 0, .int 0, .long 0, .int 0, .long 0, .long 0, .long 0, .long 0, .int 0, .int 0, .int 0, .int 0, .long 0])), (ma 11, .inl (G.2 4, 96, .inr (.inl (fun _ => 0))))]) (As := [.int p0, .int p1]) (rest := []) C0 (c_X9_minuteWhy l G m0 ma p0 p1) ok_X9_minuteWhy (mW421 : Cond.methodLink RX9 195 yX9_minuteWhy ∈ wsT) ⟨Nat.le_of_ble_eq_true rfl, Nat.le_of_ble_eq_true rfl⟩ hP hD hK hN [0, 2] rfl (by decide) rfl rfl rfl rfl hl.1 rfl (Nat.le_of_ble_eq_true rfl) ⟨Nat.le_of_ble_eq_true rfl, Nat.le_of_ble_eq_true rfl⟩ dX9_minute_8 (fun r_1 hr_1 => ?_)
  refine lv_istore (lv' := [(4, .int r_1), (0, .ref m0), (1, .int p0), (2, .int p1), (3, .int p2)]) hx hb dX9_minute_11 hl (by decide) rfl (fun ls hl => ?_)
  refine lv_iload hx hb dX9_minute_13 (lv_at hl 0 rfl) ?_
  refine lv_if_eq (tgt := 25) hx hb dX9_minute_15 (by decide) (fun c_2 => absurd c_2 (xn0 hr_1)) (fun c_2 => ?_)
  refine lv_aload_n hx hb dX9_minute_18 rfl (lv_at hl 1 rfl) ?_
  refine lv_iload hx hb dX9_minute_19 (lv_at hl 0 rfl) ?_
  refine xVwi (rq := 0) (ci := 9) (wc := [(m0, .inr (9, [.int 0, .int 0, .int 0, .int (-1), .ref (ma 4), .ref (ma 5), .ref (ma 6), .ref (ma 7), .ref (ma 8), .ref (ma 9), .ref (ma 10), .ref (ma 11), .ref (ma 12), .ref (ma 13), .ref (ma 14), .ref (ma 15), .ref (ma 16), .ref (ma 17), .ref (ma 18), .ref (ma 19), .int 0, .ref (ma 21), .ref (ma 22), .ref (ma 23), .ref (ma 24), .ref (ma 25), .ref (ma 26), .ref (ma 27), .ref (ma 28), .ref (ma 29), .ref (ma 30), .ref (ma 31), .ref (ma 32), .ref (ma 33), .ref (ma 34), .ref (ma 35), .ref (ma 36), .ref (ma 37), .int 0, .ref (ma 39), .ref (ma 40), .ref (ma 41), .ref (ma 42), .ref (ma 43), .ref (ma 44), .ref (ma 45), .ref (ma 46), .ref (ma 47), .ref (ma 48), .int 0, .int 0, .int 0, .int 0, .int 0, .int 0, .int 0, .long 0, .int 0, .long 0, .long 0, .long 0, .long 0, .int 0, .int 0, .int 0, .int 0, .long 0])), (ma 39, .inl (G.2 0, 6, .inl (fun _ => 0)))]) (wr := [(ma 11, .inl (G.2 4, 96, .inr (.inl (fun _ => 0))))]) (As := [.int r_1]) (rest := []) C0 (c_X9_no l G m0 ma r_1 (xin6 hr_1)) ok_X9_no (mW177 : Cond.methodLink RX9 168 yX9_no ∈ wsT) ⟨Nat.le_of_ble_eq_true rfl, Nat.le_of_ble_eq_true rfl⟩ hP hD hS hA hK hN [0, 1] [2] rfl rfl (by decide) (by decide) (by decide) rfl rfl rfl rfl hl.1 rfl (Nat.le_of_ble_eq_true rfl) ⟨Nat.le_of_ble_eq_true rfl, Nat.le_of_ble_eq_true rfl⟩ dX9_minute_21 (fun r_3 u_4 H locs hr_3 hP hD hS => ?_)
  have hP : va_P G.1 xcl [(ma 11, .inl (G.2 4, 96, .inr (.inl (fun _ => 0))))] H := hP
  have hD : va_D A [(ma 11, .inl (G.2 4, 96, .inr (.inl (fun _ => 0))))] := hD
  obtain rfl : r_3 = (-1) := hr_3
  have hP9 := hP.sub (ws' := []) [] rfl
  have hD9 := hD.sub (ws' := []) [] (by decide) rfl
  exact W.iret (v := (-1)) hx hb hr (fun t ht hW => ⟨⟨(-1), (), rfl, rfl, by rw [ht]; exact hP9, hD9⟩, hS.F ht⟩) hS.2.2 dX9_minute_24
theorem dX9_why_0 : decode cX9_why 0 = .ok (.aload_n 0, 1) := by decide +kernel
theorem dX9_why_1 : decode cX9_why 1 = .ok (.iconst 0, 1) := by decide +kernel
theorem dX9_why_2 : decode cX9_why 2 = .ok (.putfield 147, 3) := by decide +kernel
theorem dX9_why_5 : decode cX9_why 5 = .ok (.aload_n 0, 1) := by decide +kernel
theorem dX9_why_6 : decode cX9_why 6 = .ok (.iload_n 1, 1) := by decide +kernel
theorem dX9_why_7 : decode cX9_why 7 = .ok (.iload_n 2, 1) := by decide +kernel
theorem dX9_why_8 : decode cX9_why 8 = .ok (.invokevirtual 195, 3) := by decide +kernel
theorem dX9_why_11 : decode cX9_why 11 = .ok (.istore 4, 2) := by decide +kernel
theorem dX9_why_13 : decode cX9_why 13 = .ok (.iload 4, 2) := by decide +kernel
theorem dX9_why_15 : decode cX9_why 15 = .ok (.ifCond .eq 10, 3) := by decide +kernel
theorem dX9_why_18 : decode cX9_why 18 = .ok (.aload_n 0, 1) := by decide +kernel
theorem dX9_why_19 : decode cX9_why 19 = .ok (.iload 4, 2) := by decide +kernel
theorem dX9_why_21 : decode cX9_why 21 = .ok (.invokevirtual 168, 3) := by decide +kernel
theorem dX9_why_24 : decode cX9_why 24 = .ok (.ireturn, 1) := by decide +kernel
set_option maxHeartbeats 4000000 in
set_option maxRecDepth 100000 in
theorem c_X9_why (l : Launch) (G : xG) (m0 : Nat) (ma : Nat → Nat) (p0 : Int32) (p1 : Int32) (p2 : Int32)  : xWi l G yX9_why cX9_why 5 (some .int) 3 65 0 0 [.ref m0, .int p0, .int p1, .int p2] [(m0, .inr (9, [.int 0, .int 0, .int 0, .int (-1), .ref (ma 4), .ref (ma 5), .ref (ma 6), .ref (ma 7), .ref (ma 8), .ref (ma 9), .ref (ma 10), .ref (ma 11), .ref (ma 12), .ref (ma 13), .ref (ma 14), .ref (ma 15), .ref (ma 16), .ref (ma 17), .ref (ma 18), .ref (ma 19), .int 0, .ref (ma 21), .ref (ma 22), .ref (ma 23), .ref (ma 24), .ref (ma 25), .ref (ma 26), .ref (ma 27), .ref (ma 28), .ref (ma 29), .ref (ma 30), .ref (ma 31), .ref (ma 32), .ref (ma 33), .ref (ma 34), .ref (ma 35), .ref (ma 36), .ref (ma 37), .int 0, .ref (ma 39), .ref (ma 40), .ref (ma 41), .ref (ma 42), .ref (ma 43), .ref (ma 44), .ref (ma 45), .ref (ma 46), .ref (ma 47), .ref (ma 48), .int 0, .int 0, .int 0, .int 0, .int 0, .int 0, .int 0, .long 0, .int 0, .long 0, .long 0, .long 0, .long 0, .int 0, .int 0, .int 0, .int 0, .long 0])), (ma 39, .inl (G.2 0, 6, .inl (fun _ => 0))), (ma 11, .inl (G.2 4, 96, .inr (.inl (fun _ => 0))))] (S := Unit) (fun r _ => r = (-1)) (fun _ => []) := by
  intro sz
  refine xstart (by decide) (Nat.le_of_ble_eq_true rfl) (fun p e s m args below meth c ls C0 hr hlocks hin hsz hP hK hD hN hl => ?_)
  obtain ⟨hx, hb, hml, hown, htl⟩ := id C0
  subst hsz
  have hD := hD.self (sz := s.heap.size)
  generalize hAe : va_A [(m0, .inr (9, [.int 0, .int 0, .int 0, .int (-1), .ref (ma 4), .ref (ma 5), .ref (ma 6), .ref (ma 7), .ref (ma 8), .ref (ma 9), .ref (ma 10), .ref (ma 11), .ref (ma 12), .ref (ma 13), .ref (ma 14), .ref (ma 15), .ref (ma 16), .ref (ma 17), .ref (ma 18), .ref (ma 19), .int 0, .ref (ma 21), .ref (ma 22), .ref (ma 23), .ref (ma 24), .ref (ma 25), .ref (ma 26), .ref (ma 27), .ref (ma 28), .ref (ma 29), .ref (ma 30), .ref (ma 31), .ref (ma 32), .ref (ma 33), .ref (ma 34), .ref (ma 35), .ref (ma 36), .ref (ma 37), .int 0, .ref (ma 39), .ref (ma 40), .ref (ma 41), .ref (ma 42), .ref (ma 43), .ref (ma 44), .ref (ma 45), .ref (ma 46), .ref (ma 47), .ref (ma 48), .int 0, .int 0, .int 0, .int 0, .int 0, .int 0, .int 0, .long 0, .int 0, .long 0, .long 0, .long 0, .long 0, .int 0, .int 0, .int 0, .int 0, .long 0])), (ma 39, .inl (G.2 0, 6, .inl (fun _ => 0))), (ma 11, .inl (G.2 4, 96, .inr (.inl (fun _ => 0))))] s.heap.size = A at hD ⊢
  have hA : ∀ q : Nat, s.heap.size ≤ q → A q := fun q h => by rw [← hAe]; exact Or.inr h
  have hS : va_S A s.heap s.heap [] := va_S.rf
  have hl : lv_has ls 5 [(0, .ref m0), (1, .int p0), (2, .int p1), (3, .int p2)] := hl
  refine lv_aload_n hx hb dX9_why_0 rfl (lv_at hl 0 rfl) ?_
  refine lv_iconst (v := 0) hx hb dX9_why_1 (by decide) ?_
  refine va_put (D := G.1) (ci := 9) (v := .int 0) (ty := .int) (C := RX9) (T := TX9) (N := 67) hx hb htl inlX9 tyX9 tyX9_ok nmX9 hown hK hP hD hS 0 rfl rfl 38 (by decide) (htl (.fieldLink RX9 147 "LaytimeDeskModel" "reason" "I") mW175) (fun _ h9 => h9) rfl (by decide +kernel) rfl rfl (Nat.le_of_ble_eq_true rfl) dX9_why_2 (fun H locs hP hD hS => ?_)
  have hP : va_P G.1 xcl [(m0, .inr (9, [.int 0, .int 0, .int 0, .int (-1), .ref (ma 4), .ref (ma 5), .ref (ma 6), .ref (ma 7), .ref (ma 8), .ref (ma 9), .ref (ma 10), .ref (ma 11), .ref (ma 12), .ref (ma 13), .ref (ma 14), .ref (ma 15), .ref (ma 16), .ref (ma 17), .ref (ma 18), .ref (ma 19), .int 0, .ref (ma 21), .ref (ma 22), .ref (ma 23), .ref (ma 24), .ref (ma 25), .ref (ma 26), .ref (ma 27), .ref (ma 28), .ref (ma 29), .ref (ma 30), .ref (ma 31), .ref (ma 32), .ref (ma 33), .ref (ma 34), .ref (ma 35), .ref (ma 36), .ref (ma 37), .int 0, .ref (ma 39), .ref (ma 40), .ref (ma 41), .ref (ma 42), .ref (ma 43), .ref (ma 44), .ref (ma 45), .ref (ma 46), .ref (ma 47), .ref (ma 48), .int 0, .int 0, .int 0, .int 0, .int 0, .int 0, .int 0, .long 0, .int 0, .long 0, .long 0, .long 0, .long 0, .int 0, .int 0, .int 0, .int 0, .long 0])), (ma 39, .inl (G.2 0, 6, .inl (fun _ => 0))), (ma 11, .inl (G.2 4, 96, .inr (.inl (fun _ => 0))))] H := hP
  have hD : va_D A [(m0, .inr (9, [.int 0, .int 0, .int 0, .int (-1), .ref (ma 4), .ref (ma 5), .ref (ma 6), .ref (ma 7), .ref (ma 8), .ref (ma 9), .ref (ma 10), .ref (ma 11), .ref (ma 12), .ref (ma 13), .ref (ma 14), .ref (ma 15), .ref (ma 16), .ref (ma 17), .ref (ma 18), .ref (ma 19), .int 0, .ref (ma 21), .ref (ma 22), .ref (ma 23), .ref (ma 24), .ref (ma 25), .ref (ma 26), .ref (ma 27), .ref (ma 28), .ref (ma 29), .ref (ma 30), .ref (ma 31), .ref (ma 32), .ref (ma 33), .ref (ma 34), .ref (ma 35), .ref (ma 36), .ref (ma 37), .int 0, .ref (ma 39), .ref (ma 40), .ref (ma 41), .ref (ma 42), .ref (ma 43), .ref (ma 44), .ref (ma 45), .ref (ma 46), .ref (ma 47), .ref (ma 48), .int 0, .int 0, .int 0, .int 0, .int 0, .int 0, .int 0, .long 0, .int 0, .long 0, .long 0, .long 0, .long 0, .int 0, .int 0, .int 0, .int 0, .long 0])), (ma 39, .inl (G.2 0, 6, .inl (fun _ => 0))), (ma 11, .inl (G.2 4, 96, .inr (.inl (fun _ => 0))))] := hD
  refine lv_aload_n hx hb dX9_why_5 rfl (lv_at hl 0 rfl) ?_
  refine lv_iload_n hx hb dX9_why_6 rfl (lv_at hl 1 rfl) ?_
  refine lv_iload_n hx hb dX9_why_7 rfl (lv_at hl 2 rfl) ?_
  refine xVri (rq := 0) (ci := 9) (wc := [(m0, .inr (9, [.int 0, .int 0, .int 0, .int (-1), .ref (ma 4), .ref (ma 5), .ref (ma 6), .ref (ma 7), .ref (ma 8), .ref (ma 9), .ref (ma 10), .ref (ma 11), .ref (ma 12), .ref (ma 13), .ref (ma 14), .ref (ma 15), .ref (ma 16), .ref (ma 17), .ref (ma 18), .ref (ma 19), .int 0, .ref (ma 21), .ref (ma 22), .ref (ma 23), .ref (ma 24), .ref (ma 25), .ref (ma 26), .ref (ma 27), .ref (ma 28), .ref (ma 29), .ref (ma 30), .ref (ma 31), .ref (ma 32), .ref (ma 33), .ref (ma 34), .ref (ma 35), .ref (ma 36), .ref (ma 37), .int 0, .ref (ma 39), .ref (ma 40), .ref (ma 41), .ref (ma 42), .ref (ma 43), .ref (ma 44), .ref (ma 45), .ref (ma 46), .ref (ma 47), .ref (ma 48), .int 0, .int 0, .int 0, .int 0, .int 0, .int 0, .int 0, .long 0, .int 0, .long 0, .long 0, .long 0, .long 0, .int 0, .int 0, .int 0, .int 0, .long 0])), (ma 11, .inl (G.2 4, 96, .inr (.inl (fun _ => 0))))]) (As := [.int p0, .int p1]) (rest := []) C0 (c_X9_minuteWhy l G m0 ma p0 p1) ok_X9_minuteWhy (mW421 : Cond.methodLink RX9 195 yX9_minuteWhy ∈ wsT) ⟨Nat.le_of_ble_eq_true rfl, Nat.le_of_ble_eq_true rfl⟩ hP hD hK hN [0, 2] rfl (by decide) rfl rfl rfl rfl hl.1 rfl (Nat.le_of_ble_eq_true rfl) ⟨Nat.le_of_ble_eq_true rfl, Nat.le_of_ble_eq_true rfl⟩ dX9_why_8 (fun r_1 hr_1 => ?_)
  refine lv_istore (lv' := [(4, .int r_1), (0, .ref m0), (1, .int p0), (2, .int p1), (3, .int p2)]) hx hb dX9_why_11 hl (by decide) rfl (fun ls hl => ?_)
  refine lv_iload hx hb dX9_why_13 (lv_at hl 0 rfl) ?_
  refine lv_if_eq (tgt := 25) hx hb dX9_why_15 (by decide) (fun c_2 => absurd c_2 (xn0 hr_1)) (fun c_2 => ?_)
  refine lv_aload_n hx hb dX9_why_18 rfl (lv_at hl 1 rfl) ?_
  refine lv_iload hx hb dX9_why_19 (lv_at hl 0 rfl) ?_
  refine xVwi (rq := 0) (ci := 9) (wc := [(m0, .inr (9, [.int 0, .int 0, .int 0, .int (-1), .ref (ma 4), .ref (ma 5), .ref (ma 6), .ref (ma 7), .ref (ma 8), .ref (ma 9), .ref (ma 10), .ref (ma 11), .ref (ma 12), .ref (ma 13), .ref (ma 14), .ref (ma 15), .ref (ma 16), .ref (ma 17), .ref (ma 18), .ref (ma 19), .int 0, .ref (ma 21), .ref (ma 22), .ref (ma 23), .ref (ma 24), .ref (ma 25), .ref (ma 26), .ref (ma 27), .ref (ma 28), .ref (ma 29), .ref (ma 30), .ref (ma 31), .ref (ma 32), .ref (ma 33), .ref (ma 34), .ref (ma 35), .ref (ma 36), .ref (ma 37), .int 0, .ref (ma 39), .ref (ma 40), .ref (ma 41), .ref (ma 42), .ref (ma 43), .ref (ma 44), .ref (ma 45), .ref (ma 46), .ref (ma 47), .ref (ma 48), .int 0, .int 0, .int 0, .int 0, .int 0, .int 0, .int 0, .long 0, .int 0, .long 0, .long 0, .long 0, .long 0, .int 0, .int 0, .int 0, .int 0, .long 0])), (ma 39, .inl (G.2 0, 6, .inl (fun _ => 0)))]) (wr := [(ma 11, .inl (G.2 4, 96, .inr (.inl (fun _ => 0))))]) (As := [.int r_1]) (rest := []) C0 (c_X9_no l G m0 ma r_1 (xin6 hr_1)) ok_X9_no (mW177 : Cond.methodLink RX9 168 yX9_no ∈ wsT) ⟨Nat.le_of_ble_eq_true rfl, Nat.le_of_ble_eq_true rfl⟩ hP hD hS hA hK hN [0, 1] [2] rfl rfl (by decide) (by decide) (by decide) rfl rfl rfl rfl hl.1 rfl (Nat.le_of_ble_eq_true rfl) ⟨Nat.le_of_ble_eq_true rfl, Nat.le_of_ble_eq_true rfl⟩ dX9_why_21 (fun r_3 u_4 H locs hr_3 hP hD hS => ?_)
  have hP : va_P G.1 xcl [(ma 11, .inl (G.2 4, 96, .inr (.inl (fun _ => 0))))] H := hP
  have hD : va_D A [(ma 11, .inl (G.2 4, 96, .inr (.inl (fun _ => 0))))] := hD
  obtain rfl : r_3 = (-1) := hr_3
  have hP9 := hP.sub (ws' := []) [] rfl
  have hD9 := hD.sub (ws' := []) [] (by decide) rfl
  exact W.iret (v := (-1)) hx hb hr (fun t ht hW => ⟨⟨(-1), (), rfl, rfl, by rw [ht]; exact hP9, hD9⟩, hS.F ht⟩) hS.2.2 dX9_why_24
theorem dX9_counts_0 : decode cX9_counts 0 = .ok (.aload_n 0, 1) := by decide +kernel
theorem dX9_counts_1 : decode cX9_counts 1 = .ok (.iconst 0, 1) := by decide +kernel
theorem dX9_counts_2 : decode cX9_counts 2 = .ok (.putfield 147, 3) := by decide +kernel
theorem dX9_counts_5 : decode cX9_counts 5 = .ok (.iload_n 2, 1) := by decide +kernel
theorem dX9_counts_6 : decode cX9_counts 6 = .ok (.ifCond .lt 7, 3) := by decide +kernel
theorem dX9_counts_9 : decode cX9_counts 9 = .ok (.iload_n 3, 1) := by decide +kernel
theorem dX9_counts_10 : decode cX9_counts 10 = .ok (.ifCond .ge 7, 3) := by decide +kernel
theorem dX9_counts_13 : decode cX9_counts 13 = .ok (.iconst 1, 1) := by decide +kernel
theorem dX9_counts_14 : decode cX9_counts 14 = .ok (.goto 8, 3) := by decide +kernel
theorem dX9_counts_17 : decode cX9_counts 17 = .ok (.aload_n 0, 1) := by decide +kernel
theorem dX9_counts_18 : decode cX9_counts 18 = .ok (.iload_n 1, 1) := by decide +kernel
theorem dX9_counts_19 : decode cX9_counts 19 = .ok (.invokevirtual 165, 3) := by decide +kernel
theorem dX9_counts_22 : decode cX9_counts 22 = .ok (.istore 5, 2) := by decide +kernel
theorem dX9_counts_24 : decode cX9_counts 24 = .ok (.iload 5, 2) := by decide +kernel
theorem dX9_counts_26 : decode cX9_counts 26 = .ok (.ifCond .eq 10, 3) := by decide +kernel
theorem dX9_counts_29 : decode cX9_counts 29 = .ok (.aload_n 0, 1) := by decide +kernel
theorem dX9_counts_30 : decode cX9_counts 30 = .ok (.iload 5, 2) := by decide +kernel
theorem dX9_counts_32 : decode cX9_counts 32 = .ok (.invokevirtual 168, 3) := by decide +kernel
theorem dX9_counts_35 : decode cX9_counts 35 = .ok (.ireturn, 1) := by decide +kernel
set_option maxHeartbeats 4000000 in
set_option maxRecDepth 100000 in
theorem c_X9_counts (l : Launch) (G : xG) (m0 : Nat) (ma : Nat → Nat) (p0 : Int32) (p1 : Int32) (p2 : Int32) (p3 : Int32)  : xWi l G yX9_counts cX9_counts 6 (some .int) 2 42 0 0 [.ref m0, .int p0, .int p1, .int p2, .int p3] [(m0, .inr (9, [.int 0, .int 0, .int 0, .int (-1), .ref (ma 4), .ref (ma 5), .ref (ma 6), .ref (ma 7), .ref (ma 8), .ref (ma 9), .ref (ma 10), .ref (ma 11), .ref (ma 12), .ref (ma 13), .ref (ma 14), .ref (ma 15), .ref (ma 16), .ref (ma 17), .ref (ma 18), .ref (ma 19), .int 0, .ref (ma 21), .ref (ma 22), .ref (ma 23), .ref (ma 24), .ref (ma 25), .ref (ma 26), .ref (ma 27), .ref (ma 28), .ref (ma 29), .ref (ma 30), .ref (ma 31), .ref (ma 32), .ref (ma 33), .ref (ma 34), .ref (ma 35), .ref (ma 36), .ref (ma 37), .int 0, .ref (ma 39), .ref (ma 40), .ref (ma 41), .ref (ma 42), .ref (ma 43), .ref (ma 44), .ref (ma 45), .ref (ma 46), .ref (ma 47), .ref (ma 48), .int 0, .int 0, .int 0, .int 0, .int 0, .int 0, .int 0, .long 0, .int 0, .long 0, .long 0, .long 0, .long 0, .int 0, .int 0, .int 0, .int 0, .long 0])), (ma 39, .inl (G.2 0, 6, .inl (fun _ => 0))), (ma 11, .inl (G.2 4, 96, .inr (.inl (fun _ => 0))))] (S := Unit) (fun r _ => r = (-1)) (fun _ => []) := by
  intro sz
  refine xstart (by decide) (Nat.le_of_ble_eq_true rfl) (fun p e s m args below meth c ls C0 hr hlocks hin hsz hP hK hD hN hl => ?_)
  obtain ⟨hx, hb, hml, hown, htl⟩ := id C0
  subst hsz
  have hD := hD.self (sz := s.heap.size)
  generalize hAe : va_A [(m0, .inr (9, [.int 0, .int 0, .int 0, .int (-1), .ref (ma 4), .ref (ma 5), .ref (ma 6), .ref (ma 7), .ref (ma 8), .ref (ma 9), .ref (ma 10), .ref (ma 11), .ref (ma 12), .ref (ma 13), .ref (ma 14), .ref (ma 15), .ref (ma 16), .ref (ma 17), .ref (ma 18), .ref (ma 19), .int 0, .ref (ma 21), .ref (ma 22), .ref (ma 23), .ref (ma 24), .ref (ma 25), .ref (ma 26), .ref (ma 27), .ref (ma 28), .ref (ma 29), .ref (ma 30), .ref (ma 31), .ref (ma 32), .ref (ma 33), .ref (ma 34), .ref (ma 35), .ref (ma 36), .ref (ma 37), .int 0, .ref (ma 39), .ref (ma 40), .ref (ma 41), .ref (ma 42), .ref (ma 43), .ref (ma 44), .ref (ma 45), .ref (ma 46), .ref (ma 47), .ref (ma 48), .int 0, .int 0, .int 0, .int 0, .int 0, .int 0, .int 0, .long 0, .int 0, .long 0, .long 0, .long 0, .long 0, .int 0, .int 0, .int 0, .int 0, .long 0])), (ma 39, .inl (G.2 0, 6, .inl (fun _ => 0))), (ma 11, .inl (G.2 4, 96, .inr (.inl (fun _ => 0))))] s.heap.size = A at hD ⊢
  have hA : ∀ q : Nat, s.heap.size ≤ q → A q := fun q h => by rw [← hAe]; exact Or.inr h
  have hS : va_S A s.heap s.heap [] := va_S.rf
  have hl : lv_has ls 6 [(0, .ref m0), (1, .int p0), (2, .int p1), (3, .int p2), (4, .int p3)] := hl
  refine lv_aload_n hx hb dX9_counts_0 rfl (lv_at hl 0 rfl) ?_
  refine lv_iconst (v := 0) hx hb dX9_counts_1 (by decide) ?_
  refine va_put (D := G.1) (ci := 9) (v := .int 0) (ty := .int) (C := RX9) (T := TX9) (N := 67) hx hb htl inlX9 tyX9 tyX9_ok nmX9 hown hK hP hD hS 0 rfl rfl 38 (by decide) (htl (.fieldLink RX9 147 "LaytimeDeskModel" "reason" "I") mW175) (fun _ h9 => h9) rfl (by decide +kernel) rfl rfl (Nat.le_of_ble_eq_true rfl) dX9_counts_2 (fun H locs hP hD hS => ?_)
  have hP : va_P G.1 xcl [(m0, .inr (9, [.int 0, .int 0, .int 0, .int (-1), .ref (ma 4), .ref (ma 5), .ref (ma 6), .ref (ma 7), .ref (ma 8), .ref (ma 9), .ref (ma 10), .ref (ma 11), .ref (ma 12), .ref (ma 13), .ref (ma 14), .ref (ma 15), .ref (ma 16), .ref (ma 17), .ref (ma 18), .ref (ma 19), .int 0, .ref (ma 21), .ref (ma 22), .ref (ma 23), .ref (ma 24), .ref (ma 25), .ref (ma 26), .ref (ma 27), .ref (ma 28), .ref (ma 29), .ref (ma 30), .ref (ma 31), .ref (ma 32), .ref (ma 33), .ref (ma 34), .ref (ma 35), .ref (ma 36), .ref (ma 37), .int 0, .ref (ma 39), .ref (ma 40), .ref (ma 41), .ref (ma 42), .ref (ma 43), .ref (ma 44), .ref (ma 45), .ref (ma 46), .ref (ma 47), .ref (ma 48), .int 0, .int 0, .int 0, .int 0, .int 0, .int 0, .int 0, .long 0, .int 0, .long 0, .long 0, .long 0, .long 0, .int 0, .int 0, .int 0, .int 0, .long 0])), (ma 39, .inl (G.2 0, 6, .inl (fun _ => 0))), (ma 11, .inl (G.2 4, 96, .inr (.inl (fun _ => 0))))] H := hP
  have hD : va_D A [(m0, .inr (9, [.int 0, .int 0, .int 0, .int (-1), .ref (ma 4), .ref (ma 5), .ref (ma 6), .ref (ma 7), .ref (ma 8), .ref (ma 9), .ref (ma 10), .ref (ma 11), .ref (ma 12), .ref (ma 13), .ref (ma 14), .ref (ma 15), .ref (ma 16), .ref (ma 17), .ref (ma 18), .ref (ma 19), .int 0, .ref (ma 21), .ref (ma 22), .ref (ma 23), .ref (ma 24), .ref (ma 25), .ref (ma 26), .ref (ma 27), .ref (ma 28), .ref (ma 29), .ref (ma 30), .ref (ma 31), .ref (ma 32), .ref (ma 33), .ref (ma 34), .ref (ma 35), .ref (ma 36), .ref (ma 37), .int 0, .ref (ma 39), .ref (ma 40), .ref (ma 41), .ref (ma 42), .ref (ma 43), .ref (ma 44), .ref (ma 45), .ref (ma 46), .ref (ma 47), .ref (ma 48), .int 0, .int 0, .int 0, .int 0, .int 0, .int 0, .int 0, .long 0, .int 0, .long 0, .long 0, .long 0, .long 0, .int 0, .int 0, .int 0, .int 0, .long 0])), (ma 39, .inl (G.2 0, 6, .inl (fun _ => 0))), (ma 11, .inl (G.2 4, 96, .inr (.inl (fun _ => 0))))] := hD
  refine lv_iload_n hx hb dX9_counts_5 rfl (lv_at hl 2 rfl) ?_
  refine lv_if_lt (tgt := 13) hx hb dX9_counts_6 (by decide) (fun c_1 => ?_) (fun c_1 => ?_)
  · refine lv_iconst (v := 1) hx hb dX9_counts_13 (by decide) ?_
    refine lv_goto (tgt := 22) hx hb dX9_counts_14 (by decide) ?_
    refine lv_istore (lv' := [(5, .int 1), (0, .ref m0), (1, .int p0), (2, .int p1), (3, .int p2), (4, .int p3)]) hx hb dX9_counts_22 hl (by decide) rfl (fun ls hl => ?_)
    refine lv_iload hx hb dX9_counts_24 (lv_at hl 0 rfl) ?_
    refine lv_if_eq (tgt := 36) hx hb dX9_counts_26 (by decide) (fun c_2 => absurd c_2 (by decide +kernel)) (fun c_2 => ?_)
    refine lv_aload_n hx hb dX9_counts_29 rfl (lv_at hl 1 rfl) ?_
    refine lv_iload hx hb dX9_counts_30 (lv_at hl 0 rfl) ?_
    refine xVwi (rq := 0) (ci := 9) (wc := [(m0, .inr (9, [.int 0, .int 0, .int 0, .int (-1), .ref (ma 4), .ref (ma 5), .ref (ma 6), .ref (ma 7), .ref (ma 8), .ref (ma 9), .ref (ma 10), .ref (ma 11), .ref (ma 12), .ref (ma 13), .ref (ma 14), .ref (ma 15), .ref (ma 16), .ref (ma 17), .ref (ma 18), .ref (ma 19), .int 0, .ref (ma 21), .ref (ma 22), .ref (ma 23), .ref (ma 24), .ref (ma 25), .ref (ma 26), .ref (ma 27), .ref (ma 28), .ref (ma 29), .ref (ma 30), .ref (ma 31), .ref (ma 32), .ref (ma 33), .ref (ma 34), .ref (ma 35), .ref (ma 36), .ref (ma 37), .int 0, .ref (ma 39), .ref (ma 40), .ref (ma 41), .ref (ma 42), .ref (ma 43), .ref (ma 44), .ref (ma 45), .ref (ma 46), .ref (ma 47), .ref (ma 48), .int 0, .int 0, .int 0, .int 0, .int 0, .int 0, .int 0, .long 0, .int 0, .long 0, .long 0, .long 0, .long 0, .int 0, .int 0, .int 0, .int 0, .long 0])), (ma 39, .inl (G.2 0, 6, .inl (fun _ => 0)))]) (wr := [(ma 11, .inl (G.2 4, 96, .inr (.inl (fun _ => 0))))]) (As := [.int 1]) (rest := []) C0 (c_X9_no l G m0 ma 1 (by unfold vp_in; decide +kernel)) ok_X9_no (mW177 : Cond.methodLink RX9 168 yX9_no ∈ wsT) ⟨Nat.le_of_ble_eq_true rfl, Nat.le_of_ble_eq_true rfl⟩ hP hD hS hA hK hN [0, 1] [2] rfl rfl (by decide) (by decide) (by decide) rfl rfl rfl rfl hl.1 rfl (Nat.le_of_ble_eq_true rfl) ⟨Nat.le_of_ble_eq_true rfl, Nat.le_of_ble_eq_true rfl⟩ dX9_counts_32 (fun r_3 u_4 H locs hr_3 hP hD hS => ?_)
    have hP : va_P G.1 xcl [(ma 11, .inl (G.2 4, 96, .inr (.inl (fun _ => 0))))] H := hP
    have hD : va_D A [(ma 11, .inl (G.2 4, 96, .inr (.inl (fun _ => 0))))] := hD
    obtain rfl : r_3 = (-1) := hr_3
    have hP9 := hP.sub (ws' := []) [] rfl
    have hD9 := hD.sub (ws' := []) [] (by decide) rfl
    exact W.iret (v := (-1)) hx hb hr (fun t ht hW => ⟨⟨(-1), (), rfl, rfl, by rw [ht]; exact hP9, hD9⟩, hS.F ht⟩) hS.2.2 dX9_counts_35
  · refine lv_iload_n hx hb dX9_counts_9 rfl (lv_at hl 3 rfl) ?_
    refine lv_if_ge (tgt := 17) hx hb dX9_counts_10 (by decide) (fun c_5 => ?_) (fun c_5 => ?_)
    · refine lv_aload_n hx hb dX9_counts_17 rfl (lv_at hl 0 rfl) ?_
      refine lv_iload_n hx hb dX9_counts_18 rfl (lv_at hl 1 rfl) ?_
      refine xVri (rq := 0) (ci := 9) (wc := [(m0, .inr (9, [.int 0, .int 0, .int 0, .int (-1), .ref (ma 4), .ref (ma 5), .ref (ma 6), .ref (ma 7), .ref (ma 8), .ref (ma 9), .ref (ma 10), .ref (ma 11), .ref (ma 12), .ref (ma 13), .ref (ma 14), .ref (ma 15), .ref (ma 16), .ref (ma 17), .ref (ma 18), .ref (ma 19), .int 0, .ref (ma 21), .ref (ma 22), .ref (ma 23), .ref (ma 24), .ref (ma 25), .ref (ma 26), .ref (ma 27), .ref (ma 28), .ref (ma 29), .ref (ma 30), .ref (ma 31), .ref (ma 32), .ref (ma 33), .ref (ma 34), .ref (ma 35), .ref (ma 36), .ref (ma 37), .int 0, .ref (ma 39), .ref (ma 40), .ref (ma 41), .ref (ma 42), .ref (ma 43), .ref (ma 44), .ref (ma 45), .ref (ma 46), .ref (ma 47), .ref (ma 48), .int 0, .int 0, .int 0, .int 0, .int 0, .int 0, .int 0, .long 0, .int 0, .long 0, .long 0, .long 0, .long 0, .int 0, .int 0, .int 0, .int 0, .long 0])), (ma 11, .inl (G.2 4, 96, .inr (.inl (fun _ => 0))))]) (As := [.int p0]) (rest := []) C0 (c_X9_portWhy l G m0 ma p0) ok_X9_portWhy (mW387 : Cond.methodLink RX9 165 yX9_portWhy ∈ wsT) ⟨Nat.le_of_ble_eq_true rfl, Nat.le_of_ble_eq_true rfl⟩ hP hD hK hN [0, 2] rfl (by decide) rfl rfl rfl rfl hl.1 rfl (Nat.le_of_ble_eq_true rfl) ⟨Nat.le_of_ble_eq_true rfl, Nat.le_of_ble_eq_true rfl⟩ dX9_counts_19 (fun r_6 hr_6 => ?_)
      refine lv_istore (lv' := [(5, .int r_6), (0, .ref m0), (1, .int p0), (2, .int p1), (3, .int p2), (4, .int p3)]) hx hb dX9_counts_22 hl (by decide) rfl (fun ls hl => ?_)
      refine lv_iload hx hb dX9_counts_24 (lv_at hl 0 rfl) ?_
      refine lv_if_eq (tgt := 36) hx hb dX9_counts_26 (by decide) (fun c_7 => absurd c_7 (xn0 hr_6)) (fun c_7 => ?_)
      refine lv_aload_n hx hb dX9_counts_29 rfl (lv_at hl 1 rfl) ?_
      refine lv_iload hx hb dX9_counts_30 (lv_at hl 0 rfl) ?_
      refine xVwi (rq := 0) (ci := 9) (wc := [(m0, .inr (9, [.int 0, .int 0, .int 0, .int (-1), .ref (ma 4), .ref (ma 5), .ref (ma 6), .ref (ma 7), .ref (ma 8), .ref (ma 9), .ref (ma 10), .ref (ma 11), .ref (ma 12), .ref (ma 13), .ref (ma 14), .ref (ma 15), .ref (ma 16), .ref (ma 17), .ref (ma 18), .ref (ma 19), .int 0, .ref (ma 21), .ref (ma 22), .ref (ma 23), .ref (ma 24), .ref (ma 25), .ref (ma 26), .ref (ma 27), .ref (ma 28), .ref (ma 29), .ref (ma 30), .ref (ma 31), .ref (ma 32), .ref (ma 33), .ref (ma 34), .ref (ma 35), .ref (ma 36), .ref (ma 37), .int 0, .ref (ma 39), .ref (ma 40), .ref (ma 41), .ref (ma 42), .ref (ma 43), .ref (ma 44), .ref (ma 45), .ref (ma 46), .ref (ma 47), .ref (ma 48), .int 0, .int 0, .int 0, .int 0, .int 0, .int 0, .int 0, .long 0, .int 0, .long 0, .long 0, .long 0, .long 0, .int 0, .int 0, .int 0, .int 0, .long 0])), (ma 39, .inl (G.2 0, 6, .inl (fun _ => 0)))]) (wr := [(ma 11, .inl (G.2 4, 96, .inr (.inl (fun _ => 0))))]) (As := [.int r_6]) (rest := []) C0 (c_X9_no l G m0 ma r_6 (xin6 hr_6)) ok_X9_no (mW177 : Cond.methodLink RX9 168 yX9_no ∈ wsT) ⟨Nat.le_of_ble_eq_true rfl, Nat.le_of_ble_eq_true rfl⟩ hP hD hS hA hK hN [0, 1] [2] rfl rfl (by decide) (by decide) (by decide) rfl rfl rfl rfl hl.1 rfl (Nat.le_of_ble_eq_true rfl) ⟨Nat.le_of_ble_eq_true rfl, Nat.le_of_ble_eq_true rfl⟩ dX9_counts_32 (fun r_8 u_9 H locs hr_8 hP hD hS => ?_)
      have hP : va_P G.1 xcl [(ma 11, .inl (G.2 4, 96, .inr (.inl (fun _ => 0))))] H := hP
      have hD : va_D A [(ma 11, .inl (G.2 4, 96, .inr (.inl (fun _ => 0))))] := hD
      obtain rfl : r_8 = (-1) := hr_8
      have hP9 := hP.sub (ws' := []) [] rfl
      have hD9 := hD.sub (ws' := []) [] (by decide) rfl
      exact W.iret (v := (-1)) hx hb hr (fun t ht hW => ⟨⟨(-1), (), rfl, rfl, by rw [ht]; exact hP9, hD9⟩, hS.F ht⟩) hS.2.2 dX9_counts_35
    · refine lv_iconst (v := 1) hx hb dX9_counts_13 (by decide) ?_
      refine lv_goto (tgt := 22) hx hb dX9_counts_14 (by decide) ?_
      refine lv_istore (lv' := [(5, .int 1), (0, .ref m0), (1, .int p0), (2, .int p1), (3, .int p2), (4, .int p3)]) hx hb dX9_counts_22 hl (by decide) rfl (fun ls hl => ?_)
      refine lv_iload hx hb dX9_counts_24 (lv_at hl 0 rfl) ?_
      refine lv_if_eq (tgt := 36) hx hb dX9_counts_26 (by decide) (fun c_10 => absurd c_10 (by decide +kernel)) (fun c_10 => ?_)
      refine lv_aload_n hx hb dX9_counts_29 rfl (lv_at hl 1 rfl) ?_
      refine lv_iload hx hb dX9_counts_30 (lv_at hl 0 rfl) ?_
      refine xVwi (rq := 0) (ci := 9) (wc := [(m0, .inr (9, [.int 0, .int 0, .int 0, .int (-1), .ref (ma 4), .ref (ma 5), .ref (ma 6), .ref (ma 7), .ref (ma 8), .ref (ma 9), .ref (ma 10), .ref (ma 11), .ref (ma 12), .ref (ma 13), .ref (ma 14), .ref (ma 15), .ref (ma 16), .ref (ma 17), .ref (ma 18), .ref (ma 19), .int 0, .ref (ma 21), .ref (ma 22), .ref (ma 23), .ref (ma 24), .ref (ma 25), .ref (ma 26), .ref (ma 27), .ref (ma 28), .ref (ma 29), .ref (ma 30), .ref (ma 31), .ref (ma 32), .ref (ma 33), .ref (ma 34), .ref (ma 35), .ref (ma 36), .ref (ma 37), .int 0, .ref (ma 39), .ref (ma 40), .ref (ma 41), .ref (ma 42), .ref (ma 43), .ref (ma 44), .ref (ma 45), .ref (ma 46), .ref (ma 47), .ref (ma 48), .int 0, .int 0, .int 0, .int 0, .int 0, .int 0, .int 0, .long 0, .int 0, .long 0, .long 0, .long 0, .long 0, .int 0, .int 0, .int 0, .int 0, .long 0])), (ma 39, .inl (G.2 0, 6, .inl (fun _ => 0)))]) (wr := [(ma 11, .inl (G.2 4, 96, .inr (.inl (fun _ => 0))))]) (As := [.int 1]) (rest := []) C0 (c_X9_no l G m0 ma 1 (by unfold vp_in; decide +kernel)) ok_X9_no (mW177 : Cond.methodLink RX9 168 yX9_no ∈ wsT) ⟨Nat.le_of_ble_eq_true rfl, Nat.le_of_ble_eq_true rfl⟩ hP hD hS hA hK hN [0, 1] [2] rfl rfl (by decide) (by decide) (by decide) rfl rfl rfl rfl hl.1 rfl (Nat.le_of_ble_eq_true rfl) ⟨Nat.le_of_ble_eq_true rfl, Nat.le_of_ble_eq_true rfl⟩ dX9_counts_32 (fun r_11 u_12 H locs hr_11 hP hD hS => ?_)
      have hP : va_P G.1 xcl [(ma 11, .inl (G.2 4, 96, .inr (.inl (fun _ => 0))))] H := hP
      have hD : va_D A [(ma 11, .inl (G.2 4, 96, .inr (.inl (fun _ => 0))))] := hD
      obtain rfl : r_11 = (-1) := hr_11
      have hP9 := hP.sub (ws' := []) [] rfl
      have hD9 := hD.sub (ws' := []) [] (by decide) rfl
      exact W.iret (v := (-1)) hx hb hr (fun t ht hW => ⟨⟨(-1), (), rfl, rfl, by rw [ht]; exact hP9, hD9⟩, hS.F ht⟩) hS.2.2 dX9_counts_35
theorem dX9_by_0 : decode cX9_by 0 = .ok (.aload_n 0, 1) := by decide +kernel
theorem dX9_by_1 : decode cX9_by 1 = .ok (.iconst 0, 1) := by decide +kernel
theorem dX9_by_2 : decode cX9_by 2 = .ok (.putfield 147, 3) := by decide +kernel
theorem dX9_by_5 : decode cX9_by 5 = .ok (.iload_n 2, 1) := by decide +kernel
theorem dX9_by_6 : decode cX9_by 6 = .ok (.bipush (-3), 2) := by decide +kernel
theorem dX9_by_8 : decode cX9_by 8 = .ok (.if_icmp .lt 14, 3) := by decide +kernel
theorem dX9_by_11 : decode cX9_by 11 = .ok (.iload_n 2, 1) := by decide +kernel
theorem dX9_by_12 : decode cX9_by 12 = .ok (.iconst (-1), 1) := by decide +kernel
theorem dX9_by_13 : decode cX9_by 13 = .ok (.if_icmp .eq 9, 3) := by decide +kernel
theorem dX9_by_16 : decode cX9_by 16 = .ok (.iload_n 2, 1) := by decide +kernel
theorem dX9_by_17 : decode cX9_by 17 = .ok (.bipush 60, 2) := by decide +kernel
theorem dX9_by_19 : decode cX9_by 19 = .ok (.if_icmp .lt 7, 3) := by decide +kernel
theorem dX9_by_22 : decode cX9_by 22 = .ok (.iconst 1, 1) := by decide +kernel
theorem dX9_by_23 : decode cX9_by 23 = .ok (.goto 8, 3) := by decide +kernel
theorem dX9_by_26 : decode cX9_by 26 = .ok (.aload_n 0, 1) := by decide +kernel
theorem dX9_by_27 : decode cX9_by 27 = .ok (.iload_n 1, 1) := by decide +kernel
theorem dX9_by_28 : decode cX9_by 28 = .ok (.invokevirtual 165, 3) := by decide +kernel
theorem dX9_by_31 : decode cX9_by 31 = .ok (.istore 4, 2) := by decide +kernel
theorem dX9_by_33 : decode cX9_by 33 = .ok (.iload 4, 2) := by decide +kernel
theorem dX9_by_35 : decode cX9_by 35 = .ok (.ifCond .eq 10, 3) := by decide +kernel
theorem dX9_by_38 : decode cX9_by 38 = .ok (.aload_n 0, 1) := by decide +kernel
theorem dX9_by_39 : decode cX9_by 39 = .ok (.iload 4, 2) := by decide +kernel
theorem dX9_by_41 : decode cX9_by 41 = .ok (.invokevirtual 168, 3) := by decide +kernel
theorem dX9_by_44 : decode cX9_by 44 = .ok (.ireturn, 1) := by decide +kernel
set_option maxHeartbeats 4000000 in
set_option maxRecDepth 100000 in
theorem c_X9_by (l : Launch) (G : xG) (m0 : Nat) (ma : Nat → Nat) (p0 : Int32) (p1 : Int32) (p2 : Int32)  : xWi l G yX9_by cX9_by 5 (some .int) 2 42 0 0 [.ref m0, .int p0, .int p1, .int p2] [(m0, .inr (9, [.int 0, .int 0, .int 0, .int (-1), .ref (ma 4), .ref (ma 5), .ref (ma 6), .ref (ma 7), .ref (ma 8), .ref (ma 9), .ref (ma 10), .ref (ma 11), .ref (ma 12), .ref (ma 13), .ref (ma 14), .ref (ma 15), .ref (ma 16), .ref (ma 17), .ref (ma 18), .ref (ma 19), .int 0, .ref (ma 21), .ref (ma 22), .ref (ma 23), .ref (ma 24), .ref (ma 25), .ref (ma 26), .ref (ma 27), .ref (ma 28), .ref (ma 29), .ref (ma 30), .ref (ma 31), .ref (ma 32), .ref (ma 33), .ref (ma 34), .ref (ma 35), .ref (ma 36), .ref (ma 37), .int 0, .ref (ma 39), .ref (ma 40), .ref (ma 41), .ref (ma 42), .ref (ma 43), .ref (ma 44), .ref (ma 45), .ref (ma 46), .ref (ma 47), .ref (ma 48), .int 0, .int 0, .int 0, .int 0, .int 0, .int 0, .int 0, .long 0, .int 0, .long 0, .long 0, .long 0, .long 0, .int 0, .int 0, .int 0, .int 0, .long 0])), (ma 39, .inl (G.2 0, 6, .inl (fun _ => 0))), (ma 11, .inl (G.2 4, 96, .inr (.inl (fun _ => 0))))] (S := Unit) (fun r _ => r = (-1)) (fun _ => []) := by
  intro sz
  refine xstart (by decide) (Nat.le_of_ble_eq_true rfl) (fun p e s m args below meth c ls C0 hr hlocks hin hsz hP hK hD hN hl => ?_)
  obtain ⟨hx, hb, hml, hown, htl⟩ := id C0
  subst hsz
  have hD := hD.self (sz := s.heap.size)
  generalize hAe : va_A [(m0, .inr (9, [.int 0, .int 0, .int 0, .int (-1), .ref (ma 4), .ref (ma 5), .ref (ma 6), .ref (ma 7), .ref (ma 8), .ref (ma 9), .ref (ma 10), .ref (ma 11), .ref (ma 12), .ref (ma 13), .ref (ma 14), .ref (ma 15), .ref (ma 16), .ref (ma 17), .ref (ma 18), .ref (ma 19), .int 0, .ref (ma 21), .ref (ma 22), .ref (ma 23), .ref (ma 24), .ref (ma 25), .ref (ma 26), .ref (ma 27), .ref (ma 28), .ref (ma 29), .ref (ma 30), .ref (ma 31), .ref (ma 32), .ref (ma 33), .ref (ma 34), .ref (ma 35), .ref (ma 36), .ref (ma 37), .int 0, .ref (ma 39), .ref (ma 40), .ref (ma 41), .ref (ma 42), .ref (ma 43), .ref (ma 44), .ref (ma 45), .ref (ma 46), .ref (ma 47), .ref (ma 48), .int 0, .int 0, .int 0, .int 0, .int 0, .int 0, .int 0, .long 0, .int 0, .long 0, .long 0, .long 0, .long 0, .int 0, .int 0, .int 0, .int 0, .long 0])), (ma 39, .inl (G.2 0, 6, .inl (fun _ => 0))), (ma 11, .inl (G.2 4, 96, .inr (.inl (fun _ => 0))))] s.heap.size = A at hD ⊢
  have hA : ∀ q : Nat, s.heap.size ≤ q → A q := fun q h => by rw [← hAe]; exact Or.inr h
  have hS : va_S A s.heap s.heap [] := va_S.rf
  have hl : lv_has ls 5 [(0, .ref m0), (1, .int p0), (2, .int p1), (3, .int p2)] := hl
  refine lv_aload_n hx hb dX9_by_0 rfl (lv_at hl 0 rfl) ?_
  refine lv_iconst (v := 0) hx hb dX9_by_1 (by decide) ?_
  refine va_put (D := G.1) (ci := 9) (v := .int 0) (ty := .int) (C := RX9) (T := TX9) (N := 67) hx hb htl inlX9 tyX9 tyX9_ok nmX9 hown hK hP hD hS 0 rfl rfl 38 (by decide) (htl (.fieldLink RX9 147 "LaytimeDeskModel" "reason" "I") mW175) (fun _ h9 => h9) rfl (by decide +kernel) rfl rfl (Nat.le_of_ble_eq_true rfl) dX9_by_2 (fun H locs hP hD hS => ?_)
  have hP : va_P G.1 xcl [(m0, .inr (9, [.int 0, .int 0, .int 0, .int (-1), .ref (ma 4), .ref (ma 5), .ref (ma 6), .ref (ma 7), .ref (ma 8), .ref (ma 9), .ref (ma 10), .ref (ma 11), .ref (ma 12), .ref (ma 13), .ref (ma 14), .ref (ma 15), .ref (ma 16), .ref (ma 17), .ref (ma 18), .ref (ma 19), .int 0, .ref (ma 21), .ref (ma 22), .ref (ma 23), .ref (ma 24), .ref (ma 25), .ref (ma 26), .ref (ma 27), .ref (ma 28), .ref (ma 29), .ref (ma 30), .ref (ma 31), .ref (ma 32), .ref (ma 33), .ref (ma 34), .ref (ma 35), .ref (ma 36), .ref (ma 37), .int 0, .ref (ma 39), .ref (ma 40), .ref (ma 41), .ref (ma 42), .ref (ma 43), .ref (ma 44), .ref (ma 45), .ref (ma 46), .ref (ma 47), .ref (ma 48), .int 0, .int 0, .int 0, .int 0, .int 0, .int 0, .int 0, .long 0, .int 0, .long 0, .long 0, .long 0, .long 0, .int 0, .int 0, .int 0, .int 0, .long 0])), (ma 39, .inl (G.2 0, 6, .inl (fun _ => 0))), (ma 11, .inl (G.2 4, 96, .inr (.inl (fun _ => 0))))] H := hP
  have hD : va_D A [(m0, .inr (9, [.int 0, .int 0, .int 0, .int (-1), .ref (ma 4), .ref (ma 5), .ref (ma 6), .ref (ma 7), .ref (ma 8), .ref (ma 9), .ref (ma 10), .ref (ma 11), .ref (ma 12), .ref (ma 13), .ref (ma 14), .ref (ma 15), .ref (ma 16), .ref (ma 17), .ref (ma 18), .ref (ma 19), .int 0, .ref (ma 21), .ref (ma 22), .ref (ma 23), .ref (ma 24), .ref (ma 25), .ref (ma 26), .ref (ma 27), .ref (ma 28), .ref (ma 29), .ref (ma 30), .ref (ma 31), .ref (ma 32), .ref (ma 33), .ref (ma 34), .ref (ma 35), .ref (ma 36), .ref (ma 37), .int 0, .ref (ma 39), .ref (ma 40), .ref (ma 41), .ref (ma 42), .ref (ma 43), .ref (ma 44), .ref (ma 45), .ref (ma 46), .ref (ma 47), .ref (ma 48), .int 0, .int 0, .int 0, .int 0, .int 0, .int 0, .int 0, .long 0, .int 0, .long 0, .long 0, .long 0, .long 0, .int 0, .int 0, .int 0, .int 0, .long 0])), (ma 39, .inl (G.2 0, 6, .inl (fun _ => 0))), (ma 11, .inl (G.2 4, 96, .inr (.inl (fun _ => 0))))] := hD
  refine lv_iload_n hx hb dX9_by_5 rfl (lv_at hl 2 rfl) ?_
  refine lv_bipush (v := (-3)) hx hb dX9_by_6 (by decide) ?_
  refine lv_icmp_lt (tgt := 22) hx hb dX9_by_8 (by decide) (fun c_1 => ?_) (fun c_1 => ?_)
  · refine lv_iconst (v := 1) hx hb dX9_by_22 (by decide) ?_
    refine lv_goto (tgt := 31) hx hb dX9_by_23 (by decide) ?_
    refine lv_istore (lv' := [(4, .int 1), (0, .ref m0), (1, .int p0), (2, .int p1), (3, .int p2)]) hx hb dX9_by_31 hl (by decide) rfl (fun ls hl => ?_)
    refine lv_iload hx hb dX9_by_33 (lv_at hl 0 rfl) ?_
    refine lv_if_eq (tgt := 45) hx hb dX9_by_35 (by decide) (fun c_2 => absurd c_2 (by decide +kernel)) (fun c_2 => ?_)
    refine lv_aload_n hx hb dX9_by_38 rfl (lv_at hl 1 rfl) ?_
    refine lv_iload hx hb dX9_by_39 (lv_at hl 0 rfl) ?_
    refine xVwi (rq := 0) (ci := 9) (wc := [(m0, .inr (9, [.int 0, .int 0, .int 0, .int (-1), .ref (ma 4), .ref (ma 5), .ref (ma 6), .ref (ma 7), .ref (ma 8), .ref (ma 9), .ref (ma 10), .ref (ma 11), .ref (ma 12), .ref (ma 13), .ref (ma 14), .ref (ma 15), .ref (ma 16), .ref (ma 17), .ref (ma 18), .ref (ma 19), .int 0, .ref (ma 21), .ref (ma 22), .ref (ma 23), .ref (ma 24), .ref (ma 25), .ref (ma 26), .ref (ma 27), .ref (ma 28), .ref (ma 29), .ref (ma 30), .ref (ma 31), .ref (ma 32), .ref (ma 33), .ref (ma 34), .ref (ma 35), .ref (ma 36), .ref (ma 37), .int 0, .ref (ma 39), .ref (ma 40), .ref (ma 41), .ref (ma 42), .ref (ma 43), .ref (ma 44), .ref (ma 45), .ref (ma 46), .ref (ma 47), .ref (ma 48), .int 0, .int 0, .int 0, .int 0, .int 0, .int 0, .int 0, .long 0, .int 0, .long 0, .long 0, .long 0, .long 0, .int 0, .int 0, .int 0, .int 0, .long 0])), (ma 39, .inl (G.2 0, 6, .inl (fun _ => 0)))]) (wr := [(ma 11, .inl (G.2 4, 96, .inr (.inl (fun _ => 0))))]) (As := [.int 1]) (rest := []) C0 (c_X9_no l G m0 ma 1 (by unfold vp_in; decide +kernel)) ok_X9_no (mW177 : Cond.methodLink RX9 168 yX9_no ∈ wsT) ⟨Nat.le_of_ble_eq_true rfl, Nat.le_of_ble_eq_true rfl⟩ hP hD hS hA hK hN [0, 1] [2] rfl rfl (by decide) (by decide) (by decide) rfl rfl rfl rfl hl.1 rfl (Nat.le_of_ble_eq_true rfl) ⟨Nat.le_of_ble_eq_true rfl, Nat.le_of_ble_eq_true rfl⟩ dX9_by_41 (fun r_3 u_4 H locs hr_3 hP hD hS => ?_)
    have hP : va_P G.1 xcl [(ma 11, .inl (G.2 4, 96, .inr (.inl (fun _ => 0))))] H := hP
    have hD : va_D A [(ma 11, .inl (G.2 4, 96, .inr (.inl (fun _ => 0))))] := hD
    obtain rfl : r_3 = (-1) := hr_3
    have hP9 := hP.sub (ws' := []) [] rfl
    have hD9 := hD.sub (ws' := []) [] (by decide) rfl
    exact W.iret (v := (-1)) hx hb hr (fun t ht hW => ⟨⟨(-1), (), rfl, rfl, by rw [ht]; exact hP9, hD9⟩, hS.F ht⟩) hS.2.2 dX9_by_44
  · refine lv_iload_n hx hb dX9_by_11 rfl (lv_at hl 2 rfl) ?_
    refine lv_iconst (v := (-1)) hx hb dX9_by_12 (by decide) ?_
    refine lv_icmp_eq (tgt := 22) hx hb dX9_by_13 (by decide) (fun c_5 => ?_) (fun c_5 => ?_)
    · refine lv_iconst (v := 1) hx hb dX9_by_22 (by decide) ?_
      refine lv_goto (tgt := 31) hx hb dX9_by_23 (by decide) ?_
      refine lv_istore (lv' := [(4, .int 1), (0, .ref m0), (1, .int p0), (2, .int p1), (3, .int p2)]) hx hb dX9_by_31 hl (by decide) rfl (fun ls hl => ?_)
      refine lv_iload hx hb dX9_by_33 (lv_at hl 0 rfl) ?_
      refine lv_if_eq (tgt := 45) hx hb dX9_by_35 (by decide) (fun c_6 => absurd c_6 (by decide +kernel)) (fun c_6 => ?_)
      refine lv_aload_n hx hb dX9_by_38 rfl (lv_at hl 1 rfl) ?_
      refine lv_iload hx hb dX9_by_39 (lv_at hl 0 rfl) ?_
      refine xVwi (rq := 0) (ci := 9) (wc := [(m0, .inr (9, [.int 0, .int 0, .int 0, .int (-1), .ref (ma 4), .ref (ma 5), .ref (ma 6), .ref (ma 7), .ref (ma 8), .ref (ma 9), .ref (ma 10), .ref (ma 11), .ref (ma 12), .ref (ma 13), .ref (ma 14), .ref (ma 15), .ref (ma 16), .ref (ma 17), .ref (ma 18), .ref (ma 19), .int 0, .ref (ma 21), .ref (ma 22), .ref (ma 23), .ref (ma 24), .ref (ma 25), .ref (ma 26), .ref (ma 27), .ref (ma 28), .ref (ma 29), .ref (ma 30), .ref (ma 31), .ref (ma 32), .ref (ma 33), .ref (ma 34), .ref (ma 35), .ref (ma 36), .ref (ma 37), .int 0, .ref (ma 39), .ref (ma 40), .ref (ma 41), .ref (ma 42), .ref (ma 43), .ref (ma 44), .ref (ma 45), .ref (ma 46), .ref (ma 47), .ref (ma 48), .int 0, .int 0, .int 0, .int 0, .int 0, .int 0, .int 0, .long 0, .int 0, .long 0, .long 0, .long 0, .long 0, .int 0, .int 0, .int 0, .int 0, .long 0])), (ma 39, .inl (G.2 0, 6, .inl (fun _ => 0)))]) (wr := [(ma 11, .inl (G.2 4, 96, .inr (.inl (fun _ => 0))))]) (As := [.int 1]) (rest := []) C0 (c_X9_no l G m0 ma 1 (by unfold vp_in; decide +kernel)) ok_X9_no (mW177 : Cond.methodLink RX9 168 yX9_no ∈ wsT) ⟨Nat.le_of_ble_eq_true rfl, Nat.le_of_ble_eq_true rfl⟩ hP hD hS hA hK hN [0, 1] [2] rfl rfl (by decide) (by decide) (by decide) rfl rfl rfl rfl hl.1 rfl (Nat.le_of_ble_eq_true rfl) ⟨Nat.le_of_ble_eq_true rfl, Nat.le_of_ble_eq_true rfl⟩ dX9_by_41 (fun r_7 u_8 H locs hr_7 hP hD hS => ?_)
      have hP : va_P G.1 xcl [(ma 11, .inl (G.2 4, 96, .inr (.inl (fun _ => 0))))] H := hP
      have hD : va_D A [(ma 11, .inl (G.2 4, 96, .inr (.inl (fun _ => 0))))] := hD
      obtain rfl : r_7 = (-1) := hr_7
      have hP9 := hP.sub (ws' := []) [] rfl
      have hD9 := hD.sub (ws' := []) [] (by decide) rfl
      exact W.iret (v := (-1)) hx hb hr (fun t ht hW => ⟨⟨(-1), (), rfl, rfl, by rw [ht]; exact hP9, hD9⟩, hS.F ht⟩) hS.2.2 dX9_by_44
    · refine lv_iload_n hx hb dX9_by_16 rfl (lv_at hl 2 rfl) ?_
      refine lv_bipush (v := 60) hx hb dX9_by_17 (by decide) ?_
      refine lv_icmp_lt (tgt := 26) hx hb dX9_by_19 (by decide) (fun c_9 => ?_) (fun c_9 => ?_)
      · refine lv_aload_n hx hb dX9_by_26 rfl (lv_at hl 0 rfl) ?_
        refine lv_iload_n hx hb dX9_by_27 rfl (lv_at hl 1 rfl) ?_
        refine xVri (rq := 0) (ci := 9) (wc := [(m0, .inr (9, [.int 0, .int 0, .int 0, .int (-1), .ref (ma 4), .ref (ma 5), .ref (ma 6), .ref (ma 7), .ref (ma 8), .ref (ma 9), .ref (ma 10), .ref (ma 11), .ref (ma 12), .ref (ma 13), .ref (ma 14), .ref (ma 15), .ref (ma 16), .ref (ma 17), .ref (ma 18), .ref (ma 19), .int 0, .ref (ma 21), .ref (ma 22), .ref (ma 23), .ref (ma 24), .ref (ma 25), .ref (ma 26), .ref (ma 27), .ref (ma 28), .ref (ma 29), .ref (ma 30), .ref (ma 31), .ref (ma 32), .ref (ma 33), .ref (ma 34), .ref (ma 35), .ref (ma 36), .ref (ma 37), .int 0, .ref (ma 39), .ref (ma 40), .ref (ma 41), .ref (ma 42), .ref (ma 43), .ref (ma 44), .ref (ma 45), .ref (ma 46), .ref (ma 47), .ref (ma 48), .int 0, .int 0, .int 0, .int 0, .int 0, .int 0, .int 0, .long 0, .int 0, .long 0, .long 0, .long 0, .long 0, .int 0, .int 0, .int 0, .int 0, .long 0])), (ma 11, .inl (G.2 4, 96, .inr (.inl (fun _ => 0))))]) (As := [.int p0]) (rest := []) C0 (c_X9_portWhy l G m0 ma p0) ok_X9_portWhy (mW387 : Cond.methodLink RX9 165 yX9_portWhy ∈ wsT) ⟨Nat.le_of_ble_eq_true rfl, Nat.le_of_ble_eq_true rfl⟩ hP hD hK hN [0, 2] rfl (by decide) rfl rfl rfl rfl hl.1 rfl (Nat.le_of_ble_eq_true rfl) ⟨Nat.le_of_ble_eq_true rfl, Nat.le_of_ble_eq_true rfl⟩ dX9_by_28 (fun r_10 hr_10 => ?_)
        refine lv_istore (lv' := [(4, .int r_10), (0, .ref m0), (1, .int p0), (2, .int p1), (3, .int p2)]) hx hb dX9_by_31 hl (by decide) rfl (fun ls hl => ?_)
        refine lv_iload hx hb dX9_by_33 (lv_at hl 0 rfl) ?_
        refine lv_if_eq (tgt := 45) hx hb dX9_by_35 (by decide) (fun c_11 => absurd c_11 (xn0 hr_10)) (fun c_11 => ?_)
        refine lv_aload_n hx hb dX9_by_38 rfl (lv_at hl 1 rfl) ?_
        refine lv_iload hx hb dX9_by_39 (lv_at hl 0 rfl) ?_
        refine xVwi (rq := 0) (ci := 9) (wc := [(m0, .inr (9, [.int 0, .int 0, .int 0, .int (-1), .ref (ma 4), .ref (ma 5), .ref (ma 6), .ref (ma 7), .ref (ma 8), .ref (ma 9), .ref (ma 10), .ref (ma 11), .ref (ma 12), .ref (ma 13), .ref (ma 14), .ref (ma 15), .ref (ma 16), .ref (ma 17), .ref (ma 18), .ref (ma 19), .int 0, .ref (ma 21), .ref (ma 22), .ref (ma 23), .ref (ma 24), .ref (ma 25), .ref (ma 26), .ref (ma 27), .ref (ma 28), .ref (ma 29), .ref (ma 30), .ref (ma 31), .ref (ma 32), .ref (ma 33), .ref (ma 34), .ref (ma 35), .ref (ma 36), .ref (ma 37), .int 0, .ref (ma 39), .ref (ma 40), .ref (ma 41), .ref (ma 42), .ref (ma 43), .ref (ma 44), .ref (ma 45), .ref (ma 46), .ref (ma 47), .ref (ma 48), .int 0, .int 0, .int 0, .int 0, .int 0, .int 0, .int 0, .long 0, .int 0, .long 0, .long 0, .long 0, .long 0, .int 0, .int 0, .int 0, .int 0, .long 0])), (ma 39, .inl (G.2 0, 6, .inl (fun _ => 0)))]) (wr := [(ma 11, .inl (G.2 4, 96, .inr (.inl (fun _ => 0))))]) (As := [.int r_10]) (rest := []) C0 (c_X9_no l G m0 ma r_10 (xin6 hr_10)) ok_X9_no (mW177 : Cond.methodLink RX9 168 yX9_no ∈ wsT) ⟨Nat.le_of_ble_eq_true rfl, Nat.le_of_ble_eq_true rfl⟩ hP hD hS hA hK hN [0, 1] [2] rfl rfl (by decide) (by decide) (by decide) rfl rfl rfl rfl hl.1 rfl (Nat.le_of_ble_eq_true rfl) ⟨Nat.le_of_ble_eq_true rfl, Nat.le_of_ble_eq_true rfl⟩ dX9_by_41 (fun r_12 u_13 H locs hr_12 hP hD hS => ?_)
        have hP : va_P G.1 xcl [(ma 11, .inl (G.2 4, 96, .inr (.inl (fun _ => 0))))] H := hP
        have hD : va_D A [(ma 11, .inl (G.2 4, 96, .inr (.inl (fun _ => 0))))] := hD
        obtain rfl : r_12 = (-1) := hr_12
        have hP9 := hP.sub (ws' := []) [] rfl
        have hD9 := hD.sub (ws' := []) [] (by decide) rfl
        exact W.iret (v := (-1)) hx hb hr (fun t ht hW => ⟨⟨(-1), (), rfl, rfl, by rw [ht]; exact hP9, hD9⟩, hS.F ht⟩) hS.2.2 dX9_by_44
      · refine lv_iconst (v := 1) hx hb dX9_by_22 (by decide) ?_
        refine lv_goto (tgt := 31) hx hb dX9_by_23 (by decide) ?_
        refine lv_istore (lv' := [(4, .int 1), (0, .ref m0), (1, .int p0), (2, .int p1), (3, .int p2)]) hx hb dX9_by_31 hl (by decide) rfl (fun ls hl => ?_)
        refine lv_iload hx hb dX9_by_33 (lv_at hl 0 rfl) ?_
        refine lv_if_eq (tgt := 45) hx hb dX9_by_35 (by decide) (fun c_14 => absurd c_14 (by decide +kernel)) (fun c_14 => ?_)
        refine lv_aload_n hx hb dX9_by_38 rfl (lv_at hl 1 rfl) ?_
        refine lv_iload hx hb dX9_by_39 (lv_at hl 0 rfl) ?_
        refine xVwi (rq := 0) (ci := 9) (wc := [(m0, .inr (9, [.int 0, .int 0, .int 0, .int (-1), .ref (ma 4), .ref (ma 5), .ref (ma 6), .ref (ma 7), .ref (ma 8), .ref (ma 9), .ref (ma 10), .ref (ma 11), .ref (ma 12), .ref (ma 13), .ref (ma 14), .ref (ma 15), .ref (ma 16), .ref (ma 17), .ref (ma 18), .ref (ma 19), .int 0, .ref (ma 21), .ref (ma 22), .ref (ma 23), .ref (ma 24), .ref (ma 25), .ref (ma 26), .ref (ma 27), .ref (ma 28), .ref (ma 29), .ref (ma 30), .ref (ma 31), .ref (ma 32), .ref (ma 33), .ref (ma 34), .ref (ma 35), .ref (ma 36), .ref (ma 37), .int 0, .ref (ma 39), .ref (ma 40), .ref (ma 41), .ref (ma 42), .ref (ma 43), .ref (ma 44), .ref (ma 45), .ref (ma 46), .ref (ma 47), .ref (ma 48), .int 0, .int 0, .int 0, .int 0, .int 0, .int 0, .int 0, .long 0, .int 0, .long 0, .long 0, .long 0, .long 0, .int 0, .int 0, .int 0, .int 0, .long 0])), (ma 39, .inl (G.2 0, 6, .inl (fun _ => 0)))]) (wr := [(ma 11, .inl (G.2 4, 96, .inr (.inl (fun _ => 0))))]) (As := [.int 1]) (rest := []) C0 (c_X9_no l G m0 ma 1 (by unfold vp_in; decide +kernel)) ok_X9_no (mW177 : Cond.methodLink RX9 168 yX9_no ∈ wsT) ⟨Nat.le_of_ble_eq_true rfl, Nat.le_of_ble_eq_true rfl⟩ hP hD hS hA hK hN [0, 1] [2] rfl rfl (by decide) (by decide) (by decide) rfl rfl rfl rfl hl.1 rfl (Nat.le_of_ble_eq_true rfl) ⟨Nat.le_of_ble_eq_true rfl, Nat.le_of_ble_eq_true rfl⟩ dX9_by_41 (fun r_15 u_16 H locs hr_15 hP hD hS => ?_)
        have hP : va_P G.1 xcl [(ma 11, .inl (G.2 4, 96, .inr (.inl (fun _ => 0))))] H := hP
        have hD : va_D A [(ma 11, .inl (G.2 4, 96, .inr (.inl (fun _ => 0))))] := hD
        obtain rfl : r_15 = (-1) := hr_15
        have hP9 := hP.sub (ws' := []) [] rfl
        have hD9 := hD.sub (ws' := []) [] (by decide) rfl
        exact W.iret (v := (-1)) hx hb hr (fun t ht hW => ⟨⟨(-1), (), rfl, rfl, by rw [ht]; exact hP9, hD9⟩, hS.F ht⟩) hS.2.2 dX9_by_44
theorem dX9_claim_0 : decode cX9_claim 0 = .ok (.aload_n 0, 1) := by decide +kernel
theorem dX9_claim_1 : decode cX9_claim 1 = .ok (.iconst 0, 1) := by decide +kernel
theorem dX9_claim_2 : decode cX9_claim 2 = .ok (.putfield 147, 3) := by decide +kernel
theorem dX9_claim_5 : decode cX9_claim 5 = .ok (.aload_n 0, 1) := by decide +kernel
theorem dX9_claim_6 : decode cX9_claim 6 = .ok (.iload_n 1, 1) := by decide +kernel
theorem dX9_claim_7 : decode cX9_claim 7 = .ok (.invokevirtual 165, 3) := by decide +kernel
theorem dX9_claim_10 : decode cX9_claim 10 = .ok (.istore_n 2, 1) := by decide +kernel
theorem dX9_claim_11 : decode cX9_claim 11 = .ok (.iload_n 2, 1) := by decide +kernel
theorem dX9_claim_12 : decode cX9_claim 12 = .ok (.ifCond .eq 11, 3) := by decide +kernel
theorem dX9_claim_15 : decode cX9_claim 15 = .ok (.aload_n 0, 1) := by decide +kernel
theorem dX9_claim_16 : decode cX9_claim 16 = .ok (.iload_n 2, 1) := by decide +kernel
theorem dX9_claim_17 : decode cX9_claim 17 = .ok (.invokevirtual 168, 3) := by decide +kernel
theorem dX9_claim_20 : decode cX9_claim 20 = .ok (.pop, 1) := by decide +kernel
theorem dX9_claim_21 : decode cX9_claim 21 = .ok (.iconst 0, 1) := by decide +kernel
theorem dX9_claim_22 : decode cX9_claim 22 = .ok (.ireturn, 1) := by decide +kernel
set_option maxHeartbeats 4000000 in
set_option maxRecDepth 100000 in
theorem c_X9_claim (l : Launch) (G : xG) (m0 : Nat) (ma : Nat → Nat) (p0 : Int32)  : xWi l G yX9_claim cX9_claim 3 (some .boolean) 2 42 0 0 [.ref m0, .int p0] [(m0, .inr (9, [.int 0, .int 0, .int 0, .int (-1), .ref (ma 4), .ref (ma 5), .ref (ma 6), .ref (ma 7), .ref (ma 8), .ref (ma 9), .ref (ma 10), .ref (ma 11), .ref (ma 12), .ref (ma 13), .ref (ma 14), .ref (ma 15), .ref (ma 16), .ref (ma 17), .ref (ma 18), .ref (ma 19), .int 0, .ref (ma 21), .ref (ma 22), .ref (ma 23), .ref (ma 24), .ref (ma 25), .ref (ma 26), .ref (ma 27), .ref (ma 28), .ref (ma 29), .ref (ma 30), .ref (ma 31), .ref (ma 32), .ref (ma 33), .ref (ma 34), .ref (ma 35), .ref (ma 36), .ref (ma 37), .int 0, .ref (ma 39), .ref (ma 40), .ref (ma 41), .ref (ma 42), .ref (ma 43), .ref (ma 44), .ref (ma 45), .ref (ma 46), .ref (ma 47), .ref (ma 48), .int 0, .int 0, .int 0, .int 0, .int 0, .int 0, .int 0, .long 0, .int 0, .long 0, .long 0, .long 0, .long 0, .int 0, .int 0, .int 0, .int 0, .long 0])), (ma 39, .inl (G.2 0, 6, .inl (fun _ => 0))), (ma 11, .inl (G.2 4, 96, .inr (.inl (fun _ => 0))))] (S := Unit) (fun r _ => r = 0) (fun _ => []) := by
  intro sz
  refine xstart (by decide) (Nat.le_of_ble_eq_true rfl) (fun p e s m args below meth c ls C0 hr hlocks hin hsz hP hK hD hN hl => ?_)
  obtain ⟨hx, hb, hml, hown, htl⟩ := id C0
  subst hsz
  have hD := hD.self (sz := s.heap.size)
  generalize hAe : va_A [(m0, .inr (9, [.int 0, .int 0, .int 0, .int (-1), .ref (ma 4), .ref (ma 5), .ref (ma 6), .ref (ma 7), .ref (ma 8), .ref (ma 9), .ref (ma 10), .ref (ma 11), .ref (ma 12), .ref (ma 13), .ref (ma 14), .ref (ma 15), .ref (ma 16), .ref (ma 17), .ref (ma 18), .ref (ma 19), .int 0, .ref (ma 21), .ref (ma 22), .ref (ma 23), .ref (ma 24), .ref (ma 25), .ref (ma 26), .ref (ma 27), .ref (ma 28), .ref (ma 29), .ref (ma 30), .ref (ma 31), .ref (ma 32), .ref (ma 33), .ref (ma 34), .ref (ma 35), .ref (ma 36), .ref (ma 37), .int 0, .ref (ma 39), .ref (ma 40), .ref (ma 41), .ref (ma 42), .ref (ma 43), .ref (ma 44), .ref (ma 45), .ref (ma 46), .ref (ma 47), .ref (ma 48), .int 0, .int 0, .int 0, .int 0, .int 0, .int 0, .int 0, .long 0, .int 0, .long 0, .long 0, .long 0, .long 0, .int 0, .int 0, .int 0, .int 0, .long 0])), (ma 39, .inl (G.2 0, 6, .inl (fun _ => 0))), (ma 11, .inl (G.2 4, 96, .inr (.inl (fun _ => 0))))] s.heap.size = A at hD ⊢
  have hA : ∀ q : Nat, s.heap.size ≤ q → A q := fun q h => by rw [← hAe]; exact Or.inr h
  have hS : va_S A s.heap s.heap [] := va_S.rf
  have hl : lv_has ls 3 [(0, .ref m0), (1, .int p0)] := hl
  refine lv_aload_n hx hb dX9_claim_0 rfl (lv_at hl 0 rfl) ?_
  refine lv_iconst (v := 0) hx hb dX9_claim_1 (by decide) ?_
  refine va_put (D := G.1) (ci := 9) (v := .int 0) (ty := .int) (C := RX9) (T := TX9) (N := 67) hx hb htl inlX9 tyX9 tyX9_ok nmX9 hown hK hP hD hS 0 rfl rfl 38 (by decide) (htl (.fieldLink RX9 147 "LaytimeDeskModel" "reason" "I") mW175) (fun _ h9 => h9) rfl (by decide +kernel) rfl rfl (Nat.le_of_ble_eq_true rfl) dX9_claim_2 (fun H locs hP hD hS => ?_)
  have hP : va_P G.1 xcl [(m0, .inr (9, [.int 0, .int 0, .int 0, .int (-1), .ref (ma 4), .ref (ma 5), .ref (ma 6), .ref (ma 7), .ref (ma 8), .ref (ma 9), .ref (ma 10), .ref (ma 11), .ref (ma 12), .ref (ma 13), .ref (ma 14), .ref (ma 15), .ref (ma 16), .ref (ma 17), .ref (ma 18), .ref (ma 19), .int 0, .ref (ma 21), .ref (ma 22), .ref (ma 23), .ref (ma 24), .ref (ma 25), .ref (ma 26), .ref (ma 27), .ref (ma 28), .ref (ma 29), .ref (ma 30), .ref (ma 31), .ref (ma 32), .ref (ma 33), .ref (ma 34), .ref (ma 35), .ref (ma 36), .ref (ma 37), .int 0, .ref (ma 39), .ref (ma 40), .ref (ma 41), .ref (ma 42), .ref (ma 43), .ref (ma 44), .ref (ma 45), .ref (ma 46), .ref (ma 47), .ref (ma 48), .int 0, .int 0, .int 0, .int 0, .int 0, .int 0, .int 0, .long 0, .int 0, .long 0, .long 0, .long 0, .long 0, .int 0, .int 0, .int 0, .int 0, .long 0])), (ma 39, .inl (G.2 0, 6, .inl (fun _ => 0))), (ma 11, .inl (G.2 4, 96, .inr (.inl (fun _ => 0))))] H := hP
  have hD : va_D A [(m0, .inr (9, [.int 0, .int 0, .int 0, .int (-1), .ref (ma 4), .ref (ma 5), .ref (ma 6), .ref (ma 7), .ref (ma 8), .ref (ma 9), .ref (ma 10), .ref (ma 11), .ref (ma 12), .ref (ma 13), .ref (ma 14), .ref (ma 15), .ref (ma 16), .ref (ma 17), .ref (ma 18), .ref (ma 19), .int 0, .ref (ma 21), .ref (ma 22), .ref (ma 23), .ref (ma 24), .ref (ma 25), .ref (ma 26), .ref (ma 27), .ref (ma 28), .ref (ma 29), .ref (ma 30), .ref (ma 31), .ref (ma 32), .ref (ma 33), .ref (ma 34), .ref (ma 35), .ref (ma 36), .ref (ma 37), .int 0, .ref (ma 39), .ref (ma 40), .ref (ma 41), .ref (ma 42), .ref (ma 43), .ref (ma 44), .ref (ma 45), .ref (ma 46), .ref (ma 47), .ref (ma 48), .int 0, .int 0, .int 0, .int 0, .int 0, .int 0, .int 0, .long 0, .int 0, .long 0, .long 0, .long 0, .long 0, .int 0, .int 0, .int 0, .int 0, .long 0])), (ma 39, .inl (G.2 0, 6, .inl (fun _ => 0))), (ma 11, .inl (G.2 4, 96, .inr (.inl (fun _ => 0))))] := hD
  refine lv_aload_n hx hb dX9_claim_5 rfl (lv_at hl 0 rfl) ?_
  refine lv_iload_n hx hb dX9_claim_6 rfl (lv_at hl 1 rfl) ?_
  refine xVri (rq := 0) (ci := 9) (wc := [(m0, .inr (9, [.int 0, .int 0, .int 0, .int (-1), .ref (ma 4), .ref (ma 5), .ref (ma 6), .ref (ma 7), .ref (ma 8), .ref (ma 9), .ref (ma 10), .ref (ma 11), .ref (ma 12), .ref (ma 13), .ref (ma 14), .ref (ma 15), .ref (ma 16), .ref (ma 17), .ref (ma 18), .ref (ma 19), .int 0, .ref (ma 21), .ref (ma 22), .ref (ma 23), .ref (ma 24), .ref (ma 25), .ref (ma 26), .ref (ma 27), .ref (ma 28), .ref (ma 29), .ref (ma 30), .ref (ma 31), .ref (ma 32), .ref (ma 33), .ref (ma 34), .ref (ma 35), .ref (ma 36), .ref (ma 37), .int 0, .ref (ma 39), .ref (ma 40), .ref (ma 41), .ref (ma 42), .ref (ma 43), .ref (ma 44), .ref (ma 45), .ref (ma 46), .ref (ma 47), .ref (ma 48), .int 0, .int 0, .int 0, .int 0, .int 0, .int 0, .int 0, .long 0, .int 0, .long 0, .long 0, .long 0, .long 0, .int 0, .int 0, .int 0, .int 0, .long 0])), (ma 11, .inl (G.2 4, 96, .inr (.inl (fun _ => 0))))]) (As := [.int p0]) (rest := []) C0 (c_X9_portWhy l G m0 ma p0) ok_X9_portWhy (mW387 : Cond.methodLink RX9 165 yX9_portWhy ∈ wsT) ⟨Nat.le_of_ble_eq_true rfl, Nat.le_of_ble_eq_true rfl⟩ hP hD hK hN [0, 2] rfl (by decide) rfl rfl rfl rfl hl.1 rfl (Nat.le_of_ble_eq_true rfl) ⟨Nat.le_of_ble_eq_true rfl, Nat.le_of_ble_eq_true rfl⟩ dX9_claim_7 (fun r_1 hr_1 => ?_)
  refine lv_istore_n (lv' := [(2, .int r_1), (0, .ref m0), (1, .int p0)]) hx hb dX9_claim_10 rfl hl (by decide) rfl (fun ls hl => ?_)
  refine lv_iload_n hx hb dX9_claim_11 rfl (lv_at hl 0 rfl) ?_
  refine lv_if_eq (tgt := 23) hx hb dX9_claim_12 (by decide) (fun c_2 => absurd c_2 (xn0 hr_1)) (fun c_2 => ?_)
  refine lv_aload_n hx hb dX9_claim_15 rfl (lv_at hl 1 rfl) ?_
  refine lv_iload_n hx hb dX9_claim_16 rfl (lv_at hl 0 rfl) ?_
  refine xVwi (rq := 0) (ci := 9) (wc := [(m0, .inr (9, [.int 0, .int 0, .int 0, .int (-1), .ref (ma 4), .ref (ma 5), .ref (ma 6), .ref (ma 7), .ref (ma 8), .ref (ma 9), .ref (ma 10), .ref (ma 11), .ref (ma 12), .ref (ma 13), .ref (ma 14), .ref (ma 15), .ref (ma 16), .ref (ma 17), .ref (ma 18), .ref (ma 19), .int 0, .ref (ma 21), .ref (ma 22), .ref (ma 23), .ref (ma 24), .ref (ma 25), .ref (ma 26), .ref (ma 27), .ref (ma 28), .ref (ma 29), .ref (ma 30), .ref (ma 31), .ref (ma 32), .ref (ma 33), .ref (ma 34), .ref (ma 35), .ref (ma 36), .ref (ma 37), .int 0, .ref (ma 39), .ref (ma 40), .ref (ma 41), .ref (ma 42), .ref (ma 43), .ref (ma 44), .ref (ma 45), .ref (ma 46), .ref (ma 47), .ref (ma 48), .int 0, .int 0, .int 0, .int 0, .int 0, .int 0, .int 0, .long 0, .int 0, .long 0, .long 0, .long 0, .long 0, .int 0, .int 0, .int 0, .int 0, .long 0])), (ma 39, .inl (G.2 0, 6, .inl (fun _ => 0)))]) (wr := [(ma 11, .inl (G.2 4, 96, .inr (.inl (fun _ => 0))))]) (As := [.int r_1]) (rest := []) C0 (c_X9_no l G m0 ma r_1 (xin6 hr_1)) ok_X9_no (mW177 : Cond.methodLink RX9 168 yX9_no ∈ wsT) ⟨Nat.le_of_ble_eq_true rfl, Nat.le_of_ble_eq_true rfl⟩ hP hD hS hA hK hN [0, 1] [2] rfl rfl (by decide) (by decide) (by decide) rfl rfl rfl rfl hl.1 rfl (Nat.le_of_ble_eq_true rfl) ⟨Nat.le_of_ble_eq_true rfl, Nat.le_of_ble_eq_true rfl⟩ dX9_claim_17 (fun r_3 u_4 H locs hr_3 hP hD hS => ?_)
  have hP : va_P G.1 xcl [(ma 11, .inl (G.2 4, 96, .inr (.inl (fun _ => 0))))] H := hP
  have hD : va_D A [(ma 11, .inl (G.2 4, 96, .inr (.inl (fun _ => 0))))] := hD
  obtain rfl : r_3 = (-1) := hr_3
  refine lv_pop hx hb dX9_claim_20 rfl ?_
  refine lv_iconst (v := 0) hx hb dX9_claim_21 (by decide) ?_
  have hP9 := hP.sub (ws' := []) [] rfl
  have hD9 := hD.sub (ws' := []) [] (by decide) rfl
  exact W.zret (v := 0) (ty := .boolean) hx hb hr rfl (fun t ht hW => ⟨⟨0, (), rfl, rfl, by rw [ht]; exact hP9, hD9⟩, hS.F ht⟩) hS.2.2 dX9_claim_22
theorem dX9_weight_0 : decode cX9_weight 0 = .ok (.aload_n 0, 1) := by decide +kernel
theorem dX9_weight_1 : decode cX9_weight 1 = .ok (.iconst 0, 1) := by decide +kernel
theorem dX9_weight_2 : decode cX9_weight 2 = .ok (.putfield 147, 3) := by decide +kernel
theorem dX9_weight_5 : decode cX9_weight 5 = .ok (.iload_n 2, 1) := by decide +kernel
theorem dX9_weight_6 : decode cX9_weight 6 = .ok (.ifCond .lt 8, 3) := by decide +kernel
theorem dX9_weight_9 : decode cX9_weight 9 = .ok (.iload_n 2, 1) := by decide +kernel
theorem dX9_weight_10 : decode cX9_weight 10 = .ok (.iconst 1, 1) := by decide +kernel
theorem dX9_weight_11 : decode cX9_weight 11 = .ok (.if_icmp .le 7, 3) := by decide +kernel
theorem dX9_weight_14 : decode cX9_weight 14 = .ok (.iconst 1, 1) := by decide +kernel
theorem dX9_weight_15 : decode cX9_weight 15 = .ok (.goto 8, 3) := by decide +kernel
theorem dX9_weight_18 : decode cX9_weight 18 = .ok (.aload_n 0, 1) := by decide +kernel
theorem dX9_weight_19 : decode cX9_weight 19 = .ok (.iload_n 1, 1) := by decide +kernel
theorem dX9_weight_20 : decode cX9_weight 20 = .ok (.invokevirtual 165, 3) := by decide +kernel
theorem dX9_weight_23 : decode cX9_weight 23 = .ok (.istore_n 3, 1) := by decide +kernel
theorem dX9_weight_24 : decode cX9_weight 24 = .ok (.iload_n 3, 1) := by decide +kernel
theorem dX9_weight_25 : decode cX9_weight 25 = .ok (.ifCond .eq 10, 3) := by decide +kernel
theorem dX9_weight_28 : decode cX9_weight 28 = .ok (.aload_n 0, 1) := by decide +kernel
theorem dX9_weight_29 : decode cX9_weight 29 = .ok (.iload_n 3, 1) := by decide +kernel
theorem dX9_weight_30 : decode cX9_weight 30 = .ok (.invokevirtual 168, 3) := by decide +kernel
theorem dX9_weight_33 : decode cX9_weight 33 = .ok (.i2l, 1) := by decide +kernel
theorem dX9_weight_34 : decode cX9_weight 34 = .ok (.lreturn, 1) := by decide +kernel
set_option maxHeartbeats 4000000 in
set_option maxRecDepth 100000 in
theorem c_X9_weight (l : Launch) (G : xG) (m0 : Nat) (ma : Nat → Nat) (p0 : Int32) (p1 : Int32)  : xWl l G yX9_weight cX9_weight 4 (some .long) 2 42 0 0 [.ref m0, .int p0, .int p1] [(m0, .inr (9, [.int 0, .int 0, .int 0, .int (-1), .ref (ma 4), .ref (ma 5), .ref (ma 6), .ref (ma 7), .ref (ma 8), .ref (ma 9), .ref (ma 10), .ref (ma 11), .ref (ma 12), .ref (ma 13), .ref (ma 14), .ref (ma 15), .ref (ma 16), .ref (ma 17), .ref (ma 18), .ref (ma 19), .int 0, .ref (ma 21), .ref (ma 22), .ref (ma 23), .ref (ma 24), .ref (ma 25), .ref (ma 26), .ref (ma 27), .ref (ma 28), .ref (ma 29), .ref (ma 30), .ref (ma 31), .ref (ma 32), .ref (ma 33), .ref (ma 34), .ref (ma 35), .ref (ma 36), .ref (ma 37), .int 0, .ref (ma 39), .ref (ma 40), .ref (ma 41), .ref (ma 42), .ref (ma 43), .ref (ma 44), .ref (ma 45), .ref (ma 46), .ref (ma 47), .ref (ma 48), .int 0, .int 0, .int 0, .int 0, .int 0, .int 0, .int 0, .long 0, .int 0, .long 0, .long 0, .long 0, .long 0, .int 0, .int 0, .int 0, .int 0, .long 0])), (ma 39, .inl (G.2 0, 6, .inl (fun _ => 0))), (ma 11, .inl (G.2 4, 96, .inr (.inl (fun _ => 0))))] (S := Unit) (fun r _ => r = (-1)) (fun _ => []) := by
  intro sz
  refine xstart (by decide) (Nat.le_of_ble_eq_true rfl) (fun p e s m args below meth c ls C0 hr hlocks hin hsz hP hK hD hN hl => ?_)
  obtain ⟨hx, hb, hml, hown, htl⟩ := id C0
  subst hsz
  have hD := hD.self (sz := s.heap.size)
  generalize hAe : va_A [(m0, .inr (9, [.int 0, .int 0, .int 0, .int (-1), .ref (ma 4), .ref (ma 5), .ref (ma 6), .ref (ma 7), .ref (ma 8), .ref (ma 9), .ref (ma 10), .ref (ma 11), .ref (ma 12), .ref (ma 13), .ref (ma 14), .ref (ma 15), .ref (ma 16), .ref (ma 17), .ref (ma 18), .ref (ma 19), .int 0, .ref (ma 21), .ref (ma 22), .ref (ma 23), .ref (ma 24), .ref (ma 25), .ref (ma 26), .ref (ma 27), .ref (ma 28), .ref (ma 29), .ref (ma 30), .ref (ma 31), .ref (ma 32), .ref (ma 33), .ref (ma 34), .ref (ma 35), .ref (ma 36), .ref (ma 37), .int 0, .ref (ma 39), .ref (ma 40), .ref (ma 41), .ref (ma 42), .ref (ma 43), .ref (ma 44), .ref (ma 45), .ref (ma 46), .ref (ma 47), .ref (ma 48), .int 0, .int 0, .int 0, .int 0, .int 0, .int 0, .int 0, .long 0, .int 0, .long 0, .long 0, .long 0, .long 0, .int 0, .int 0, .int 0, .int 0, .long 0])), (ma 39, .inl (G.2 0, 6, .inl (fun _ => 0))), (ma 11, .inl (G.2 4, 96, .inr (.inl (fun _ => 0))))] s.heap.size = A at hD ⊢
  have hA : ∀ q : Nat, s.heap.size ≤ q → A q := fun q h => by rw [← hAe]; exact Or.inr h
  have hS : va_S A s.heap s.heap [] := va_S.rf
  have hl : lv_has ls 4 [(0, .ref m0), (1, .int p0), (2, .int p1)] := hl
  refine lv_aload_n hx hb dX9_weight_0 rfl (lv_at hl 0 rfl) ?_
  refine lv_iconst (v := 0) hx hb dX9_weight_1 (by decide) ?_
  refine va_put (D := G.1) (ci := 9) (v := .int 0) (ty := .int) (C := RX9) (T := TX9) (N := 67) hx hb htl inlX9 tyX9 tyX9_ok nmX9 hown hK hP hD hS 0 rfl rfl 38 (by decide) (htl (.fieldLink RX9 147 "LaytimeDeskModel" "reason" "I") mW175) (fun _ h9 => h9) rfl (by decide +kernel) rfl rfl (Nat.le_of_ble_eq_true rfl) dX9_weight_2 (fun H locs hP hD hS => ?_)
  have hP : va_P G.1 xcl [(m0, .inr (9, [.int 0, .int 0, .int 0, .int (-1), .ref (ma 4), .ref (ma 5), .ref (ma 6), .ref (ma 7), .ref (ma 8), .ref (ma 9), .ref (ma 10), .ref (ma 11), .ref (ma 12), .ref (ma 13), .ref (ma 14), .ref (ma 15), .ref (ma 16), .ref (ma 17), .ref (ma 18), .ref (ma 19), .int 0, .ref (ma 21), .ref (ma 22), .ref (ma 23), .ref (ma 24), .ref (ma 25), .ref (ma 26), .ref (ma 27), .ref (ma 28), .ref (ma 29), .ref (ma 30), .ref (ma 31), .ref (ma 32), .ref (ma 33), .ref (ma 34), .ref (ma 35), .ref (ma 36), .ref (ma 37), .int 0, .ref (ma 39), .ref (ma 40), .ref (ma 41), .ref (ma 42), .ref (ma 43), .ref (ma 44), .ref (ma 45), .ref (ma 46), .ref (ma 47), .ref (ma 48), .int 0, .int 0, .int 0, .int 0, .int 0, .int 0, .int 0, .long 0, .int 0, .long 0, .long 0, .long 0, .long 0, .int 0, .int 0, .int 0, .int 0, .long 0])), (ma 39, .inl (G.2 0, 6, .inl (fun _ => 0))), (ma 11, .inl (G.2 4, 96, .inr (.inl (fun _ => 0))))] H := hP
  have hD : va_D A [(m0, .inr (9, [.int 0, .int 0, .int 0, .int (-1), .ref (ma 4), .ref (ma 5), .ref (ma 6), .ref (ma 7), .ref (ma 8), .ref (ma 9), .ref (ma 10), .ref (ma 11), .ref (ma 12), .ref (ma 13), .ref (ma 14), .ref (ma 15), .ref (ma 16), .ref (ma 17), .ref (ma 18), .ref (ma 19), .int 0, .ref (ma 21), .ref (ma 22), .ref (ma 23), .ref (ma 24), .ref (ma 25), .ref (ma 26), .ref (ma 27), .ref (ma 28), .ref (ma 29), .ref (ma 30), .ref (ma 31), .ref (ma 32), .ref (ma 33), .ref (ma 34), .ref (ma 35), .ref (ma 36), .ref (ma 37), .int 0, .ref (ma 39), .ref (ma 40), .ref (ma 41), .ref (ma 42), .ref (ma 43), .ref (ma 44), .ref (ma 45), .ref (ma 46), .ref (ma 47), .ref (ma 48), .int 0, .int 0, .int 0, .int 0, .int 0, .int 0, .int 0, .long 0, .int 0, .long 0, .long 0, .long 0, .long 0, .int 0, .int 0, .int 0, .int 0, .long 0])), (ma 39, .inl (G.2 0, 6, .inl (fun _ => 0))), (ma 11, .inl (G.2 4, 96, .inr (.inl (fun _ => 0))))] := hD
  refine lv_iload_n hx hb dX9_weight_5 rfl (lv_at hl 2 rfl) ?_
  refine lv_if_lt (tgt := 14) hx hb dX9_weight_6 (by decide) (fun c_1 => ?_) (fun c_1 => ?_)
  · refine lv_iconst (v := 1) hx hb dX9_weight_14 (by decide) ?_
    refine lv_goto (tgt := 23) hx hb dX9_weight_15 (by decide) ?_
    refine lv_istore_n (lv' := [(3, .int 1), (0, .ref m0), (1, .int p0), (2, .int p1)]) hx hb dX9_weight_23 rfl hl (by decide) rfl (fun ls hl => ?_)
    refine lv_iload_n hx hb dX9_weight_24 rfl (lv_at hl 0 rfl) ?_
    refine lv_if_eq (tgt := 35) hx hb dX9_weight_25 (by decide) (fun c_2 => absurd c_2 (by decide +kernel)) (fun c_2 => ?_)
    refine lv_aload_n hx hb dX9_weight_28 rfl (lv_at hl 1 rfl) ?_
    refine lv_iload_n hx hb dX9_weight_29 rfl (lv_at hl 0 rfl) ?_
    refine xVwi (rq := 0) (ci := 9) (wc := [(m0, .inr (9, [.int 0, .int 0, .int 0, .int (-1), .ref (ma 4), .ref (ma 5), .ref (ma 6), .ref (ma 7), .ref (ma 8), .ref (ma 9), .ref (ma 10), .ref (ma 11), .ref (ma 12), .ref (ma 13), .ref (ma 14), .ref (ma 15), .ref (ma 16), .ref (ma 17), .ref (ma 18), .ref (ma 19), .int 0, .ref (ma 21), .ref (ma 22), .ref (ma 23), .ref (ma 24), .ref (ma 25), .ref (ma 26), .ref (ma 27), .ref (ma 28), .ref (ma 29), .ref (ma 30), .ref (ma 31), .ref (ma 32), .ref (ma 33), .ref (ma 34), .ref (ma 35), .ref (ma 36), .ref (ma 37), .int 0, .ref (ma 39), .ref (ma 40), .ref (ma 41), .ref (ma 42), .ref (ma 43), .ref (ma 44), .ref (ma 45), .ref (ma 46), .ref (ma 47), .ref (ma 48), .int 0, .int 0, .int 0, .int 0, .int 0, .int 0, .int 0, .long 0, .int 0, .long 0, .long 0, .long 0, .long 0, .int 0, .int 0, .int 0, .int 0, .long 0])), (ma 39, .inl (G.2 0, 6, .inl (fun _ => 0)))]) (wr := [(ma 11, .inl (G.2 4, 96, .inr (.inl (fun _ => 0))))]) (As := [.int 1]) (rest := []) C0 (c_X9_no l G m0 ma 1 (by unfold vp_in; decide +kernel)) ok_X9_no (mW177 : Cond.methodLink RX9 168 yX9_no ∈ wsT) ⟨Nat.le_of_ble_eq_true rfl, Nat.le_of_ble_eq_true rfl⟩ hP hD hS hA hK hN [0, 1] [2] rfl rfl (by decide) (by decide) (by decide) rfl rfl rfl rfl hl.1 rfl (Nat.le_of_ble_eq_true rfl) ⟨Nat.le_of_ble_eq_true rfl, Nat.le_of_ble_eq_true rfl⟩ dX9_weight_30 (fun r_3 u_4 H locs hr_3 hP hD hS => ?_)
    have hP : va_P G.1 xcl [(ma 11, .inl (G.2 4, 96, .inr (.inl (fun _ => 0))))] H := hP
    have hD : va_D A [(ma 11, .inl (G.2 4, 96, .inr (.inl (fun _ => 0))))] := hD
    obtain rfl : r_3 = (-1) := hr_3
    refine lv_i2l hx hb dX9_weight_33 rfl ?_
    refine lv_topl (fun z_5 ez_5 => ?_)
    obtain rfl : z_5 = (-1) := ez_5.trans (by first | rfl | decide +kernel)
    have hP9 := hP.sub (ws' := []) [] rfl
    have hD9 := hD.sub (ws' := []) [] (by decide) rfl
    exact W.lret (v := (-1)) hx hb hr (fun t ht hW => ⟨⟨(-1), (), rfl, rfl, by rw [ht]; exact hP9, hD9⟩, hS.F ht⟩) hS.2.2 dX9_weight_34
  · refine lv_iload_n hx hb dX9_weight_9 rfl (lv_at hl 2 rfl) ?_
    refine lv_iconst (v := 1) hx hb dX9_weight_10 (by decide) ?_
    refine lv_icmp_le (tgt := 18) hx hb dX9_weight_11 (by decide) (fun c_6 => ?_) (fun c_6 => ?_)
    · refine lv_aload_n hx hb dX9_weight_18 rfl (lv_at hl 0 rfl) ?_
      refine lv_iload_n hx hb dX9_weight_19 rfl (lv_at hl 1 rfl) ?_
      refine xVri (rq := 0) (ci := 9) (wc := [(m0, .inr (9, [.int 0, .int 0, .int 0, .int (-1), .ref (ma 4), .ref (ma 5), .ref (ma 6), .ref (ma 7), .ref (ma 8), .ref (ma 9), .ref (ma 10), .ref (ma 11), .ref (ma 12), .ref (ma 13), .ref (ma 14), .ref (ma 15), .ref (ma 16), .ref (ma 17), .ref (ma 18), .ref (ma 19), .int 0, .ref (ma 21), .ref (ma 22), .ref (ma 23), .ref (ma 24), .ref (ma 25), .ref (ma 26), .ref (ma 27), .ref (ma 28), .ref (ma 29), .ref (ma 30), .ref (ma 31), .ref (ma 32), .ref (ma 33), .ref (ma 34), .ref (ma 35), .ref (ma 36), .ref (ma 37), .int 0, .ref (ma 39), .ref (ma 40), .ref (ma 41), .ref (ma 42), .ref (ma 43), .ref (ma 44), .ref (ma 45), .ref (ma 46), .ref (ma 47), .ref (ma 48), .int 0, .int 0, .int 0, .int 0, .int 0, .int 0, .int 0, .long 0, .int 0, .long 0, .long 0, .long 0, .long 0, .int 0, .int 0, .int 0, .int 0, .long 0])), (ma 11, .inl (G.2 4, 96, .inr (.inl (fun _ => 0))))]) (As := [.int p0]) (rest := []) C0 (c_X9_portWhy l G m0 ma p0) ok_X9_portWhy (mW387 : Cond.methodLink RX9 165 yX9_portWhy ∈ wsT) ⟨Nat.le_of_ble_eq_true rfl, Nat.le_of_ble_eq_true rfl⟩ hP hD hK hN [0, 2] rfl (by decide) rfl rfl rfl rfl hl.1 rfl (Nat.le_of_ble_eq_true rfl) ⟨Nat.le_of_ble_eq_true rfl, Nat.le_of_ble_eq_true rfl⟩ dX9_weight_20 (fun r_7 hr_7 => ?_)
      refine lv_istore_n (lv' := [(3, .int r_7), (0, .ref m0), (1, .int p0), (2, .int p1)]) hx hb dX9_weight_23 rfl hl (by decide) rfl (fun ls hl => ?_)
      refine lv_iload_n hx hb dX9_weight_24 rfl (lv_at hl 0 rfl) ?_
      refine lv_if_eq (tgt := 35) hx hb dX9_weight_25 (by decide) (fun c_8 => absurd c_8 (xn0 hr_7)) (fun c_8 => ?_)
      refine lv_aload_n hx hb dX9_weight_28 rfl (lv_at hl 1 rfl) ?_
      refine lv_iload_n hx hb dX9_weight_29 rfl (lv_at hl 0 rfl) ?_
      refine xVwi (rq := 0) (ci := 9) (wc := [(m0, .inr (9, [.int 0, .int 0, .int 0, .int (-1), .ref (ma 4), .ref (ma 5), .ref (ma 6), .ref (ma 7), .ref (ma 8), .ref (ma 9), .ref (ma 10), .ref (ma 11), .ref (ma 12), .ref (ma 13), .ref (ma 14), .ref (ma 15), .ref (ma 16), .ref (ma 17), .ref (ma 18), .ref (ma 19), .int 0, .ref (ma 21), .ref (ma 22), .ref (ma 23), .ref (ma 24), .ref (ma 25), .ref (ma 26), .ref (ma 27), .ref (ma 28), .ref (ma 29), .ref (ma 30), .ref (ma 31), .ref (ma 32), .ref (ma 33), .ref (ma 34), .ref (ma 35), .ref (ma 36), .ref (ma 37), .int 0, .ref (ma 39), .ref (ma 40), .ref (ma 41), .ref (ma 42), .ref (ma 43), .ref (ma 44), .ref (ma 45), .ref (ma 46), .ref (ma 47), .ref (ma 48), .int 0, .int 0, .int 0, .int 0, .int 0, .int 0, .int 0, .long 0, .int 0, .long 0, .long 0, .long 0, .long 0, .int 0, .int 0, .int 0, .int 0, .long 0])), (ma 39, .inl (G.2 0, 6, .inl (fun _ => 0)))]) (wr := [(ma 11, .inl (G.2 4, 96, .inr (.inl (fun _ => 0))))]) (As := [.int r_7]) (rest := []) C0 (c_X9_no l G m0 ma r_7 (xin6 hr_7)) ok_X9_no (mW177 : Cond.methodLink RX9 168 yX9_no ∈ wsT) ⟨Nat.le_of_ble_eq_true rfl, Nat.le_of_ble_eq_true rfl⟩ hP hD hS hA hK hN [0, 1] [2] rfl rfl (by decide) (by decide) (by decide) rfl rfl rfl rfl hl.1 rfl (Nat.le_of_ble_eq_true rfl) ⟨Nat.le_of_ble_eq_true rfl, Nat.le_of_ble_eq_true rfl⟩ dX9_weight_30 (fun r_9 u_10 H locs hr_9 hP hD hS => ?_)
      have hP : va_P G.1 xcl [(ma 11, .inl (G.2 4, 96, .inr (.inl (fun _ => 0))))] H := hP
      have hD : va_D A [(ma 11, .inl (G.2 4, 96, .inr (.inl (fun _ => 0))))] := hD
      obtain rfl : r_9 = (-1) := hr_9
      refine lv_i2l hx hb dX9_weight_33 rfl ?_
      refine lv_topl (fun z_11 ez_11 => ?_)
      obtain rfl : z_11 = (-1) := ez_11.trans (by first | rfl | decide +kernel)
      have hP9 := hP.sub (ws' := []) [] rfl
      have hD9 := hD.sub (ws' := []) [] (by decide) rfl
      exact W.lret (v := (-1)) hx hb hr (fun t ht hW => ⟨⟨(-1), (), rfl, rfl, by rw [ht]; exact hP9, hD9⟩, hS.F ht⟩) hS.2.2 dX9_weight_34
    · refine lv_iconst (v := 1) hx hb dX9_weight_14 (by decide) ?_
      refine lv_goto (tgt := 23) hx hb dX9_weight_15 (by decide) ?_
      refine lv_istore_n (lv' := [(3, .int 1), (0, .ref m0), (1, .int p0), (2, .int p1)]) hx hb dX9_weight_23 rfl hl (by decide) rfl (fun ls hl => ?_)
      refine lv_iload_n hx hb dX9_weight_24 rfl (lv_at hl 0 rfl) ?_
      refine lv_if_eq (tgt := 35) hx hb dX9_weight_25 (by decide) (fun c_12 => absurd c_12 (by decide +kernel)) (fun c_12 => ?_)
      refine lv_aload_n hx hb dX9_weight_28 rfl (lv_at hl 1 rfl) ?_
      refine lv_iload_n hx hb dX9_weight_29 rfl (lv_at hl 0 rfl) ?_
      refine xVwi (rq := 0) (ci := 9) (wc := [(m0, .inr (9, [.int 0, .int 0, .int 0, .int (-1), .ref (ma 4), .ref (ma 5), .ref (ma 6), .ref (ma 7), .ref (ma 8), .ref (ma 9), .ref (ma 10), .ref (ma 11), .ref (ma 12), .ref (ma 13), .ref (ma 14), .ref (ma 15), .ref (ma 16), .ref (ma 17), .ref (ma 18), .ref (ma 19), .int 0, .ref (ma 21), .ref (ma 22), .ref (ma 23), .ref (ma 24), .ref (ma 25), .ref (ma 26), .ref (ma 27), .ref (ma 28), .ref (ma 29), .ref (ma 30), .ref (ma 31), .ref (ma 32), .ref (ma 33), .ref (ma 34), .ref (ma 35), .ref (ma 36), .ref (ma 37), .int 0, .ref (ma 39), .ref (ma 40), .ref (ma 41), .ref (ma 42), .ref (ma 43), .ref (ma 44), .ref (ma 45), .ref (ma 46), .ref (ma 47), .ref (ma 48), .int 0, .int 0, .int 0, .int 0, .int 0, .int 0, .int 0, .long 0, .int 0, .long 0, .long 0, .long 0, .long 0, .int 0, .int 0, .int 0, .int 0, .long 0])), (ma 39, .inl (G.2 0, 6, .inl (fun _ => 0)))]) (wr := [(ma 11, .inl (G.2 4, 96, .inr (.inl (fun _ => 0))))]) (As := [.int 1]) (rest := []) C0 (c_X9_no l G m0 ma 1 (by unfold vp_in; decide +kernel)) ok_X9_no (mW177 : Cond.methodLink RX9 168 yX9_no ∈ wsT) ⟨Nat.le_of_ble_eq_true rfl, Nat.le_of_ble_eq_true rfl⟩ hP hD hS hA hK hN [0, 1] [2] rfl rfl (by decide) (by decide) (by decide) rfl rfl rfl rfl hl.1 rfl (Nat.le_of_ble_eq_true rfl) ⟨Nat.le_of_ble_eq_true rfl, Nat.le_of_ble_eq_true rfl⟩ dX9_weight_30 (fun r_13 u_14 H locs hr_13 hP hD hS => ?_)
      have hP : va_P G.1 xcl [(ma 11, .inl (G.2 4, 96, .inr (.inl (fun _ => 0))))] H := hP
      have hD : va_D A [(ma 11, .inl (G.2 4, 96, .inr (.inl (fun _ => 0))))] := hD
      obtain rfl : r_13 = (-1) := hr_13
      refine lv_i2l hx hb dX9_weight_33 rfl ?_
      refine lv_topl (fun z_15 ez_15 => ?_)
      obtain rfl : z_15 = (-1) := ez_15.trans (by first | rfl | decide +kernel)
      have hP9 := hP.sub (ws' := []) [] rfl
      have hD9 := hD.sub (ws' := []) [] (by decide) rfl
      exact W.lret (v := (-1)) hx hb hr (fun t ht hW => ⟨⟨(-1), (), rfl, rfl, by rw [ht]; exact hP9, hD9⟩, hS.F ht⟩) hS.2.2 dX9_weight_34
theorem dX9_sum_0 : decode cX9_sum 0 = .ok (.aload_n 0, 1) := by decide +kernel
theorem dX9_sum_1 : decode cX9_sum 1 = .ok (.iconst 0, 1) := by decide +kernel
theorem dX9_sum_2 : decode cX9_sum 2 = .ok (.putfield 147, 3) := by decide +kernel
theorem dX9_sum_5 : decode cX9_sum 5 = .ok (.iload_n 2, 1) := by decide +kernel
theorem dX9_sum_6 : decode cX9_sum 6 = .ok (.ifCond .lt 9, 3) := by decide +kernel
theorem dX9_sum_9 : decode cX9_sum 9 = .ok (.iload_n 2, 1) := by decide +kernel
theorem dX9_sum_10 : decode cX9_sum 10 = .ok (.bipush 8, 2) := by decide +kernel
theorem dX9_sum_12 : decode cX9_sum 12 = .ok (.if_icmp .le 7, 3) := by decide +kernel
theorem dX9_sum_15 : decode cX9_sum 15 = .ok (.iconst 1, 1) := by decide +kernel
theorem dX9_sum_16 : decode cX9_sum 16 = .ok (.goto 8, 3) := by decide +kernel
theorem dX9_sum_19 : decode cX9_sum 19 = .ok (.aload_n 0, 1) := by decide +kernel
theorem dX9_sum_20 : decode cX9_sum 20 = .ok (.iload_n 1, 1) := by decide +kernel
theorem dX9_sum_21 : decode cX9_sum 21 = .ok (.invokevirtual 165, 3) := by decide +kernel
theorem dX9_sum_24 : decode cX9_sum 24 = .ok (.istore 4, 2) := by decide +kernel
theorem dX9_sum_26 : decode cX9_sum 26 = .ok (.iload 4, 2) := by decide +kernel
theorem dX9_sum_28 : decode cX9_sum 28 = .ok (.ifCond .eq 11, 3) := by decide +kernel
theorem dX9_sum_31 : decode cX9_sum 31 = .ok (.aload_n 0, 1) := by decide +kernel
theorem dX9_sum_32 : decode cX9_sum 32 = .ok (.iload 4, 2) := by decide +kernel
theorem dX9_sum_34 : decode cX9_sum 34 = .ok (.invokevirtual 168, 3) := by decide +kernel
theorem dX9_sum_37 : decode cX9_sum 37 = .ok (.i2l, 1) := by decide +kernel
theorem dX9_sum_38 : decode cX9_sum 38 = .ok (.lreturn, 1) := by decide +kernel
set_option maxHeartbeats 4000000 in
set_option maxRecDepth 100000 in
theorem c_X9_sum (l : Launch) (G : xG) (m0 : Nat) (ma : Nat → Nat) (p0 : Int32) (p1 : Int32) (p2 : Int32)  : xWl l G yX9_sum cX9_sum 6 (some .long) 2 42 0 0 [.ref m0, .int p0, .int p1, .int p2] [(m0, .inr (9, [.int 0, .int 0, .int 0, .int (-1), .ref (ma 4), .ref (ma 5), .ref (ma 6), .ref (ma 7), .ref (ma 8), .ref (ma 9), .ref (ma 10), .ref (ma 11), .ref (ma 12), .ref (ma 13), .ref (ma 14), .ref (ma 15), .ref (ma 16), .ref (ma 17), .ref (ma 18), .ref (ma 19), .int 0, .ref (ma 21), .ref (ma 22), .ref (ma 23), .ref (ma 24), .ref (ma 25), .ref (ma 26), .ref (ma 27), .ref (ma 28), .ref (ma 29), .ref (ma 30), .ref (ma 31), .ref (ma 32), .ref (ma 33), .ref (ma 34), .ref (ma 35), .ref (ma 36), .ref (ma 37), .int 0, .ref (ma 39), .ref (ma 40), .ref (ma 41), .ref (ma 42), .ref (ma 43), .ref (ma 44), .ref (ma 45), .ref (ma 46), .ref (ma 47), .ref (ma 48), .int 0, .int 0, .int 0, .int 0, .int 0, .int 0, .int 0, .long 0, .int 0, .long 0, .long 0, .long 0, .long 0, .int 0, .int 0, .int 0, .int 0, .long 0])), (ma 39, .inl (G.2 0, 6, .inl (fun _ => 0))), (ma 11, .inl (G.2 4, 96, .inr (.inl (fun _ => 0))))] (S := Unit) (fun r _ => r = (-1)) (fun _ => []) := by
  intro sz
  refine xstart (by decide) (Nat.le_of_ble_eq_true rfl) (fun p e s m args below meth c ls C0 hr hlocks hin hsz hP hK hD hN hl => ?_)
  obtain ⟨hx, hb, hml, hown, htl⟩ := id C0
  subst hsz
  have hD := hD.self (sz := s.heap.size)
  generalize hAe : va_A [(m0, .inr (9, [.int 0, .int 0, .int 0, .int (-1), .ref (ma 4), .ref (ma 5), .ref (ma 6), .ref (ma 7), .ref (ma 8), .ref (ma 9), .ref (ma 10), .ref (ma 11), .ref (ma 12), .ref (ma 13), .ref (ma 14), .ref (ma 15), .ref (ma 16), .ref (ma 17), .ref (ma 18), .ref (ma 19), .int 0, .ref (ma 21), .ref (ma 22), .ref (ma 23), .ref (ma 24), .ref (ma 25), .ref (ma 26), .ref (ma 27), .ref (ma 28), .ref (ma 29), .ref (ma 30), .ref (ma 31), .ref (ma 32), .ref (ma 33), .ref (ma 34), .ref (ma 35), .ref (ma 36), .ref (ma 37), .int 0, .ref (ma 39), .ref (ma 40), .ref (ma 41), .ref (ma 42), .ref (ma 43), .ref (ma 44), .ref (ma 45), .ref (ma 46), .ref (ma 47), .ref (ma 48), .int 0, .int 0, .int 0, .int 0, .int 0, .int 0, .int 0, .long 0, .int 0, .long 0, .long 0, .long 0, .long 0, .int 0, .int 0, .int 0, .int 0, .long 0])), (ma 39, .inl (G.2 0, 6, .inl (fun _ => 0))), (ma 11, .inl (G.2 4, 96, .inr (.inl (fun _ => 0))))] s.heap.size = A at hD ⊢
  have hA : ∀ q : Nat, s.heap.size ≤ q → A q := fun q h => by rw [← hAe]; exact Or.inr h
  have hS : va_S A s.heap s.heap [] := va_S.rf
  have hl : lv_has ls 6 [(0, .ref m0), (1, .int p0), (2, .int p1), (3, .int p2)] := hl
  refine lv_aload_n hx hb dX9_sum_0 rfl (lv_at hl 0 rfl) ?_
  refine lv_iconst (v := 0) hx hb dX9_sum_1 (by decide) ?_
  refine va_put (D := G.1) (ci := 9) (v := .int 0) (ty := .int) (C := RX9) (T := TX9) (N := 67) hx hb htl inlX9 tyX9 tyX9_ok nmX9 hown hK hP hD hS 0 rfl rfl 38 (by decide) (htl (.fieldLink RX9 147 "LaytimeDeskModel" "reason" "I") mW175) (fun _ h9 => h9) rfl (by decide +kernel) rfl rfl (Nat.le_of_ble_eq_true rfl) dX9_sum_2 (fun H locs hP hD hS => ?_)
  have hP : va_P G.1 xcl [(m0, .inr (9, [.int 0, .int 0, .int 0, .int (-1), .ref (ma 4), .ref (ma 5), .ref (ma 6), .ref (ma 7), .ref (ma 8), .ref (ma 9), .ref (ma 10), .ref (ma 11), .ref (ma 12), .ref (ma 13), .ref (ma 14), .ref (ma 15), .ref (ma 16), .ref (ma 17), .ref (ma 18), .ref (ma 19), .int 0, .ref (ma 21), .ref (ma 22), .ref (ma 23), .ref (ma 24), .ref (ma 25), .ref (ma 26), .ref (ma 27), .ref (ma 28), .ref (ma 29), .ref (ma 30), .ref (ma 31), .ref (ma 32), .ref (ma 33), .ref (ma 34), .ref (ma 35), .ref (ma 36), .ref (ma 37), .int 0, .ref (ma 39), .ref (ma 40), .ref (ma 41), .ref (ma 42), .ref (ma 43), .ref (ma 44), .ref (ma 45), .ref (ma 46), .ref (ma 47), .ref (ma 48), .int 0, .int 0, .int 0, .int 0, .int 0, .int 0, .int 0, .long 0, .int 0, .long 0, .long 0, .long 0, .long 0, .int 0, .int 0, .int 0, .int 0, .long 0])), (ma 39, .inl (G.2 0, 6, .inl (fun _ => 0))), (ma 11, .inl (G.2 4, 96, .inr (.inl (fun _ => 0))))] H := hP
  have hD : va_D A [(m0, .inr (9, [.int 0, .int 0, .int 0, .int (-1), .ref (ma 4), .ref (ma 5), .ref (ma 6), .ref (ma 7), .ref (ma 8), .ref (ma 9), .ref (ma 10), .ref (ma 11), .ref (ma 12), .ref (ma 13), .ref (ma 14), .ref (ma 15), .ref (ma 16), .ref (ma 17), .ref (ma 18), .ref (ma 19), .int 0, .ref (ma 21), .ref (ma 22), .ref (ma 23), .ref (ma 24), .ref (ma 25), .ref (ma 26), .ref (ma 27), .ref (ma 28), .ref (ma 29), .ref (ma 30), .ref (ma 31), .ref (ma 32), .ref (ma 33), .ref (ma 34), .ref (ma 35), .ref (ma 36), .ref (ma 37), .int 0, .ref (ma 39), .ref (ma 40), .ref (ma 41), .ref (ma 42), .ref (ma 43), .ref (ma 44), .ref (ma 45), .ref (ma 46), .ref (ma 47), .ref (ma 48), .int 0, .int 0, .int 0, .int 0, .int 0, .int 0, .int 0, .long 0, .int 0, .long 0, .long 0, .long 0, .long 0, .int 0, .int 0, .int 0, .int 0, .long 0])), (ma 39, .inl (G.2 0, 6, .inl (fun _ => 0))), (ma 11, .inl (G.2 4, 96, .inr (.inl (fun _ => 0))))] := hD
  refine lv_iload_n hx hb dX9_sum_5 rfl (lv_at hl 2 rfl) ?_
  refine lv_if_lt (tgt := 15) hx hb dX9_sum_6 (by decide) (fun c_1 => ?_) (fun c_1 => ?_)
  · refine lv_iconst (v := 1) hx hb dX9_sum_15 (by decide) ?_
    refine lv_goto (tgt := 24) hx hb dX9_sum_16 (by decide) ?_
    refine lv_istore (lv' := [(4, .int 1), (0, .ref m0), (1, .int p0), (2, .int p1), (3, .int p2)]) hx hb dX9_sum_24 hl (by decide) rfl (fun ls hl => ?_)
    refine lv_iload hx hb dX9_sum_26 (lv_at hl 0 rfl) ?_
    refine lv_if_eq (tgt := 39) hx hb dX9_sum_28 (by decide) (fun c_2 => absurd c_2 (by decide +kernel)) (fun c_2 => ?_)
    refine lv_aload_n hx hb dX9_sum_31 rfl (lv_at hl 1 rfl) ?_
    refine lv_iload hx hb dX9_sum_32 (lv_at hl 0 rfl) ?_
    refine xVwi (rq := 0) (ci := 9) (wc := [(m0, .inr (9, [.int 0, .int 0, .int 0, .int (-1), .ref (ma 4), .ref (ma 5), .ref (ma 6), .ref (ma 7), .ref (ma 8), .ref (ma 9), .ref (ma 10), .ref (ma 11), .ref (ma 12), .ref (ma 13), .ref (ma 14), .ref (ma 15), .ref (ma 16), .ref (ma 17), .ref (ma 18), .ref (ma 19), .int 0, .ref (ma 21), .ref (ma 22), .ref (ma 23), .ref (ma 24), .ref (ma 25), .ref (ma 26), .ref (ma 27), .ref (ma 28), .ref (ma 29), .ref (ma 30), .ref (ma 31), .ref (ma 32), .ref (ma 33), .ref (ma 34), .ref (ma 35), .ref (ma 36), .ref (ma 37), .int 0, .ref (ma 39), .ref (ma 40), .ref (ma 41), .ref (ma 42), .ref (ma 43), .ref (ma 44), .ref (ma 45), .ref (ma 46), .ref (ma 47), .ref (ma 48), .int 0, .int 0, .int 0, .int 0, .int 0, .int 0, .int 0, .long 0, .int 0, .long 0, .long 0, .long 0, .long 0, .int 0, .int 0, .int 0, .int 0, .long 0])), (ma 39, .inl (G.2 0, 6, .inl (fun _ => 0)))]) (wr := [(ma 11, .inl (G.2 4, 96, .inr (.inl (fun _ => 0))))]) (As := [.int 1]) (rest := []) C0 (c_X9_no l G m0 ma 1 (by unfold vp_in; decide +kernel)) ok_X9_no (mW177 : Cond.methodLink RX9 168 yX9_no ∈ wsT) ⟨Nat.le_of_ble_eq_true rfl, Nat.le_of_ble_eq_true rfl⟩ hP hD hS hA hK hN [0, 1] [2] rfl rfl (by decide) (by decide) (by decide) rfl rfl rfl rfl hl.1 rfl (Nat.le_of_ble_eq_true rfl) ⟨Nat.le_of_ble_eq_true rfl, Nat.le_of_ble_eq_true rfl⟩ dX9_sum_34 (fun r_3 u_4 H locs hr_3 hP hD hS => ?_)
    have hP : va_P G.1 xcl [(ma 11, .inl (G.2 4, 96, .inr (.inl (fun _ => 0))))] H := hP
    have hD : va_D A [(ma 11, .inl (G.2 4, 96, .inr (.inl (fun _ => 0))))] := hD
    obtain rfl : r_3 = (-1) := hr_3
    refine lv_i2l hx hb dX9_sum_37 rfl ?_
    refine lv_topl (fun z_5 ez_5 => ?_)
    obtain rfl : z_5 = (-1) := ez_5.trans (by first | rfl | decide +kernel)
    have hP9 := hP.sub (ws' := []) [] rfl
    have hD9 := hD.sub (ws' := []) [] (by decide) rfl
    exact W.lret (v := (-1)) hx hb hr (fun t ht hW => ⟨⟨(-1), (), rfl, rfl, by rw [ht]; exact hP9, hD9⟩, hS.F ht⟩) hS.2.2 dX9_sum_38
  · refine lv_iload_n hx hb dX9_sum_9 rfl (lv_at hl 2 rfl) ?_
    refine lv_bipush (v := 8) hx hb dX9_sum_10 (by decide) ?_
    refine lv_icmp_le (tgt := 19) hx hb dX9_sum_12 (by decide) (fun c_6 => ?_) (fun c_6 => ?_)
    · refine lv_aload_n hx hb dX9_sum_19 rfl (lv_at hl 0 rfl) ?_
      refine lv_iload_n hx hb dX9_sum_20 rfl (lv_at hl 1 rfl) ?_
      refine xVri (rq := 0) (ci := 9) (wc := [(m0, .inr (9, [.int 0, .int 0, .int 0, .int (-1), .ref (ma 4), .ref (ma 5), .ref (ma 6), .ref (ma 7), .ref (ma 8), .ref (ma 9), .ref (ma 10), .ref (ma 11), .ref (ma 12), .ref (ma 13), .ref (ma 14), .ref (ma 15), .ref (ma 16), .ref (ma 17), .ref (ma 18), .ref (ma 19), .int 0, .ref (ma 21), .ref (ma 22), .ref (ma 23), .ref (ma 24), .ref (ma 25), .ref (ma 26), .ref (ma 27), .ref (ma 28), .ref (ma 29), .ref (ma 30), .ref (ma 31), .ref (ma 32), .ref (ma 33), .ref (ma 34), .ref (ma 35), .ref (ma 36), .ref (ma 37), .int 0, .ref (ma 39), .ref (ma 40), .ref (ma 41), .ref (ma 42), .ref (ma 43), .ref (ma 44), .ref (ma 45), .ref (ma 46), .ref (ma 47), .ref (ma 48), .int 0, .int 0, .int 0, .int 0, .int 0, .int 0, .int 0, .long 0, .int 0, .long 0, .long 0, .long 0, .long 0, .int 0, .int 0, .int 0, .int 0, .long 0])), (ma 11, .inl (G.2 4, 96, .inr (.inl (fun _ => 0))))]) (As := [.int p0]) (rest := []) C0 (c_X9_portWhy l G m0 ma p0) ok_X9_portWhy (mW387 : Cond.methodLink RX9 165 yX9_portWhy ∈ wsT) ⟨Nat.le_of_ble_eq_true rfl, Nat.le_of_ble_eq_true rfl⟩ hP hD hK hN [0, 2] rfl (by decide) rfl rfl rfl rfl hl.1 rfl (Nat.le_of_ble_eq_true rfl) ⟨Nat.le_of_ble_eq_true rfl, Nat.le_of_ble_eq_true rfl⟩ dX9_sum_21 (fun r_7 hr_7 => ?_)
      refine lv_istore (lv' := [(4, .int r_7), (0, .ref m0), (1, .int p0), (2, .int p1), (3, .int p2)]) hx hb dX9_sum_24 hl (by decide) rfl (fun ls hl => ?_)
      refine lv_iload hx hb dX9_sum_26 (lv_at hl 0 rfl) ?_
      refine lv_if_eq (tgt := 39) hx hb dX9_sum_28 (by decide) (fun c_8 => absurd c_8 (xn0 hr_7)) (fun c_8 => ?_)
      refine lv_aload_n hx hb dX9_sum_31 rfl (lv_at hl 1 rfl) ?_
      refine lv_iload hx hb dX9_sum_32 (lv_at hl 0 rfl) ?_
      refine xVwi (rq := 0) (ci := 9) (wc := [(m0, .inr (9, [.int 0, .int 0, .int 0, .int (-1), .ref (ma 4), .ref (ma 5), .ref (ma 6), .ref (ma 7), .ref (ma 8), .ref (ma 9), .ref (ma 10), .ref (ma 11), .ref (ma 12), .ref (ma 13), .ref (ma 14), .ref (ma 15), .ref (ma 16), .ref (ma 17), .ref (ma 18), .ref (ma 19), .int 0, .ref (ma 21), .ref (ma 22), .ref (ma 23), .ref (ma 24), .ref (ma 25), .ref (ma 26), .ref (ma 27), .ref (ma 28), .ref (ma 29), .ref (ma 30), .ref (ma 31), .ref (ma 32), .ref (ma 33), .ref (ma 34), .ref (ma 35), .ref (ma 36), .ref (ma 37), .int 0, .ref (ma 39), .ref (ma 40), .ref (ma 41), .ref (ma 42), .ref (ma 43), .ref (ma 44), .ref (ma 45), .ref (ma 46), .ref (ma 47), .ref (ma 48), .int 0, .int 0, .int 0, .int 0, .int 0, .int 0, .int 0, .long 0, .int 0, .long 0, .long 0, .long 0, .long 0, .int 0, .int 0, .int 0, .int 0, .long 0])), (ma 39, .inl (G.2 0, 6, .inl (fun _ => 0)))]) (wr := [(ma 11, .inl (G.2 4, 96, .inr (.inl (fun _ => 0))))]) (As := [.int r_7]) (rest := []) C0 (c_X9_no l G m0 ma r_7 (xin6 hr_7)) ok_X9_no (mW177 : Cond.methodLink RX9 168 yX9_no ∈ wsT) ⟨Nat.le_of_ble_eq_true rfl, Nat.le_of_ble_eq_true rfl⟩ hP hD hS hA hK hN [0, 1] [2] rfl rfl (by decide) (by decide) (by decide) rfl rfl rfl rfl hl.1 rfl (Nat.le_of_ble_eq_true rfl) ⟨Nat.le_of_ble_eq_true rfl, Nat.le_of_ble_eq_true rfl⟩ dX9_sum_34 (fun r_9 u_10 H locs hr_9 hP hD hS => ?_)
      have hP : va_P G.1 xcl [(ma 11, .inl (G.2 4, 96, .inr (.inl (fun _ => 0))))] H := hP
      have hD : va_D A [(ma 11, .inl (G.2 4, 96, .inr (.inl (fun _ => 0))))] := hD
      obtain rfl : r_9 = (-1) := hr_9
      refine lv_i2l hx hb dX9_sum_37 rfl ?_
      refine lv_topl (fun z_11 ez_11 => ?_)
      obtain rfl : z_11 = (-1) := ez_11.trans (by first | rfl | decide +kernel)
      have hP9 := hP.sub (ws' := []) [] rfl
      have hD9 := hD.sub (ws' := []) [] (by decide) rfl
      exact W.lret (v := (-1)) hx hb hr (fun t ht hW => ⟨⟨(-1), (), rfl, rfl, by rw [ht]; exact hP9, hD9⟩, hS.F ht⟩) hS.2.2 dX9_sum_38
    · refine lv_iconst (v := 1) hx hb dX9_sum_15 (by decide) ?_
      refine lv_goto (tgt := 24) hx hb dX9_sum_16 (by decide) ?_
      refine lv_istore (lv' := [(4, .int 1), (0, .ref m0), (1, .int p0), (2, .int p1), (3, .int p2)]) hx hb dX9_sum_24 hl (by decide) rfl (fun ls hl => ?_)
      refine lv_iload hx hb dX9_sum_26 (lv_at hl 0 rfl) ?_
      refine lv_if_eq (tgt := 39) hx hb dX9_sum_28 (by decide) (fun c_12 => absurd c_12 (by decide +kernel)) (fun c_12 => ?_)
      refine lv_aload_n hx hb dX9_sum_31 rfl (lv_at hl 1 rfl) ?_
      refine lv_iload hx hb dX9_sum_32 (lv_at hl 0 rfl) ?_
      refine xVwi (rq := 0) (ci := 9) (wc := [(m0, .inr (9, [.int 0, .int 0, .int 0, .int (-1), .ref (ma 4), .ref (ma 5), .ref (ma 6), .ref (ma 7), .ref (ma 8), .ref (ma 9), .ref (ma 10), .ref (ma 11), .ref (ma 12), .ref (ma 13), .ref (ma 14), .ref (ma 15), .ref (ma 16), .ref (ma 17), .ref (ma 18), .ref (ma 19), .int 0, .ref (ma 21), .ref (ma 22), .ref (ma 23), .ref (ma 24), .ref (ma 25), .ref (ma 26), .ref (ma 27), .ref (ma 28), .ref (ma 29), .ref (ma 30), .ref (ma 31), .ref (ma 32), .ref (ma 33), .ref (ma 34), .ref (ma 35), .ref (ma 36), .ref (ma 37), .int 0, .ref (ma 39), .ref (ma 40), .ref (ma 41), .ref (ma 42), .ref (ma 43), .ref (ma 44), .ref (ma 45), .ref (ma 46), .ref (ma 47), .ref (ma 48), .int 0, .int 0, .int 0, .int 0, .int 0, .int 0, .int 0, .long 0, .int 0, .long 0, .long 0, .long 0, .long 0, .int 0, .int 0, .int 0, .int 0, .long 0])), (ma 39, .inl (G.2 0, 6, .inl (fun _ => 0)))]) (wr := [(ma 11, .inl (G.2 4, 96, .inr (.inl (fun _ => 0))))]) (As := [.int 1]) (rest := []) C0 (c_X9_no l G m0 ma 1 (by unfold vp_in; decide +kernel)) ok_X9_no (mW177 : Cond.methodLink RX9 168 yX9_no ∈ wsT) ⟨Nat.le_of_ble_eq_true rfl, Nat.le_of_ble_eq_true rfl⟩ hP hD hS hA hK hN [0, 1] [2] rfl rfl (by decide) (by decide) (by decide) rfl rfl rfl rfl hl.1 rfl (Nat.le_of_ble_eq_true rfl) ⟨Nat.le_of_ble_eq_true rfl, Nat.le_of_ble_eq_true rfl⟩ dX9_sum_34 (fun r_13 u_14 H locs hr_13 hP hD hS => ?_)
      have hP : va_P G.1 xcl [(ma 11, .inl (G.2 4, 96, .inr (.inl (fun _ => 0))))] H := hP
      have hD : va_D A [(ma 11, .inl (G.2 4, 96, .inr (.inl (fun _ => 0))))] := hD
      obtain rfl : r_13 = (-1) := hr_13
      refine lv_i2l hx hb dX9_sum_37 rfl ?_
      refine lv_topl (fun z_15 ez_15 => ?_)
      obtain rfl : z_15 = (-1) := ez_15.trans (by first | rfl | decide +kernel)
      have hP9 := hP.sub (ws' := []) [] rfl
      have hD9 := hD.sub (ws' := []) [] (by decide) rfl
      exact W.lret (v := (-1)) hx hb hr (fun t ht hW => ⟨⟨(-1), (), rfl, rfl, by rw [ht]; exact hP9, hD9⟩, hS.F ht⟩) hS.2.2 dX9_sum_38
theorem dX9_as_0 : decode cX9_as 0 = .ok (.aload_n 0, 1) := by decide +kernel
theorem dX9_as_1 : decode cX9_as 1 = .ok (.iconst 0, 1) := by decide +kernel
theorem dX9_as_2 : decode cX9_as 2 = .ok (.putfield 147, 3) := by decide +kernel
theorem dX9_as_5 : decode cX9_as 5 = .ok (.iload_n 2, 1) := by decide +kernel
theorem dX9_as_6 : decode cX9_as 6 = .ok (.ifCond .lt 20, 3) := by decide +kernel
theorem dX9_as_9 : decode cX9_as 9 = .ok (.iload_n 2, 1) := by decide +kernel
theorem dX9_as_10 : decode cX9_as 10 = .ok (.bipush 60, 2) := by decide +kernel
theorem dX9_as_12 : decode cX9_as 12 = .ok (.if_icmp .ge 14, 3) := by decide +kernel
theorem dX9_as_15 : decode cX9_as 15 = .ok (.iload_n 3, 1) := by decide +kernel
theorem dX9_as_16 : decode cX9_as 16 = .ok (.iconst (-1), 1) := by decide +kernel
theorem dX9_as_17 : decode cX9_as 17 = .ok (.if_icmp .lt 9, 3) := by decide +kernel
theorem dX9_as_20 : decode cX9_as 20 = .ok (.iload_n 3, 1) := by decide +kernel
theorem dX9_as_21 : decode cX9_as 21 = .ok (.bipush 60, 2) := by decide +kernel
theorem dX9_as_23 : decode cX9_as 23 = .ok (.if_icmp .lt 7, 3) := by decide +kernel
theorem dX9_as_26 : decode cX9_as 26 = .ok (.iconst 1, 1) := by decide +kernel
theorem dX9_as_27 : decode cX9_as 27 = .ok (.goto 8, 3) := by decide +kernel
theorem dX9_as_30 : decode cX9_as 30 = .ok (.aload_n 0, 1) := by decide +kernel
theorem dX9_as_31 : decode cX9_as 31 = .ok (.iload_n 1, 1) := by decide +kernel
theorem dX9_as_32 : decode cX9_as 32 = .ok (.invokevirtual 165, 3) := by decide +kernel
theorem dX9_as_35 : decode cX9_as 35 = .ok (.istore 5, 2) := by decide +kernel
theorem dX9_as_37 : decode cX9_as 37 = .ok (.iload 5, 2) := by decide +kernel
theorem dX9_as_39 : decode cX9_as 39 = .ok (.ifCond .eq 11, 3) := by decide +kernel
theorem dX9_as_42 : decode cX9_as 42 = .ok (.aload_n 0, 1) := by decide +kernel
theorem dX9_as_43 : decode cX9_as 43 = .ok (.iload 5, 2) := by decide +kernel
theorem dX9_as_45 : decode cX9_as 45 = .ok (.invokevirtual 168, 3) := by decide +kernel
theorem dX9_as_48 : decode cX9_as 48 = .ok (.i2l, 1) := by decide +kernel
theorem dX9_as_49 : decode cX9_as 49 = .ok (.lreturn, 1) := by decide +kernel
set_option maxHeartbeats 4000000 in
set_option maxRecDepth 100000 in
theorem c_X9_as (l : Launch) (G : xG) (m0 : Nat) (ma : Nat → Nat) (p0 : Int32) (p1 : Int32) (p2 : Int32) (p3 : Int32)  : xWl l G yX9_as cX9_as 6 (some .long) 2 42 0 0 [.ref m0, .int p0, .int p1, .int p2, .int p3] [(m0, .inr (9, [.int 0, .int 0, .int 0, .int (-1), .ref (ma 4), .ref (ma 5), .ref (ma 6), .ref (ma 7), .ref (ma 8), .ref (ma 9), .ref (ma 10), .ref (ma 11), .ref (ma 12), .ref (ma 13), .ref (ma 14), .ref (ma 15), .ref (ma 16), .ref (ma 17), .ref (ma 18), .ref (ma 19), .int 0, .ref (ma 21), .ref (ma 22), .ref (ma 23), .ref (ma 24), .ref (ma 25), .ref (ma 26), .ref (ma 27), .ref (ma 28), .ref (ma 29), .ref (ma 30), .ref (ma 31), .ref (ma 32), .ref (ma 33), .ref (ma 34), .ref (ma 35), .ref (ma 36), .ref (ma 37), .int 0, .ref (ma 39), .ref (ma 40), .ref (ma 41), .ref (ma 42), .ref (ma 43), .ref (ma 44), .ref (ma 45), .ref (ma 46), .ref (ma 47), .ref (ma 48), .int 0, .int 0, .int 0, .int 0, .int 0, .int 0, .int 0, .long 0, .int 0, .long 0, .long 0, .long 0, .long 0, .int 0, .int 0, .int 0, .int 0, .long 0])), (ma 39, .inl (G.2 0, 6, .inl (fun _ => 0))), (ma 11, .inl (G.2 4, 96, .inr (.inl (fun _ => 0))))] (S := Unit) (fun r _ => r = (-1)) (fun _ => []) := by
  intro sz
  refine xstart (by decide) (Nat.le_of_ble_eq_true rfl) (fun p e s m args below meth c ls C0 hr hlocks hin hsz hP hK hD hN hl => ?_)
  obtain ⟨hx, hb, hml, hown, htl⟩ := id C0
  subst hsz
  have hD := hD.self (sz := s.heap.size)
  generalize hAe : va_A [(m0, .inr (9, [.int 0, .int 0, .int 0, .int (-1), .ref (ma 4), .ref (ma 5), .ref (ma 6), .ref (ma 7), .ref (ma 8), .ref (ma 9), .ref (ma 10), .ref (ma 11), .ref (ma 12), .ref (ma 13), .ref (ma 14), .ref (ma 15), .ref (ma 16), .ref (ma 17), .ref (ma 18), .ref (ma 19), .int 0, .ref (ma 21), .ref (ma 22), .ref (ma 23), .ref (ma 24), .ref (ma 25), .ref (ma 26), .ref (ma 27), .ref (ma 28), .ref (ma 29), .ref (ma 30), .ref (ma 31), .ref (ma 32), .ref (ma 33), .ref (ma 34), .ref (ma 35), .ref (ma 36), .ref (ma 37), .int 0, .ref (ma 39), .ref (ma 40), .ref (ma 41), .ref (ma 42), .ref (ma 43), .ref (ma 44), .ref (ma 45), .ref (ma 46), .ref (ma 47), .ref (ma 48), .int 0, .int 0, .int 0, .int 0, .int 0, .int 0, .int 0, .long 0, .int 0, .long 0, .long 0, .long 0, .long 0, .int 0, .int 0, .int 0, .int 0, .long 0])), (ma 39, .inl (G.2 0, 6, .inl (fun _ => 0))), (ma 11, .inl (G.2 4, 96, .inr (.inl (fun _ => 0))))] s.heap.size = A at hD ⊢
  have hA : ∀ q : Nat, s.heap.size ≤ q → A q := fun q h => by rw [← hAe]; exact Or.inr h
  have hS : va_S A s.heap s.heap [] := va_S.rf
  have hl : lv_has ls 6 [(0, .ref m0), (1, .int p0), (2, .int p1), (3, .int p2), (4, .int p3)] := hl
  refine lv_aload_n hx hb dX9_as_0 rfl (lv_at hl 0 rfl) ?_
  refine lv_iconst (v := 0) hx hb dX9_as_1 (by decide) ?_
  refine va_put (D := G.1) (ci := 9) (v := .int 0) (ty := .int) (C := RX9) (T := TX9) (N := 67) hx hb htl inlX9 tyX9 tyX9_ok nmX9 hown hK hP hD hS 0 rfl rfl 38 (by decide) (htl (.fieldLink RX9 147 "LaytimeDeskModel" "reason" "I") mW175) (fun _ h9 => h9) rfl (by decide +kernel) rfl rfl (Nat.le_of_ble_eq_true rfl) dX9_as_2 (fun H locs hP hD hS => ?_)
  have hP : va_P G.1 xcl [(m0, .inr (9, [.int 0, .int 0, .int 0, .int (-1), .ref (ma 4), .ref (ma 5), .ref (ma 6), .ref (ma 7), .ref (ma 8), .ref (ma 9), .ref (ma 10), .ref (ma 11), .ref (ma 12), .ref (ma 13), .ref (ma 14), .ref (ma 15), .ref (ma 16), .ref (ma 17), .ref (ma 18), .ref (ma 19), .int 0, .ref (ma 21), .ref (ma 22), .ref (ma 23), .ref (ma 24), .ref (ma 25), .ref (ma 26), .ref (ma 27), .ref (ma 28), .ref (ma 29), .ref (ma 30), .ref (ma 31), .ref (ma 32), .ref (ma 33), .ref (ma 34), .ref (ma 35), .ref (ma 36), .ref (ma 37), .int 0, .ref (ma 39), .ref (ma 40), .ref (ma 41), .ref (ma 42), .ref (ma 43), .ref (ma 44), .ref (ma 45), .ref (ma 46), .ref (ma 47), .ref (ma 48), .int 0, .int 0, .int 0, .int 0, .int 0, .int 0, .int 0, .long 0, .int 0, .long 0, .long 0, .long 0, .long 0, .int 0, .int 0, .int 0, .int 0, .long 0])), (ma 39, .inl (G.2 0, 6, .inl (fun _ => 0))), (ma 11, .inl (G.2 4, 96, .inr (.inl (fun _ => 0))))] H := hP
  have hD : va_D A [(m0, .inr (9, [.int 0, .int 0, .int 0, .int (-1), .ref (ma 4), .ref (ma 5), .ref (ma 6), .ref (ma 7), .ref (ma 8), .ref (ma 9), .ref (ma 10), .ref (ma 11), .ref (ma 12), .ref (ma 13), .ref (ma 14), .ref (ma 15), .ref (ma 16), .ref (ma 17), .ref (ma 18), .ref (ma 19), .int 0, .ref (ma 21), .ref (ma 22), .ref (ma 23), .ref (ma 24), .ref (ma 25), .ref (ma 26), .ref (ma 27), .ref (ma 28), .ref (ma 29), .ref (ma 30), .ref (ma 31), .ref (ma 32), .ref (ma 33), .ref (ma 34), .ref (ma 35), .ref (ma 36), .ref (ma 37), .int 0, .ref (ma 39), .ref (ma 40), .ref (ma 41), .ref (ma 42), .ref (ma 43), .ref (ma 44), .ref (ma 45), .ref (ma 46), .ref (ma 47), .ref (ma 48), .int 0, .int 0, .int 0, .int 0, .int 0, .int 0, .int 0, .long 0, .int 0, .long 0, .long 0, .long 0, .long 0, .int 0, .int 0, .int 0, .int 0, .long 0])), (ma 39, .inl (G.2 0, 6, .inl (fun _ => 0))), (ma 11, .inl (G.2 4, 96, .inr (.inl (fun _ => 0))))] := hD
  refine lv_iload_n hx hb dX9_as_5 rfl (lv_at hl 2 rfl) ?_
  refine lv_if_lt (tgt := 26) hx hb dX9_as_6 (by decide) (fun c_1 => ?_) (fun c_1 => ?_)
  · refine lv_iconst (v := 1) hx hb dX9_as_26 (by decide) ?_
    refine lv_goto (tgt := 35) hx hb dX9_as_27 (by decide) ?_
    refine lv_istore (lv' := [(5, .int 1), (0, .ref m0), (1, .int p0), (2, .int p1), (3, .int p2), (4, .int p3)]) hx hb dX9_as_35 hl (by decide) rfl (fun ls hl => ?_)
    refine lv_iload hx hb dX9_as_37 (lv_at hl 0 rfl) ?_
    refine lv_if_eq (tgt := 50) hx hb dX9_as_39 (by decide) (fun c_2 => absurd c_2 (by decide +kernel)) (fun c_2 => ?_)
    refine lv_aload_n hx hb dX9_as_42 rfl (lv_at hl 1 rfl) ?_
    refine lv_iload hx hb dX9_as_43 (lv_at hl 0 rfl) ?_
    refine xVwi (rq := 0) (ci := 9) (wc := [(m0, .inr (9, [.int 0, .int 0, .int 0, .int (-1), .ref (ma 4), .ref (ma 5), .ref (ma 6), .ref (ma 7), .ref (ma 8), .ref (ma 9), .ref (ma 10), .ref (ma 11), .ref (ma 12), .ref (ma 13), .ref (ma 14), .ref (ma 15), .ref (ma 16), .ref (ma 17), .ref (ma 18), .ref (ma 19), .int 0, .ref (ma 21), .ref (ma 22), .ref (ma 23), .ref (ma 24), .ref (ma 25), .ref (ma 26), .ref (ma 27), .ref (ma 28), .ref (ma 29), .ref (ma 30), .ref (ma 31), .ref (ma 32), .ref (ma 33), .ref (ma 34), .ref (ma 35), .ref (ma 36), .ref (ma 37), .int 0, .ref (ma 39), .ref (ma 40), .ref (ma 41), .ref (ma 42), .ref (ma 43), .ref (ma 44), .ref (ma 45), .ref (ma 46), .ref (ma 47), .ref (ma 48), .int 0, .int 0, .int 0, .int 0, .int 0, .int 0, .int 0, .long 0, .int 0, .long 0, .long 0, .long 0, .long 0, .int 0, .int 0, .int 0, .int 0, .long 0])), (ma 39, .inl (G.2 0, 6, .inl (fun _ => 0)))]) (wr := [(ma 11, .inl (G.2 4, 96, .inr (.inl (fun _ => 0))))]) (As := [.int 1]) (rest := []) C0 (c_X9_no l G m0 ma 1 (by unfold vp_in; decide +kernel)) ok_X9_no (mW177 : Cond.methodLink RX9 168 yX9_no ∈ wsT) ⟨Nat.le_of_ble_eq_true rfl, Nat.le_of_ble_eq_true rfl⟩ hP hD hS hA hK hN [0, 1] [2] rfl rfl (by decide) (by decide) (by decide) rfl rfl rfl rfl hl.1 rfl (Nat.le_of_ble_eq_true rfl) ⟨Nat.le_of_ble_eq_true rfl, Nat.le_of_ble_eq_true rfl⟩ dX9_as_45 (fun r_3 u_4 H locs hr_3 hP hD hS => ?_)
    have hP : va_P G.1 xcl [(ma 11, .inl (G.2 4, 96, .inr (.inl (fun _ => 0))))] H := hP
    have hD : va_D A [(ma 11, .inl (G.2 4, 96, .inr (.inl (fun _ => 0))))] := hD
    obtain rfl : r_3 = (-1) := hr_3
    refine lv_i2l hx hb dX9_as_48 rfl ?_
    refine lv_topl (fun z_5 ez_5 => ?_)
    obtain rfl : z_5 = (-1) := ez_5.trans (by first | rfl | decide +kernel)
    have hP9 := hP.sub (ws' := []) [] rfl
    have hD9 := hD.sub (ws' := []) [] (by decide) rfl
    exact W.lret (v := (-1)) hx hb hr (fun t ht hW => ⟨⟨(-1), (), rfl, rfl, by rw [ht]; exact hP9, hD9⟩, hS.F ht⟩) hS.2.2 dX9_as_49
  · refine lv_iload_n hx hb dX9_as_9 rfl (lv_at hl 2 rfl) ?_
    refine lv_bipush (v := 60) hx hb dX9_as_10 (by decide) ?_
    refine lv_icmp_ge (tgt := 26) hx hb dX9_as_12 (by decide) (fun c_6 => ?_) (fun c_6 => ?_)
    · refine lv_iconst (v := 1) hx hb dX9_as_26 (by decide) ?_
      refine lv_goto (tgt := 35) hx hb dX9_as_27 (by decide) ?_
      refine lv_istore (lv' := [(5, .int 1), (0, .ref m0), (1, .int p0), (2, .int p1), (3, .int p2), (4, .int p3)]) hx hb dX9_as_35 hl (by decide) rfl (fun ls hl => ?_)
      refine lv_iload hx hb dX9_as_37 (lv_at hl 0 rfl) ?_
      refine lv_if_eq (tgt := 50) hx hb dX9_as_39 (by decide) (fun c_7 => absurd c_7 (by decide +kernel)) (fun c_7 => ?_)
      refine lv_aload_n hx hb dX9_as_42 rfl (lv_at hl 1 rfl) ?_
      refine lv_iload hx hb dX9_as_43 (lv_at hl 0 rfl) ?_
      refine xVwi (rq := 0) (ci := 9) (wc := [(m0, .inr (9, [.int 0, .int 0, .int 0, .int (-1), .ref (ma 4), .ref (ma 5), .ref (ma 6), .ref (ma 7), .ref (ma 8), .ref (ma 9), .ref (ma 10), .ref (ma 11), .ref (ma 12), .ref (ma 13), .ref (ma 14), .ref (ma 15), .ref (ma 16), .ref (ma 17), .ref (ma 18), .ref (ma 19), .int 0, .ref (ma 21), .ref (ma 22), .ref (ma 23), .ref (ma 24), .ref (ma 25), .ref (ma 26), .ref (ma 27), .ref (ma 28), .ref (ma 29), .ref (ma 30), .ref (ma 31), .ref (ma 32), .ref (ma 33), .ref (ma 34), .ref (ma 35), .ref (ma 36), .ref (ma 37), .int 0, .ref (ma 39), .ref (ma 40), .ref (ma 41), .ref (ma 42), .ref (ma 43), .ref (ma 44), .ref (ma 45), .ref (ma 46), .ref (ma 47), .ref (ma 48), .int 0, .int 0, .int 0, .int 0, .int 0, .int 0, .int 0, .long 0, .int 0, .long 0, .long 0, .long 0, .long 0, .int 0, .int 0, .int 0, .int 0, .long 0])), (ma 39, .inl (G.2 0, 6, .inl (fun _ => 0)))]) (wr := [(ma 11, .inl (G.2 4, 96, .inr (.inl (fun _ => 0))))]) (As := [.int 1]) (rest := []) C0 (c_X9_no l G m0 ma 1 (by unfold vp_in; decide +kernel)) ok_X9_no (mW177 : Cond.methodLink RX9 168 yX9_no ∈ wsT) ⟨Nat.le_of_ble_eq_true rfl, Nat.le_of_ble_eq_true rfl⟩ hP hD hS hA hK hN [0, 1] [2] rfl rfl (by decide) (by decide) (by decide) rfl rfl rfl rfl hl.1 rfl (Nat.le_of_ble_eq_true rfl) ⟨Nat.le_of_ble_eq_true rfl, Nat.le_of_ble_eq_true rfl⟩ dX9_as_45 (fun r_8 u_9 H locs hr_8 hP hD hS => ?_)
      have hP : va_P G.1 xcl [(ma 11, .inl (G.2 4, 96, .inr (.inl (fun _ => 0))))] H := hP
      have hD : va_D A [(ma 11, .inl (G.2 4, 96, .inr (.inl (fun _ => 0))))] := hD
      obtain rfl : r_8 = (-1) := hr_8
      refine lv_i2l hx hb dX9_as_48 rfl ?_
      refine lv_topl (fun z_10 ez_10 => ?_)
      obtain rfl : z_10 = (-1) := ez_10.trans (by first | rfl | decide +kernel)
      have hP9 := hP.sub (ws' := []) [] rfl
      have hD9 := hD.sub (ws' := []) [] (by decide) rfl
      exact W.lret (v := (-1)) hx hb hr (fun t ht hW => ⟨⟨(-1), (), rfl, rfl, by rw [ht]; exact hP9, hD9⟩, hS.F ht⟩) hS.2.2 dX9_as_49
    · refine lv_iload_n hx hb dX9_as_15 rfl (lv_at hl 3 rfl) ?_
      refine lv_iconst (v := (-1)) hx hb dX9_as_16 (by decide) ?_
      refine lv_icmp_lt (tgt := 26) hx hb dX9_as_17 (by decide) (fun c_11 => ?_) (fun c_11 => ?_)
      · refine lv_iconst (v := 1) hx hb dX9_as_26 (by decide) ?_
        refine lv_goto (tgt := 35) hx hb dX9_as_27 (by decide) ?_
        refine lv_istore (lv' := [(5, .int 1), (0, .ref m0), (1, .int p0), (2, .int p1), (3, .int p2), (4, .int p3)]) hx hb dX9_as_35 hl (by decide) rfl (fun ls hl => ?_)
        refine lv_iload hx hb dX9_as_37 (lv_at hl 0 rfl) ?_
        refine lv_if_eq (tgt := 50) hx hb dX9_as_39 (by decide) (fun c_12 => absurd c_12 (by decide +kernel)) (fun c_12 => ?_)
        refine lv_aload_n hx hb dX9_as_42 rfl (lv_at hl 1 rfl) ?_
        refine lv_iload hx hb dX9_as_43 (lv_at hl 0 rfl) ?_
        refine xVwi (rq := 0) (ci := 9) (wc := [(m0, .inr (9, [.int 0, .int 0, .int 0, .int (-1), .ref (ma 4), .ref (ma 5), .ref (ma 6), .ref (ma 7), .ref (ma 8), .ref (ma 9), .ref (ma 10), .ref (ma 11), .ref (ma 12), .ref (ma 13), .ref (ma 14), .ref (ma 15), .ref (ma 16), .ref (ma 17), .ref (ma 18), .ref (ma 19), .int 0, .ref (ma 21), .ref (ma 22), .ref (ma 23), .ref (ma 24), .ref (ma 25), .ref (ma 26), .ref (ma 27), .ref (ma 28), .ref (ma 29), .ref (ma 30), .ref (ma 31), .ref (ma 32), .ref (ma 33), .ref (ma 34), .ref (ma 35), .ref (ma 36), .ref (ma 37), .int 0, .ref (ma 39), .ref (ma 40), .ref (ma 41), .ref (ma 42), .ref (ma 43), .ref (ma 44), .ref (ma 45), .ref (ma 46), .ref (ma 47), .ref (ma 48), .int 0, .int 0, .int 0, .int 0, .int 0, .int 0, .int 0, .long 0, .int 0, .long 0, .long 0, .long 0, .long 0, .int 0, .int 0, .int 0, .int 0, .long 0])), (ma 39, .inl (G.2 0, 6, .inl (fun _ => 0)))]) (wr := [(ma 11, .inl (G.2 4, 96, .inr (.inl (fun _ => 0))))]) (As := [.int 1]) (rest := []) C0 (c_X9_no l G m0 ma 1 (by unfold vp_in; decide +kernel)) ok_X9_no (mW177 : Cond.methodLink RX9 168 yX9_no ∈ wsT) ⟨Nat.le_of_ble_eq_true rfl, Nat.le_of_ble_eq_true rfl⟩ hP hD hS hA hK hN [0, 1] [2] rfl rfl (by decide) (by decide) (by decide) rfl rfl rfl rfl hl.1 rfl (Nat.le_of_ble_eq_true rfl) ⟨Nat.le_of_ble_eq_true rfl, Nat.le_of_ble_eq_true rfl⟩ dX9_as_45 (fun r_13 u_14 H locs hr_13 hP hD hS => ?_)
        have hP : va_P G.1 xcl [(ma 11, .inl (G.2 4, 96, .inr (.inl (fun _ => 0))))] H := hP
        have hD : va_D A [(ma 11, .inl (G.2 4, 96, .inr (.inl (fun _ => 0))))] := hD
        obtain rfl : r_13 = (-1) := hr_13
        refine lv_i2l hx hb dX9_as_48 rfl ?_
        refine lv_topl (fun z_15 ez_15 => ?_)
        obtain rfl : z_15 = (-1) := ez_15.trans (by first | rfl | decide +kernel)
        have hP9 := hP.sub (ws' := []) [] rfl
        have hD9 := hD.sub (ws' := []) [] (by decide) rfl
        exact W.lret (v := (-1)) hx hb hr (fun t ht hW => ⟨⟨(-1), (), rfl, rfl, by rw [ht]; exact hP9, hD9⟩, hS.F ht⟩) hS.2.2 dX9_as_49
      · refine lv_iload_n hx hb dX9_as_20 rfl (lv_at hl 3 rfl) ?_
        refine lv_bipush (v := 60) hx hb dX9_as_21 (by decide) ?_
        refine lv_icmp_lt (tgt := 30) hx hb dX9_as_23 (by decide) (fun c_16 => ?_) (fun c_16 => ?_)
        · refine lv_aload_n hx hb dX9_as_30 rfl (lv_at hl 0 rfl) ?_
          refine lv_iload_n hx hb dX9_as_31 rfl (lv_at hl 1 rfl) ?_
          refine xVri (rq := 0) (ci := 9) (wc := [(m0, .inr (9, [.int 0, .int 0, .int 0, .int (-1), .ref (ma 4), .ref (ma 5), .ref (ma 6), .ref (ma 7), .ref (ma 8), .ref (ma 9), .ref (ma 10), .ref (ma 11), .ref (ma 12), .ref (ma 13), .ref (ma 14), .ref (ma 15), .ref (ma 16), .ref (ma 17), .ref (ma 18), .ref (ma 19), .int 0, .ref (ma 21), .ref (ma 22), .ref (ma 23), .ref (ma 24), .ref (ma 25), .ref (ma 26), .ref (ma 27), .ref (ma 28), .ref (ma 29), .ref (ma 30), .ref (ma 31), .ref (ma 32), .ref (ma 33), .ref (ma 34), .ref (ma 35), .ref (ma 36), .ref (ma 37), .int 0, .ref (ma 39), .ref (ma 40), .ref (ma 41), .ref (ma 42), .ref (ma 43), .ref (ma 44), .ref (ma 45), .ref (ma 46), .ref (ma 47), .ref (ma 48), .int 0, .int 0, .int 0, .int 0, .int 0, .int 0, .int 0, .long 0, .int 0, .long 0, .long 0, .long 0, .long 0, .int 0, .int 0, .int 0, .int 0, .long 0])), (ma 11, .inl (G.2 4, 96, .inr (.inl (fun _ => 0))))]) (As := [.int p0]) (rest := []) C0 (c_X9_portWhy l G m0 ma p0) ok_X9_portWhy (mW387 : Cond.methodLink RX9 165 yX9_portWhy ∈ wsT) ⟨Nat.le_of_ble_eq_true rfl, Nat.le_of_ble_eq_true rfl⟩ hP hD hK hN [0, 2] rfl (by decide) rfl rfl rfl rfl hl.1 rfl (Nat.le_of_ble_eq_true rfl) ⟨Nat.le_of_ble_eq_true rfl, Nat.le_of_ble_eq_true rfl⟩ dX9_as_32 (fun r_17 hr_17 => ?_)
          refine lv_istore (lv' := [(5, .int r_17), (0, .ref m0), (1, .int p0), (2, .int p1), (3, .int p2), (4, .int p3)]) hx hb dX9_as_35 hl (by decide) rfl (fun ls hl => ?_)
          refine lv_iload hx hb dX9_as_37 (lv_at hl 0 rfl) ?_
          refine lv_if_eq (tgt := 50) hx hb dX9_as_39 (by decide) (fun c_18 => absurd c_18 (xn0 hr_17)) (fun c_18 => ?_)
          refine lv_aload_n hx hb dX9_as_42 rfl (lv_at hl 1 rfl) ?_
          refine lv_iload hx hb dX9_as_43 (lv_at hl 0 rfl) ?_
          refine xVwi (rq := 0) (ci := 9) (wc := [(m0, .inr (9, [.int 0, .int 0, .int 0, .int (-1), .ref (ma 4), .ref (ma 5), .ref (ma 6), .ref (ma 7), .ref (ma 8), .ref (ma 9), .ref (ma 10), .ref (ma 11), .ref (ma 12), .ref (ma 13), .ref (ma 14), .ref (ma 15), .ref (ma 16), .ref (ma 17), .ref (ma 18), .ref (ma 19), .int 0, .ref (ma 21), .ref (ma 22), .ref (ma 23), .ref (ma 24), .ref (ma 25), .ref (ma 26), .ref (ma 27), .ref (ma 28), .ref (ma 29), .ref (ma 30), .ref (ma 31), .ref (ma 32), .ref (ma 33), .ref (ma 34), .ref (ma 35), .ref (ma 36), .ref (ma 37), .int 0, .ref (ma 39), .ref (ma 40), .ref (ma 41), .ref (ma 42), .ref (ma 43), .ref (ma 44), .ref (ma 45), .ref (ma 46), .ref (ma 47), .ref (ma 48), .int 0, .int 0, .int 0, .int 0, .int 0, .int 0, .int 0, .long 0, .int 0, .long 0, .long 0, .long 0, .long 0, .int 0, .int 0, .int 0, .int 0, .long 0])), (ma 39, .inl (G.2 0, 6, .inl (fun _ => 0)))]) (wr := [(ma 11, .inl (G.2 4, 96, .inr (.inl (fun _ => 0))))]) (As := [.int r_17]) (rest := []) C0 (c_X9_no l G m0 ma r_17 (xin6 hr_17)) ok_X9_no (mW177 : Cond.methodLink RX9 168 yX9_no ∈ wsT) ⟨Nat.le_of_ble_eq_true rfl, Nat.le_of_ble_eq_true rfl⟩ hP hD hS hA hK hN [0, 1] [2] rfl rfl (by decide) (by decide) (by decide) rfl rfl rfl rfl hl.1 rfl (Nat.le_of_ble_eq_true rfl) ⟨Nat.le_of_ble_eq_true rfl, Nat.le_of_ble_eq_true rfl⟩ dX9_as_45 (fun r_19 u_20 H locs hr_19 hP hD hS => ?_)
          have hP : va_P G.1 xcl [(ma 11, .inl (G.2 4, 96, .inr (.inl (fun _ => 0))))] H := hP
          have hD : va_D A [(ma 11, .inl (G.2 4, 96, .inr (.inl (fun _ => 0))))] := hD
          obtain rfl : r_19 = (-1) := hr_19
          refine lv_i2l hx hb dX9_as_48 rfl ?_
          refine lv_topl (fun z_21 ez_21 => ?_)
          obtain rfl : z_21 = (-1) := ez_21.trans (by first | rfl | decide +kernel)
          have hP9 := hP.sub (ws' := []) [] rfl
          have hD9 := hD.sub (ws' := []) [] (by decide) rfl
          exact W.lret (v := (-1)) hx hb hr (fun t ht hW => ⟨⟨(-1), (), rfl, rfl, by rw [ht]; exact hP9, hD9⟩, hS.F ht⟩) hS.2.2 dX9_as_49
        · refine lv_iconst (v := 1) hx hb dX9_as_26 (by decide) ?_
          refine lv_goto (tgt := 35) hx hb dX9_as_27 (by decide) ?_
          refine lv_istore (lv' := [(5, .int 1), (0, .ref m0), (1, .int p0), (2, .int p1), (3, .int p2), (4, .int p3)]) hx hb dX9_as_35 hl (by decide) rfl (fun ls hl => ?_)
          refine lv_iload hx hb dX9_as_37 (lv_at hl 0 rfl) ?_
          refine lv_if_eq (tgt := 50) hx hb dX9_as_39 (by decide) (fun c_22 => absurd c_22 (by decide +kernel)) (fun c_22 => ?_)
          refine lv_aload_n hx hb dX9_as_42 rfl (lv_at hl 1 rfl) ?_
          refine lv_iload hx hb dX9_as_43 (lv_at hl 0 rfl) ?_
          refine xVwi (rq := 0) (ci := 9) (wc := [(m0, .inr (9, [.int 0, .int 0, .int 0, .int (-1), .ref (ma 4), .ref (ma 5), .ref (ma 6), .ref (ma 7), .ref (ma 8), .ref (ma 9), .ref (ma 10), .ref (ma 11), .ref (ma 12), .ref (ma 13), .ref (ma 14), .ref (ma 15), .ref (ma 16), .ref (ma 17), .ref (ma 18), .ref (ma 19), .int 0, .ref (ma 21), .ref (ma 22), .ref (ma 23), .ref (ma 24), .ref (ma 25), .ref (ma 26), .ref (ma 27), .ref (ma 28), .ref (ma 29), .ref (ma 30), .ref (ma 31), .ref (ma 32), .ref (ma 33), .ref (ma 34), .ref (ma 35), .ref (ma 36), .ref (ma 37), .int 0, .ref (ma 39), .ref (ma 40), .ref (ma 41), .ref (ma 42), .ref (ma 43), .ref (ma 44), .ref (ma 45), .ref (ma 46), .ref (ma 47), .ref (ma 48), .int 0, .int 0, .int 0, .int 0, .int 0, .int 0, .int 0, .long 0, .int 0, .long 0, .long 0, .long 0, .long 0, .int 0, .int 0, .int 0, .int 0, .long 0])), (ma 39, .inl (G.2 0, 6, .inl (fun _ => 0)))]) (wr := [(ma 11, .inl (G.2 4, 96, .inr (.inl (fun _ => 0))))]) (As := [.int 1]) (rest := []) C0 (c_X9_no l G m0 ma 1 (by unfold vp_in; decide +kernel)) ok_X9_no (mW177 : Cond.methodLink RX9 168 yX9_no ∈ wsT) ⟨Nat.le_of_ble_eq_true rfl, Nat.le_of_ble_eq_true rfl⟩ hP hD hS hA hK hN [0, 1] [2] rfl rfl (by decide) (by decide) (by decide) rfl rfl rfl rfl hl.1 rfl (Nat.le_of_ble_eq_true rfl) ⟨Nat.le_of_ble_eq_true rfl, Nat.le_of_ble_eq_true rfl⟩ dX9_as_45 (fun r_23 u_24 H locs hr_23 hP hD hS => ?_)
          have hP : va_P G.1 xcl [(ma 11, .inl (G.2 4, 96, .inr (.inl (fun _ => 0))))] H := hP
          have hD : va_D A [(ma 11, .inl (G.2 4, 96, .inr (.inl (fun _ => 0))))] := hD
          obtain rfl : r_23 = (-1) := hr_23
          refine lv_i2l hx hb dX9_as_48 rfl ?_
          refine lv_topl (fun z_25 ez_25 => ?_)
          obtain rfl : z_25 = (-1) := ez_25.trans (by first | rfl | decide +kernel)
          have hP9 := hP.sub (ws' := []) [] rfl
          have hD9 := hD.sub (ws' := []) [] (by decide) rfl
          exact W.lret (v := (-1)) hx hb hr (fun t ht hW => ⟨⟨(-1), (), rfl, rfl, by rw [ht]; exact hP9, hD9⟩, hS.F ht⟩) hS.2.2 dX9_as_49
theorem dX9_tell_0 : decode cX9_tell 0 = .ok (.aload_n 0, 1) := by decide +kernel
theorem dX9_tell_1 : decode cX9_tell 1 = .ok (.iconst 0, 1) := by decide +kernel
theorem dX9_tell_2 : decode cX9_tell 2 = .ok (.putfield 147, 3) := by decide +kernel
theorem dX9_tell_5 : decode cX9_tell 5 = .ok (.iload_n 1, 1) := by decide +kernel
theorem dX9_tell_6 : decode cX9_tell 6 = .ok (.iconst 1, 1) := by decide +kernel
theorem dX9_tell_7 : decode cX9_tell 7 = .ok (.if_icmp .lt 26, 3) := by decide +kernel
theorem dX9_tell_10 : decode cX9_tell 10 = .ok (.iload_n 1, 1) := by decide +kernel
theorem dX9_tell_11 : decode cX9_tell 11 = .ok (.ldc 174, 2) := by decide +kernel
theorem dX9_tell_13 : decode cX9_tell 13 = .ok (.if_icmp .gt 20, 3) := by decide +kernel
theorem dX9_tell_16 : decode cX9_tell 16 = .ok (.iload_n 2, 1) := by decide +kernel
theorem dX9_tell_17 : decode cX9_tell 17 = .ok (.bipush (-3), 2) := by decide +kernel
theorem dX9_tell_19 : decode cX9_tell 19 = .ok (.if_icmp .lt 14, 3) := by decide +kernel
theorem dX9_tell_22 : decode cX9_tell 22 = .ok (.iload_n 2, 1) := by decide +kernel
theorem dX9_tell_23 : decode cX9_tell 23 = .ok (.iconst (-1), 1) := by decide +kernel
theorem dX9_tell_24 : decode cX9_tell 24 = .ok (.if_icmp .eq 9, 3) := by decide +kernel
theorem dX9_tell_27 : decode cX9_tell 27 = .ok (.iload_n 2, 1) := by decide +kernel
theorem dX9_tell_28 : decode cX9_tell 28 = .ok (.bipush 60, 2) := by decide +kernel
theorem dX9_tell_30 : decode cX9_tell 30 = .ok (.if_icmp .lt 7, 3) := by decide +kernel
theorem dX9_tell_33 : decode cX9_tell 33 = .ok (.iconst 1, 1) := by decide +kernel
theorem dX9_tell_34 : decode cX9_tell 34 = .ok (.goto 29, 3) := by decide +kernel
theorem dX9_tell_37 : decode cX9_tell 37 = .ok (.aload_n 0, 1) := by decide +kernel
theorem dX9_tell_38 : decode cX9_tell 38 = .ok (.getfield 7, 3) := by decide +kernel
theorem dX9_tell_41 : decode cX9_tell 41 = .ok (.ifCond .ge 7, 3) := by decide +kernel
theorem dX9_tell_44 : decode cX9_tell 44 = .ok (.iconst 2, 1) := by decide +kernel
theorem dX9_tell_45 : decode cX9_tell 45 = .ok (.goto 18, 3) := by decide +kernel
theorem dX9_tell_63 : decode cX9_tell 63 = .ok (.istore_n 3, 1) := by decide +kernel
theorem dX9_tell_64 : decode cX9_tell 64 = .ok (.iload_n 3, 1) := by decide +kernel
theorem dX9_tell_65 : decode cX9_tell 65 = .ok (.ifCond .eq 9, 3) := by decide +kernel
theorem dX9_tell_68 : decode cX9_tell 68 = .ok (.aload_n 0, 1) := by decide +kernel
theorem dX9_tell_69 : decode cX9_tell 69 = .ok (.iload_n 3, 1) := by decide +kernel
theorem dX9_tell_70 : decode cX9_tell 70 = .ok (.invokevirtual 168, 3) := by decide +kernel
theorem dX9_tell_73 : decode cX9_tell 73 = .ok (.ireturn, 1) := by decide +kernel
set_option maxHeartbeats 4000000 in
set_option maxRecDepth 100000 in
theorem c_X9_tell (l : Launch) (G : xG) (m0 : Nat) (ma : Nat → Nat) (p0 : Int32) (p1 : Int32)  : xWi l G yX9_tell cX9_tell 4 (some .int) 1 21 0 0 [.ref m0, .int p0, .int p1] [(m0, .inr (9, [.int 0, .int 0, .int 0, .int (-1), .ref (ma 4), .ref (ma 5), .ref (ma 6), .ref (ma 7), .ref (ma 8), .ref (ma 9), .ref (ma 10), .ref (ma 11), .ref (ma 12), .ref (ma 13), .ref (ma 14), .ref (ma 15), .ref (ma 16), .ref (ma 17), .ref (ma 18), .ref (ma 19), .int 0, .ref (ma 21), .ref (ma 22), .ref (ma 23), .ref (ma 24), .ref (ma 25), .ref (ma 26), .ref (ma 27), .ref (ma 28), .ref (ma 29), .ref (ma 30), .ref (ma 31), .ref (ma 32), .ref (ma 33), .ref (ma 34), .ref (ma 35), .ref (ma 36), .ref (ma 37), .int 0, .ref (ma 39), .ref (ma 40), .ref (ma 41), .ref (ma 42), .ref (ma 43), .ref (ma 44), .ref (ma 45), .ref (ma 46), .ref (ma 47), .ref (ma 48), .int 0, .int 0, .int 0, .int 0, .int 0, .int 0, .int 0, .long 0, .int 0, .long 0, .long 0, .long 0, .long 0, .int 0, .int 0, .int 0, .int 0, .long 0])), (ma 39, .inl (G.2 0, 6, .inl (fun _ => 0)))] (S := Unit) (fun r _ => r = (-1)) (fun _ => []) := by
  intro sz
  refine xstart (by decide) (Nat.le_of_ble_eq_true rfl) (fun p e s m args below meth c ls C0 hr hlocks hin hsz hP hK hD hN hl => ?_)
  obtain ⟨hx, hb, hml, hown, htl⟩ := id C0
  subst hsz
  have hD := hD.self (sz := s.heap.size)
  generalize hAe : va_A [(m0, .inr (9, [.int 0, .int 0, .int 0, .int (-1), .ref (ma 4), .ref (ma 5), .ref (ma 6), .ref (ma 7), .ref (ma 8), .ref (ma 9), .ref (ma 10), .ref (ma 11), .ref (ma 12), .ref (ma 13), .ref (ma 14), .ref (ma 15), .ref (ma 16), .ref (ma 17), .ref (ma 18), .ref (ma 19), .int 0, .ref (ma 21), .ref (ma 22), .ref (ma 23), .ref (ma 24), .ref (ma 25), .ref (ma 26), .ref (ma 27), .ref (ma 28), .ref (ma 29), .ref (ma 30), .ref (ma 31), .ref (ma 32), .ref (ma 33), .ref (ma 34), .ref (ma 35), .ref (ma 36), .ref (ma 37), .int 0, .ref (ma 39), .ref (ma 40), .ref (ma 41), .ref (ma 42), .ref (ma 43), .ref (ma 44), .ref (ma 45), .ref (ma 46), .ref (ma 47), .ref (ma 48), .int 0, .int 0, .int 0, .int 0, .int 0, .int 0, .int 0, .long 0, .int 0, .long 0, .long 0, .long 0, .long 0, .int 0, .int 0, .int 0, .int 0, .long 0])), (ma 39, .inl (G.2 0, 6, .inl (fun _ => 0)))] s.heap.size = A at hD ⊢
  have hA : ∀ q : Nat, s.heap.size ≤ q → A q := fun q h => by rw [← hAe]; exact Or.inr h
  have hS : va_S A s.heap s.heap [] := va_S.rf
  have hl : lv_has ls 4 [(0, .ref m0), (1, .int p0), (2, .int p1)] := hl
  refine lv_aload_n hx hb dX9_tell_0 rfl (lv_at hl 0 rfl) ?_
  refine lv_iconst (v := 0) hx hb dX9_tell_1 (by decide) ?_
  refine va_put (D := G.1) (ci := 9) (v := .int 0) (ty := .int) (C := RX9) (T := TX9) (N := 67) hx hb htl inlX9 tyX9 tyX9_ok nmX9 hown hK hP hD hS 0 rfl rfl 38 (by decide) (htl (.fieldLink RX9 147 "LaytimeDeskModel" "reason" "I") mW175) (fun _ h9 => h9) rfl (by decide +kernel) rfl rfl (Nat.le_of_ble_eq_true rfl) dX9_tell_2 (fun H locs hP hD hS => ?_)
  have hP : va_P G.1 xcl [(m0, .inr (9, [.int 0, .int 0, .int 0, .int (-1), .ref (ma 4), .ref (ma 5), .ref (ma 6), .ref (ma 7), .ref (ma 8), .ref (ma 9), .ref (ma 10), .ref (ma 11), .ref (ma 12), .ref (ma 13), .ref (ma 14), .ref (ma 15), .ref (ma 16), .ref (ma 17), .ref (ma 18), .ref (ma 19), .int 0, .ref (ma 21), .ref (ma 22), .ref (ma 23), .ref (ma 24), .ref (ma 25), .ref (ma 26), .ref (ma 27), .ref (ma 28), .ref (ma 29), .ref (ma 30), .ref (ma 31), .ref (ma 32), .ref (ma 33), .ref (ma 34), .ref (ma 35), .ref (ma 36), .ref (ma 37), .int 0, .ref (ma 39), .ref (ma 40), .ref (ma 41), .ref (ma 42), .ref (ma 43), .ref (ma 44), .ref (ma 45), .ref (ma 46), .ref (ma 47), .ref (ma 48), .int 0, .int 0, .int 0, .int 0, .int 0, .int 0, .int 0, .long 0, .int 0, .long 0, .long 0, .long 0, .long 0, .int 0, .int 0, .int 0, .int 0, .long 0])), (ma 39, .inl (G.2 0, 6, .inl (fun _ => 0)))] H := hP
  have hD : va_D A [(m0, .inr (9, [.int 0, .int 0, .int 0, .int (-1), .ref (ma 4), .ref (ma 5), .ref (ma 6), .ref (ma 7), .ref (ma 8), .ref (ma 9), .ref (ma 10), .ref (ma 11), .ref (ma 12), .ref (ma 13), .ref (ma 14), .ref (ma 15), .ref (ma 16), .ref (ma 17), .ref (ma 18), .ref (ma 19), .int 0, .ref (ma 21), .ref (ma 22), .ref (ma 23), .ref (ma 24), .ref (ma 25), .ref (ma 26), .ref (ma 27), .ref (ma 28), .ref (ma 29), .ref (ma 30), .ref (ma 31), .ref (ma 32), .ref (ma 33), .ref (ma 34), .ref (ma 35), .ref (ma 36), .ref (ma 37), .int 0, .ref (ma 39), .ref (ma 40), .ref (ma 41), .ref (ma 42), .ref (ma 43), .ref (ma 44), .ref (ma 45), .ref (ma 46), .ref (ma 47), .ref (ma 48), .int 0, .int 0, .int 0, .int 0, .int 0, .int 0, .int 0, .long 0, .int 0, .long 0, .long 0, .long 0, .long 0, .int 0, .int 0, .int 0, .int 0, .long 0])), (ma 39, .inl (G.2 0, 6, .inl (fun _ => 0)))] := hD
  refine lv_iload_n hx hb dX9_tell_5 rfl (lv_at hl 1 rfl) ?_
  refine lv_iconst (v := 1) hx hb dX9_tell_6 (by decide) ?_
  refine lv_icmp_lt (tgt := 33) hx hb dX9_tell_7 (by decide) (fun c_1 => ?_) (fun c_1 => ?_)
  · refine lv_iconst (v := 1) hx hb dX9_tell_33 (by decide) ?_
    refine lv_goto (tgt := 63) hx hb dX9_tell_34 (by decide) ?_
    refine lv_istore_n (lv' := [(3, .int 1), (0, .ref m0), (1, .int p0), (2, .int p1)]) hx hb dX9_tell_63 rfl hl (by decide) rfl (fun ls hl => ?_)
    refine lv_iload_n hx hb dX9_tell_64 rfl (lv_at hl 0 rfl) ?_
    refine lv_if_eq (tgt := 74) hx hb dX9_tell_65 (by decide) (fun c_2 => absurd c_2 (by decide +kernel)) (fun c_2 => ?_)
    refine lv_aload_n hx hb dX9_tell_68 rfl (lv_at hl 1 rfl) ?_
    refine lv_iload_n hx hb dX9_tell_69 rfl (lv_at hl 0 rfl) ?_
    refine xVwi (rq := 0) (ci := 9) (wc := [(m0, .inr (9, [.int 0, .int 0, .int 0, .int (-1), .ref (ma 4), .ref (ma 5), .ref (ma 6), .ref (ma 7), .ref (ma 8), .ref (ma 9), .ref (ma 10), .ref (ma 11), .ref (ma 12), .ref (ma 13), .ref (ma 14), .ref (ma 15), .ref (ma 16), .ref (ma 17), .ref (ma 18), .ref (ma 19), .int 0, .ref (ma 21), .ref (ma 22), .ref (ma 23), .ref (ma 24), .ref (ma 25), .ref (ma 26), .ref (ma 27), .ref (ma 28), .ref (ma 29), .ref (ma 30), .ref (ma 31), .ref (ma 32), .ref (ma 33), .ref (ma 34), .ref (ma 35), .ref (ma 36), .ref (ma 37), .int 0, .ref (ma 39), .ref (ma 40), .ref (ma 41), .ref (ma 42), .ref (ma 43), .ref (ma 44), .ref (ma 45), .ref (ma 46), .ref (ma 47), .ref (ma 48), .int 0, .int 0, .int 0, .int 0, .int 0, .int 0, .int 0, .long 0, .int 0, .long 0, .long 0, .long 0, .long 0, .int 0, .int 0, .int 0, .int 0, .long 0])), (ma 39, .inl (G.2 0, 6, .inl (fun _ => 0)))]) (wr := []) (As := [.int 1]) (rest := []) C0 (c_X9_no l G m0 ma 1 (by unfold vp_in; decide +kernel)) ok_X9_no (mW177 : Cond.methodLink RX9 168 yX9_no ∈ wsT) ⟨Nat.le_of_ble_eq_true rfl, Nat.le_of_ble_eq_true rfl⟩ hP hD hS hA hK hN [0, 1] [] rfl rfl (by decide) (by decide) (by decide) rfl rfl rfl rfl hl.1 rfl (Nat.le_of_ble_eq_true rfl) ⟨Nat.le_of_ble_eq_true rfl, Nat.le_of_ble_eq_true rfl⟩ dX9_tell_70 (fun r_3 u_4 H locs hr_3 hP hD hS => ?_)
    have hP : va_P G.1 xcl [] H := hP
    have hD : va_D A [] := hD
    obtain rfl : r_3 = (-1) := hr_3
    have hP9 := hP.sub (ws' := []) [] rfl
    have hD9 := hD.sub (ws' := []) [] (by decide) rfl
    exact W.iret (v := (-1)) hx hb hr (fun t ht hW => ⟨⟨(-1), (), rfl, rfl, by rw [ht]; exact hP9, hD9⟩, hS.F ht⟩) hS.2.2 dX9_tell_73
  · refine lv_iload_n hx hb dX9_tell_10 rfl (lv_at hl 1 rfl) ?_
    refine lv_ldc (v := 129600) hx hb hown (htl (.constant RX9 174 (129600)) mW221) dX9_tell_11 ?_
    refine lv_icmp_gt (tgt := 33) hx hb dX9_tell_13 (by decide) (fun c_5 => ?_) (fun c_5 => ?_)
    · refine lv_iconst (v := 1) hx hb dX9_tell_33 (by decide) ?_
      refine lv_goto (tgt := 63) hx hb dX9_tell_34 (by decide) ?_
      refine lv_istore_n (lv' := [(3, .int 1), (0, .ref m0), (1, .int p0), (2, .int p1)]) hx hb dX9_tell_63 rfl hl (by decide) rfl (fun ls hl => ?_)
      refine lv_iload_n hx hb dX9_tell_64 rfl (lv_at hl 0 rfl) ?_
      refine lv_if_eq (tgt := 74) hx hb dX9_tell_65 (by decide) (fun c_6 => absurd c_6 (by decide +kernel)) (fun c_6 => ?_)
      refine lv_aload_n hx hb dX9_tell_68 rfl (lv_at hl 1 rfl) ?_
      refine lv_iload_n hx hb dX9_tell_69 rfl (lv_at hl 0 rfl) ?_
      refine xVwi (rq := 0) (ci := 9) (wc := [(m0, .inr (9, [.int 0, .int 0, .int 0, .int (-1), .ref (ma 4), .ref (ma 5), .ref (ma 6), .ref (ma 7), .ref (ma 8), .ref (ma 9), .ref (ma 10), .ref (ma 11), .ref (ma 12), .ref (ma 13), .ref (ma 14), .ref (ma 15), .ref (ma 16), .ref (ma 17), .ref (ma 18), .ref (ma 19), .int 0, .ref (ma 21), .ref (ma 22), .ref (ma 23), .ref (ma 24), .ref (ma 25), .ref (ma 26), .ref (ma 27), .ref (ma 28), .ref (ma 29), .ref (ma 30), .ref (ma 31), .ref (ma 32), .ref (ma 33), .ref (ma 34), .ref (ma 35), .ref (ma 36), .ref (ma 37), .int 0, .ref (ma 39), .ref (ma 40), .ref (ma 41), .ref (ma 42), .ref (ma 43), .ref (ma 44), .ref (ma 45), .ref (ma 46), .ref (ma 47), .ref (ma 48), .int 0, .int 0, .int 0, .int 0, .int 0, .int 0, .int 0, .long 0, .int 0, .long 0, .long 0, .long 0, .long 0, .int 0, .int 0, .int 0, .int 0, .long 0])), (ma 39, .inl (G.2 0, 6, .inl (fun _ => 0)))]) (wr := []) (As := [.int 1]) (rest := []) C0 (c_X9_no l G m0 ma 1 (by unfold vp_in; decide +kernel)) ok_X9_no (mW177 : Cond.methodLink RX9 168 yX9_no ∈ wsT) ⟨Nat.le_of_ble_eq_true rfl, Nat.le_of_ble_eq_true rfl⟩ hP hD hS hA hK hN [0, 1] [] rfl rfl (by decide) (by decide) (by decide) rfl rfl rfl rfl hl.1 rfl (Nat.le_of_ble_eq_true rfl) ⟨Nat.le_of_ble_eq_true rfl, Nat.le_of_ble_eq_true rfl⟩ dX9_tell_70 (fun r_7 u_8 H locs hr_7 hP hD hS => ?_)
      have hP : va_P G.1 xcl [] H := hP
      have hD : va_D A [] := hD
      obtain rfl : r_7 = (-1) := hr_7
      have hP9 := hP.sub (ws' := []) [] rfl
      have hD9 := hD.sub (ws' := []) [] (by decide) rfl
      exact W.iret (v := (-1)) hx hb hr (fun t ht hW => ⟨⟨(-1), (), rfl, rfl, by rw [ht]; exact hP9, hD9⟩, hS.F ht⟩) hS.2.2 dX9_tell_73
    · refine lv_iload_n hx hb dX9_tell_16 rfl (lv_at hl 2 rfl) ?_
      refine lv_bipush (v := (-3)) hx hb dX9_tell_17 (by decide) ?_
      refine lv_icmp_lt (tgt := 33) hx hb dX9_tell_19 (by decide) (fun c_9 => ?_) (fun c_9 => ?_)
      · refine lv_iconst (v := 1) hx hb dX9_tell_33 (by decide) ?_
        refine lv_goto (tgt := 63) hx hb dX9_tell_34 (by decide) ?_
        refine lv_istore_n (lv' := [(3, .int 1), (0, .ref m0), (1, .int p0), (2, .int p1)]) hx hb dX9_tell_63 rfl hl (by decide) rfl (fun ls hl => ?_)
        refine lv_iload_n hx hb dX9_tell_64 rfl (lv_at hl 0 rfl) ?_
        refine lv_if_eq (tgt := 74) hx hb dX9_tell_65 (by decide) (fun c_10 => absurd c_10 (by decide +kernel)) (fun c_10 => ?_)
        refine lv_aload_n hx hb dX9_tell_68 rfl (lv_at hl 1 rfl) ?_
        refine lv_iload_n hx hb dX9_tell_69 rfl (lv_at hl 0 rfl) ?_
        refine xVwi (rq := 0) (ci := 9) (wc := [(m0, .inr (9, [.int 0, .int 0, .int 0, .int (-1), .ref (ma 4), .ref (ma 5), .ref (ma 6), .ref (ma 7), .ref (ma 8), .ref (ma 9), .ref (ma 10), .ref (ma 11), .ref (ma 12), .ref (ma 13), .ref (ma 14), .ref (ma 15), .ref (ma 16), .ref (ma 17), .ref (ma 18), .ref (ma 19), .int 0, .ref (ma 21), .ref (ma 22), .ref (ma 23), .ref (ma 24), .ref (ma 25), .ref (ma 26), .ref (ma 27), .ref (ma 28), .ref (ma 29), .ref (ma 30), .ref (ma 31), .ref (ma 32), .ref (ma 33), .ref (ma 34), .ref (ma 35), .ref (ma 36), .ref (ma 37), .int 0, .ref (ma 39), .ref (ma 40), .ref (ma 41), .ref (ma 42), .ref (ma 43), .ref (ma 44), .ref (ma 45), .ref (ma 46), .ref (ma 47), .ref (ma 48), .int 0, .int 0, .int 0, .int 0, .int 0, .int 0, .int 0, .long 0, .int 0, .long 0, .long 0, .long 0, .long 0, .int 0, .int 0, .int 0, .int 0, .long 0])), (ma 39, .inl (G.2 0, 6, .inl (fun _ => 0)))]) (wr := []) (As := [.int 1]) (rest := []) C0 (c_X9_no l G m0 ma 1 (by unfold vp_in; decide +kernel)) ok_X9_no (mW177 : Cond.methodLink RX9 168 yX9_no ∈ wsT) ⟨Nat.le_of_ble_eq_true rfl, Nat.le_of_ble_eq_true rfl⟩ hP hD hS hA hK hN [0, 1] [] rfl rfl (by decide) (by decide) (by decide) rfl rfl rfl rfl hl.1 rfl (Nat.le_of_ble_eq_true rfl) ⟨Nat.le_of_ble_eq_true rfl, Nat.le_of_ble_eq_true rfl⟩ dX9_tell_70 (fun r_11 u_12 H locs hr_11 hP hD hS => ?_)
        have hP : va_P G.1 xcl [] H := hP
        have hD : va_D A [] := hD
        obtain rfl : r_11 = (-1) := hr_11
        have hP9 := hP.sub (ws' := []) [] rfl
        have hD9 := hD.sub (ws' := []) [] (by decide) rfl
        exact W.iret (v := (-1)) hx hb hr (fun t ht hW => ⟨⟨(-1), (), rfl, rfl, by rw [ht]; exact hP9, hD9⟩, hS.F ht⟩) hS.2.2 dX9_tell_73
      · refine lv_iload_n hx hb dX9_tell_22 rfl (lv_at hl 2 rfl) ?_
        refine lv_iconst (v := (-1)) hx hb dX9_tell_23 (by decide) ?_
        refine lv_icmp_eq (tgt := 33) hx hb dX9_tell_24 (by decide) (fun c_13 => ?_) (fun c_13 => ?_)
        · refine lv_iconst (v := 1) hx hb dX9_tell_33 (by decide) ?_
          refine lv_goto (tgt := 63) hx hb dX9_tell_34 (by decide) ?_
          refine lv_istore_n (lv' := [(3, .int 1), (0, .ref m0), (1, .int p0), (2, .int p1)]) hx hb dX9_tell_63 rfl hl (by decide) rfl (fun ls hl => ?_)
          refine lv_iload_n hx hb dX9_tell_64 rfl (lv_at hl 0 rfl) ?_
          refine lv_if_eq (tgt := 74) hx hb dX9_tell_65 (by decide) (fun c_14 => absurd c_14 (by decide +kernel)) (fun c_14 => ?_)
          refine lv_aload_n hx hb dX9_tell_68 rfl (lv_at hl 1 rfl) ?_
          refine lv_iload_n hx hb dX9_tell_69 rfl (lv_at hl 0 rfl) ?_
          refine xVwi (rq := 0) (ci := 9) (wc := [(m0, .inr (9, [.int 0, .int 0, .int 0, .int (-1), .ref (ma 4), .ref (ma 5), .ref (ma 6), .ref (ma 7), .ref (ma 8), .ref (ma 9), .ref (ma 10), .ref (ma 11), .ref (ma 12), .ref (ma 13), .ref (ma 14), .ref (ma 15), .ref (ma 16), .ref (ma 17), .ref (ma 18), .ref (ma 19), .int 0, .ref (ma 21), .ref (ma 22), .ref (ma 23), .ref (ma 24), .ref (ma 25), .ref (ma 26), .ref (ma 27), .ref (ma 28), .ref (ma 29), .ref (ma 30), .ref (ma 31), .ref (ma 32), .ref (ma 33), .ref (ma 34), .ref (ma 35), .ref (ma 36), .ref (ma 37), .int 0, .ref (ma 39), .ref (ma 40), .ref (ma 41), .ref (ma 42), .ref (ma 43), .ref (ma 44), .ref (ma 45), .ref (ma 46), .ref (ma 47), .ref (ma 48), .int 0, .int 0, .int 0, .int 0, .int 0, .int 0, .int 0, .long 0, .int 0, .long 0, .long 0, .long 0, .long 0, .int 0, .int 0, .int 0, .int 0, .long 0])), (ma 39, .inl (G.2 0, 6, .inl (fun _ => 0)))]) (wr := []) (As := [.int 1]) (rest := []) C0 (c_X9_no l G m0 ma 1 (by unfold vp_in; decide +kernel)) ok_X9_no (mW177 : Cond.methodLink RX9 168 yX9_no ∈ wsT) ⟨Nat.le_of_ble_eq_true rfl, Nat.le_of_ble_eq_true rfl⟩ hP hD hS hA hK hN [0, 1] [] rfl rfl (by decide) (by decide) (by decide) rfl rfl rfl rfl hl.1 rfl (Nat.le_of_ble_eq_true rfl) ⟨Nat.le_of_ble_eq_true rfl, Nat.le_of_ble_eq_true rfl⟩ dX9_tell_70 (fun r_15 u_16 H locs hr_15 hP hD hS => ?_)
          have hP : va_P G.1 xcl [] H := hP
          have hD : va_D A [] := hD
          obtain rfl : r_15 = (-1) := hr_15
          have hP9 := hP.sub (ws' := []) [] rfl
          have hD9 := hD.sub (ws' := []) [] (by decide) rfl
          exact W.iret (v := (-1)) hx hb hr (fun t ht hW => ⟨⟨(-1), (), rfl, rfl, by rw [ht]; exact hP9, hD9⟩, hS.F ht⟩) hS.2.2 dX9_tell_73
        · refine lv_iload_n hx hb dX9_tell_27 rfl (lv_at hl 2 rfl) ?_
          refine lv_bipush (v := 60) hx hb dX9_tell_28 (by decide) ?_
          refine lv_icmp_lt (tgt := 37) hx hb dX9_tell_30 (by decide) (fun c_17 => ?_) (fun c_17 => ?_)
          · refine lv_aload_n hx hb dX9_tell_37 rfl (lv_at hl 0 rfl) ?_
            refine va_get (D := G.1) (ci := 9) (v := .int (-1)) (C := RX9) (T := TX9) (N := 67) hx hb htl inlX9 hown hK hP 0 rfl rfl 3 (by decide) (htl (.fieldLink RX9 7 "LaytimeDeskModel" "claimed" "I") mW106) (fun _ h9 => h9) rfl dX9_tell_38 ?_
            refine lv_if_ge (tgt := 48) hx hb dX9_tell_41 (by decide) (fun c_18 => absurd c_18 (by decide +kernel)) (fun c_18 => ?_)
            refine lv_iconst (v := 2) hx hb dX9_tell_44 (by decide) ?_
            refine lv_goto (tgt := 63) hx hb dX9_tell_45 (by decide) ?_
            refine lv_istore_n (lv' := [(3, .int 2), (0, .ref m0), (1, .int p0), (2, .int p1)]) hx hb dX9_tell_63 rfl hl (by decide) rfl (fun ls hl => ?_)
            refine lv_iload_n hx hb dX9_tell_64 rfl (lv_at hl 0 rfl) ?_
            refine lv_if_eq (tgt := 74) hx hb dX9_tell_65 (by decide) (fun c_19 => absurd c_19 (by decide +kernel)) (fun c_19 => ?_)
            refine lv_aload_n hx hb dX9_tell_68 rfl (lv_at hl 1 rfl) ?_
            refine lv_iload_n hx hb dX9_tell_69 rfl (lv_at hl 0 rfl) ?_
            refine xVwi (rq := 0) (ci := 9) (wc := [(m0, .inr (9, [.int 0, .int 0, .int 0, .int (-1), .ref (ma 4), .ref (ma 5), .ref (ma 6), .ref (ma 7), .ref (ma 8), .ref (ma 9), .ref (ma 10), .ref (ma 11), .ref (ma 12), .ref (ma 13), .ref (ma 14), .ref (ma 15), .ref (ma 16), .ref (ma 17), .ref (ma 18), .ref (ma 19), .int 0, .ref (ma 21), .ref (ma 22), .ref (ma 23), .ref (ma 24), .ref (ma 25), .ref (ma 26), .ref (ma 27), .ref (ma 28), .ref (ma 29), .ref (ma 30), .ref (ma 31), .ref (ma 32), .ref (ma 33), .ref (ma 34), .ref (ma 35), .ref (ma 36), .ref (ma 37), .int 0, .ref (ma 39), .ref (ma 40), .ref (ma 41), .ref (ma 42), .ref (ma 43), .ref (ma 44), .ref (ma 45), .ref (ma 46), .ref (ma 47), .ref (ma 48), .int 0, .int 0, .int 0, .int 0, .int 0, .int 0, .int 0, .long 0, .int 0, .long 0, .long 0, .long 0, .long 0, .int 0, .int 0, .int 0, .int 0, .long 0])), (ma 39, .inl (G.2 0, 6, .inl (fun _ => 0)))]) (wr := []) (As := [.int 2]) (rest := []) C0 (c_X9_no l G m0 ma 2 (by unfold vp_in; decide +kernel)) ok_X9_no (mW177 : Cond.methodLink RX9 168 yX9_no ∈ wsT) ⟨Nat.le_of_ble_eq_true rfl, Nat.le_of_ble_eq_true rfl⟩ hP hD hS hA hK hN [0, 1] [] rfl rfl (by decide) (by decide) (by decide) rfl rfl rfl rfl hl.1 rfl (Nat.le_of_ble_eq_true rfl) ⟨Nat.le_of_ble_eq_true rfl, Nat.le_of_ble_eq_true rfl⟩ dX9_tell_70 (fun r_20 u_21 H locs hr_20 hP hD hS => ?_)
            have hP : va_P G.1 xcl [] H := hP
            have hD : va_D A [] := hD
            obtain rfl : r_20 = (-1) := hr_20
            have hP9 := hP.sub (ws' := []) [] rfl
            have hD9 := hD.sub (ws' := []) [] (by decide) rfl
            exact W.iret (v := (-1)) hx hb hr (fun t ht hW => ⟨⟨(-1), (), rfl, rfl, by rw [ht]; exact hP9, hD9⟩, hS.F ht⟩) hS.2.2 dX9_tell_73
          · refine lv_iconst (v := 1) hx hb dX9_tell_33 (by decide) ?_
            refine lv_goto (tgt := 63) hx hb dX9_tell_34 (by decide) ?_
            refine lv_istore_n (lv' := [(3, .int 1), (0, .ref m0), (1, .int p0), (2, .int p1)]) hx hb dX9_tell_63 rfl hl (by decide) rfl (fun ls hl => ?_)
            refine lv_iload_n hx hb dX9_tell_64 rfl (lv_at hl 0 rfl) ?_
            refine lv_if_eq (tgt := 74) hx hb dX9_tell_65 (by decide) (fun c_22 => absurd c_22 (by decide +kernel)) (fun c_22 => ?_)
            refine lv_aload_n hx hb dX9_tell_68 rfl (lv_at hl 1 rfl) ?_
            refine lv_iload_n hx hb dX9_tell_69 rfl (lv_at hl 0 rfl) ?_
            refine xVwi (rq := 0) (ci := 9) (wc := [(m0, .inr (9, [.int 0, .int 0, .int 0, .int (-1), .ref (ma 4), .ref (ma 5), .ref (ma 6), .ref (ma 7), .ref (ma 8), .ref (ma 9), .ref (ma 10), .ref (ma 11), .ref (ma 12), .ref (ma 13), .ref (ma 14), .ref (ma 15), .ref (ma 16), .ref (ma 17), .ref (ma 18), .ref (ma 19), .int 0, .ref (ma 21), .ref (ma 22), .ref (ma 23), .ref (ma 24), .ref (ma 25), .ref (ma 26), .ref (ma 27), .ref (ma 28), .ref (ma 29), .ref (ma 30), .ref (ma 31), .ref (ma 32), .ref (ma 33), .ref (ma 34), .ref (ma 35), .ref (ma 36), .ref (ma 37), .int 0, .ref (ma 39), .ref (ma 40), .ref (ma 41), .ref (ma 42), .ref (ma 43), .ref (ma 44), .ref (ma 45), .ref (ma 46), .ref (ma 47), .ref (ma 48), .int 0, .int 0, .int 0, .int 0, .int 0, .int 0, .int 0, .long 0, .int 0, .long 0, .long 0, .long 0, .long 0, .int 0, .int 0, .int 0, .int 0, .long 0])), (ma 39, .inl (G.2 0, 6, .inl (fun _ => 0)))]) (wr := []) (As := [.int 1]) (rest := []) C0 (c_X9_no l G m0 ma 1 (by unfold vp_in; decide +kernel)) ok_X9_no (mW177 : Cond.methodLink RX9 168 yX9_no ∈ wsT) ⟨Nat.le_of_ble_eq_true rfl, Nat.le_of_ble_eq_true rfl⟩ hP hD hS hA hK hN [0, 1] [] rfl rfl (by decide) (by decide) (by decide) rfl rfl rfl rfl hl.1 rfl (Nat.le_of_ble_eq_true rfl) ⟨Nat.le_of_ble_eq_true rfl, Nat.le_of_ble_eq_true rfl⟩ dX9_tell_70 (fun r_23 u_24 H locs hr_23 hP hD hS => ?_)
            have hP : va_P G.1 xcl [] H := hP
            have hD : va_D A [] := hD
            obtain rfl : r_23 = (-1) := hr_23
            have hP9 := hP.sub (ws' := []) [] rfl
            have hD9 := hD.sub (ws' := []) [] (by decide) rfl
            exact W.iret (v := (-1)) hx hb hr (fun t ht hW => ⟨⟨(-1), (), rfl, rfl, by rw [ht]; exact hP9, hD9⟩, hS.F ht⟩) hS.2.2 dX9_tell_73
theorem dX9_check_0 : decode cX9_check 0 = .ok (.aload_n 0, 1) := by decide +kernel
theorem dX9_check_1 : decode cX9_check 1 = .ok (.iconst 0, 1) := by decide +kernel
theorem dX9_check_2 : decode cX9_check 2 = .ok (.putfield 147, 3) := by decide +kernel
theorem dX9_check_5 : decode cX9_check 5 = .ok (.aload_n 0, 1) := by decide +kernel
theorem dX9_check_6 : decode cX9_check 6 = .ok (.getfield 7, 3) := by decide +kernel
theorem dX9_check_9 : decode cX9_check 9 = .ok (.ifCond .lt 14, 3) := by decide +kernel
theorem dX9_check_23 : decode cX9_check 23 = .ok (.aload_n 0, 1) := by decide +kernel
theorem dX9_check_24 : decode cX9_check 24 = .ok (.iconst 2, 1) := by decide +kernel
theorem dX9_check_25 : decode cX9_check 25 = .ok (.invokevirtual 168, 3) := by decide +kernel
theorem dX9_check_28 : decode cX9_check 28 = .ok (.pop, 1) := by decide +kernel
theorem dX9_check_29 : decode cX9_check 29 = .ok (.bipush (-4), 2) := by decide +kernel
theorem dX9_check_31 : decode cX9_check 31 = .ok (.ireturn, 1) := by decide +kernel
set_option maxHeartbeats 4000000 in
set_option maxRecDepth 100000 in
theorem c_X9_check (l : Launch) (G : xG) (m0 : Nat) (ma : Nat → Nat) (p0 : Int32) (p1 : Int32)  : xWi l G yX9_check cX9_check 3 (some .int) 1 21 0 0 [.ref m0, .int p0, .int p1] [(m0, .inr (9, [.int 0, .int 0, .int 0, .int (-1), .ref (ma 4), .ref (ma 5), .ref (ma 6), .ref (ma 7), .ref (ma 8), .ref (ma 9), .ref (ma 10), .ref (ma 11), .ref (ma 12), .ref (ma 13), .ref (ma 14), .ref (ma 15), .ref (ma 16), .ref (ma 17), .ref (ma 18), .ref (ma 19), .int 0, .ref (ma 21), .ref (ma 22), .ref (ma 23), .ref (ma 24), .ref (ma 25), .ref (ma 26), .ref (ma 27), .ref (ma 28), .ref (ma 29), .ref (ma 30), .ref (ma 31), .ref (ma 32), .ref (ma 33), .ref (ma 34), .ref (ma 35), .ref (ma 36), .ref (ma 37), .int 0, .ref (ma 39), .ref (ma 40), .ref (ma 41), .ref (ma 42), .ref (ma 43), .ref (ma 44), .ref (ma 45), .ref (ma 46), .ref (ma 47), .ref (ma 48), .int 0, .int 0, .int 0, .int 0, .int 0, .int 0, .int 0, .long 0, .int 0, .long 0, .long 0, .long 0, .long 0, .int 0, .int 0, .int 0, .int 0, .long 0])), (ma 39, .inl (G.2 0, 6, .inl (fun _ => 0)))] (S := Unit) (fun r _ => r = (-4)) (fun _ => []) := by
  intro sz
  refine xstart (by decide) (Nat.le_of_ble_eq_true rfl) (fun p e s m args below meth c ls C0 hr hlocks hin hsz hP hK hD hN hl => ?_)
  obtain ⟨hx, hb, hml, hown, htl⟩ := id C0
  subst hsz
  have hD := hD.self (sz := s.heap.size)
  generalize hAe : va_A [(m0, .inr (9, [.int 0, .int 0, .int 0, .int (-1), .ref (ma 4), .ref (ma 5), .ref (ma 6), .ref (ma 7), .ref (ma 8), .ref (ma 9), .ref (ma 10), .ref (ma 11), .ref (ma 12), .ref (ma 13), .ref (ma 14), .ref (ma 15), .ref (ma 16), .ref (ma 17), .ref (ma 18), .ref (ma 19), .int 0, .ref (ma 21), .ref (ma 22), .ref (ma 23), .ref (ma 24), .ref (ma 25), .ref (ma 26), .ref (ma 27), .ref (ma 28), .ref (ma 29), .ref (ma 30), .ref (ma 31), .ref (ma 32), .ref (ma 33), .ref (ma 34), .ref (ma 35), .ref (ma 36), .ref (ma 37), .int 0, .ref (ma 39), .ref (ma 40), .ref (ma 41), .ref (ma 42), .ref (ma 43), .ref (ma 44), .ref (ma 45), .ref (ma 46), .ref (ma 47), .ref (ma 48), .int 0, .int 0, .int 0, .int 0, .int 0, .int 0, .int 0, .long 0, .int 0, .long 0, .long 0, .long 0, .long 0, .int 0, .int 0, .int 0, .int 0, .long 0])), (ma 39, .inl (G.2 0, 6, .inl (fun _ => 0)))] s.heap.size = A at hD ⊢
  have hA : ∀ q : Nat, s.heap.size ≤ q → A q := fun q h => by rw [← hAe]; exact Or.inr h
  have hS : va_S A s.heap s.heap [] := va_S.rf
  have hl : lv_has ls 3 [(0, .ref m0), (1, .int p0), (2, .int p1)] := hl
  refine lv_aload_n hx hb dX9_check_0 rfl (lv_at hl 0 rfl) ?_
  refine lv_iconst (v := 0) hx hb dX9_check_1 (by decide) ?_
  refine va_put (D := G.1) (ci := 9) (v := .int 0) (ty := .int) (C := RX9) (T := TX9) (N := 67) hx hb htl inlX9 tyX9 tyX9_ok nmX9 hown hK hP hD hS 0 rfl rfl 38 (by decide) (htl (.fieldLink RX9 147 "LaytimeDeskModel" "reason" "I") mW175) (fun _ h9 => h9) rfl (by decide +kernel) rfl rfl (Nat.le_of_ble_eq_true rfl) dX9_check_2 (fun H locs hP hD hS => ?_)
  have hP : va_P G.1 xcl [(m0, .inr (9, [.int 0, .int 0, .int 0, .int (-1), .ref (ma 4), .ref (ma 5), .ref (ma 6), .ref (ma 7), .ref (ma 8), .ref (ma 9), .ref (ma 10), .ref (ma 11), .ref (ma 12), .ref (ma 13), .ref (ma 14), .ref (ma 15), .ref (ma 16), .ref (ma 17), .ref (ma 18), .ref (ma 19), .int 0, .ref (ma 21), .ref (ma 22), .ref (ma 23), .ref (ma 24), .ref (ma 25), .ref (ma 26), .ref (ma 27), .ref (ma 28), .ref (ma 29), .ref (ma 30), .ref (ma 31), .ref (ma 32), .ref (ma 33), .ref (ma 34), .ref (ma 35), .ref (ma 36), .ref (ma 37), .int 0, .ref (ma 39), .ref (ma 40), .ref (ma 41), .ref (ma 42), .ref (ma 43), .ref (ma 44), .ref (ma 45), .ref (ma 46), .ref (ma 47), .ref (ma 48), .int 0, .int 0, .int 0, .int 0, .int 0, .int 0, .int 0, .long 0, .int 0, .long 0, .long 0, .long 0, .long 0, .int 0, .int 0, .int 0, .int 0, .long 0])), (ma 39, .inl (G.2 0, 6, .inl (fun _ => 0)))] H := hP
  have hD : va_D A [(m0, .inr (9, [.int 0, .int 0, .int 0, .int (-1), .ref (ma 4), .ref (ma 5), .ref (ma 6), .ref (ma 7), .ref (ma 8), .ref (ma 9), .ref (ma 10), .ref (ma 11), .ref (ma 12), .ref (ma 13), .ref (ma 14), .ref (ma 15), .ref (ma 16), .ref (ma 17), .ref (ma 18), .ref (ma 19), .int 0, .ref (ma 21), .ref (ma 22), .ref (ma 23), .ref (ma 24), .ref (ma 25), .ref (ma 26), .ref (ma 27), .ref (ma 28), .ref (ma 29), .ref (ma 30), .ref (ma 31), .ref (ma 32), .ref (ma 33), .ref (ma 34), .ref (ma 35), .ref (ma 36), .ref (ma 37), .int 0, .ref (ma 39), .ref (ma 40), .ref (ma 41), .ref (ma 42), .ref (ma 43), .ref (ma 44), .ref (ma 45), .ref (ma 46), .ref (ma 47), .ref (ma 48), .int 0, .int 0, .int 0, .int 0, .int 0, .int 0, .int 0, .long 0, .int 0, .long 0, .long 0, .long 0, .long 0, .int 0, .int 0, .int 0, .int 0, .long 0])), (ma 39, .inl (G.2 0, 6, .inl (fun _ => 0)))] := hD
  refine lv_aload_n hx hb dX9_check_5 rfl (lv_at hl 0 rfl) ?_
  refine va_get (D := G.1) (ci := 9) (v := .int (-1)) (C := RX9) (T := TX9) (N := 67) hx hb htl inlX9 hown hK hP 0 rfl rfl 3 (by decide) (htl (.fieldLink RX9 7 "LaytimeDeskModel" "claimed" "I") mW106) (fun _ h9 => h9) rfl dX9_check_6 ?_
  refine lv_if_lt (tgt := 23) hx hb dX9_check_9 (by decide) (fun c_1 => ?_) (fun c_1 => absurd c_1 (by decide +kernel))
  refine lv_aload_n hx hb dX9_check_23 rfl (lv_at hl 0 rfl) ?_
  refine lv_iconst (v := 2) hx hb dX9_check_24 (by decide) ?_
  refine xVwi (rq := 0) (ci := 9) (wc := [(m0, .inr (9, [.int 0, .int 0, .int 0, .int (-1), .ref (ma 4), .ref (ma 5), .ref (ma 6), .ref (ma 7), .ref (ma 8), .ref (ma 9), .ref (ma 10), .ref (ma 11), .ref (ma 12), .ref (ma 13), .ref (ma 14), .ref (ma 15), .ref (ma 16), .ref (ma 17), .ref (ma 18), .ref (ma 19), .int 0, .ref (ma 21), .ref (ma 22), .ref (ma 23), .ref (ma 24), .ref (ma 25), .ref (ma 26), .ref (ma 27), .ref (ma 28), .ref (ma 29), .ref (ma 30), .ref (ma 31), .ref (ma 32), .ref (ma 33), .ref (ma 34), .ref (ma 35), .ref (ma 36), .ref (ma 37), .int 0, .ref (ma 39), .ref (ma 40), .ref (ma 41), .ref (ma 42), .ref (ma 43), .ref (ma 44), .ref (ma 45), .ref (ma 46), .ref (ma 47), .ref (ma 48), .int 0, .int 0, .int 0, .int 0, .int 0, .int 0, .int 0, .long 0, .int 0, .long 0, .long 0, .long 0, .long 0, .int 0, .int 0, .int 0, .int 0, .long 0])), (ma 39, .inl (G.2 0, 6, .inl (fun _ => 0)))]) (wr := []) (As := [.int 2]) (rest := []) C0 (c_X9_no l G m0 ma 2 (by unfold vp_in; decide +kernel)) ok_X9_no (mW177 : Cond.methodLink RX9 168 yX9_no ∈ wsT) ⟨Nat.le_of_ble_eq_true rfl, Nat.le_of_ble_eq_true rfl⟩ hP hD hS hA hK hN [0, 1] [] rfl rfl (by decide) (by decide) (by decide) rfl rfl rfl rfl hl.1 rfl (Nat.le_of_ble_eq_true rfl) ⟨Nat.le_of_ble_eq_true rfl, Nat.le_of_ble_eq_true rfl⟩ dX9_check_25 (fun r_2 u_3 H locs hr_2 hP hD hS => ?_)
  have hP : va_P G.1 xcl [] H := hP
  have hD : va_D A [] := hD
  obtain rfl : r_2 = (-1) := hr_2
  refine lv_pop hx hb dX9_check_28 rfl ?_
  refine lv_bipush (v := (-4)) hx hb dX9_check_29 (by decide) ?_
  have hP9 := hP.sub (ws' := []) [] rfl
  have hD9 := hD.sub (ws' := []) [] (by decide) rfl
  exact W.iret (v := (-4)) hx hb hr (fun t ht hW => ⟨⟨(-4), (), rfl, rfl, by rw [ht]; exact hP9, hD9⟩, hS.F ht⟩) hS.2.2 dX9_check_31
theorem dX9_back_0 : decode cX9_back 0 = .ok (.aload_n 0, 1) := by decide +kernel
theorem dX9_back_1 : decode cX9_back 1 = .ok (.iconst 0, 1) := by decide +kernel
theorem dX9_back_2 : decode cX9_back 2 = .ok (.putfield 147, 3) := by decide +kernel
theorem dX9_back_5 : decode cX9_back 5 = .ok (.aload_n 0, 1) := by decide +kernel
theorem dX9_back_6 : decode cX9_back 6 = .ok (.getfield 367, 3) := by decide +kernel
theorem dX9_back_9 : decode cX9_back 9 = .ok (.ifCond .ne 11, 3) := by decide +kernel
theorem dX9_back_12 : decode cX9_back 12 = .ok (.aload_n 0, 1) := by decide +kernel
theorem dX9_back_13 : decode cX9_back 13 = .ok (.iconst 2, 1) := by decide +kernel
theorem dX9_back_14 : decode cX9_back 14 = .ok (.invokevirtual 168, 3) := by decide +kernel
theorem dX9_back_17 : decode cX9_back 17 = .ok (.pop, 1) := by decide +kernel
theorem dX9_back_18 : decode cX9_back 18 = .ok (.iconst 0, 1) := by decide +kernel
theorem dX9_back_19 : decode cX9_back 19 = .ok (.ireturn, 1) := by decide +kernel
set_option maxHeartbeats 4000000 in
set_option maxRecDepth 100000 in
theorem c_X9_back (l : Launch) (G : xG) (m0 : Nat) (ma : Nat → Nat)  : xWi l G yX9_back cX9_back 2 (some .boolean) 1 21 0 0 [.ref m0] [(m0, .inr (9, [.int 0, .int 0, .int 0, .int (-1), .ref (ma 4), .ref (ma 5), .ref (ma 6), .ref (ma 7), .ref (ma 8), .ref (ma 9), .ref (ma 10), .ref (ma 11), .ref (ma 12), .ref (ma 13), .ref (ma 14), .ref (ma 15), .ref (ma 16), .ref (ma 17), .ref (ma 18), .ref (ma 19), .int 0, .ref (ma 21), .ref (ma 22), .ref (ma 23), .ref (ma 24), .ref (ma 25), .ref (ma 26), .ref (ma 27), .ref (ma 28), .ref (ma 29), .ref (ma 30), .ref (ma 31), .ref (ma 32), .ref (ma 33), .ref (ma 34), .ref (ma 35), .ref (ma 36), .ref (ma 37), .int 0, .ref (ma 39), .ref (ma 40), .ref (ma 41), .ref (ma 42), .ref (ma 43), .ref (ma 44), .ref (ma 45), .ref (ma 46), .ref (ma 47), .ref (ma 48), .int 0, .int 0, .int 0, .int 0, .int 0, .int 0, .int 0, .long 0, .int 0, .long 0, .long 0, .long 0, .long 0, .int 0, .int 0, .int 0, .int 0, .long 0])), (ma 39, .inl (G.2 0, 6, .inl (fun _ => 0)))] (S := Unit) (fun r _ => r = 0) (fun _ => []) := by
  intro sz
  refine xstart (by decide) (Nat.le_of_ble_eq_true rfl) (fun p e s m args below meth c ls C0 hr hlocks hin hsz hP hK hD hN hl => ?_)
  obtain ⟨hx, hb, hml, hown, htl⟩ := id C0
  subst hsz
  have hD := hD.self (sz := s.heap.size)
  generalize hAe : va_A [(m0, .inr (9, [.int 0, .int 0, .int 0, .int (-1), .ref (ma 4), .ref (ma 5), .ref (ma 6), .ref (ma 7), .ref (ma 8), .ref (ma 9), .ref (ma 10), .ref (ma 11), .ref (ma 12), .ref (ma 13), .ref (ma 14), .ref (ma 15), .ref (ma 16), .ref (ma 17), .ref (ma 18), .ref (ma 19), .int 0, .ref (ma 21), .ref (ma 22), .ref (ma 23), .ref (ma 24), .ref (ma 25), .ref (ma 26), .ref (ma 27), .ref (ma 28), .ref (ma 29), .ref (ma 30), .ref (ma 31), .ref (ma 32), .ref (ma 33), .ref (ma 34), .ref (ma 35), .ref (ma 36), .ref (ma 37), .int 0, .ref (ma 39), .ref (ma 40), .ref (ma 41), .ref (ma 42), .ref (ma 43), .ref (ma 44), .ref (ma 45), .ref (ma 46), .ref (ma 47), .ref (ma 48), .int 0, .int 0, .int 0, .int 0, .int 0, .int 0, .int 0, .long 0, .int 0, .long 0, .long 0, .long 0, .long 0, .int 0, .int 0, .int 0, .int 0, .long 0])), (ma 39, .inl (G.2 0, 6, .inl (fun _ => 0)))] s.heap.size = A at hD ⊢
  have hA : ∀ q : Nat, s.heap.size ≤ q → A q := fun q h => by rw [← hAe]; exact Or.inr h
  have hS : va_S A s.heap s.heap [] := va_S.rf
  have hl : lv_has ls 2 [(0, .ref m0)] := hl
  refine lv_aload_n hx hb dX9_back_0 rfl (lv_at hl 0 rfl) ?_
  refine lv_iconst (v := 0) hx hb dX9_back_1 (by decide) ?_
  refine va_put (D := G.1) (ci := 9) (v := .int 0) (ty := .int) (C := RX9) (T := TX9) (N := 67) hx hb htl inlX9 tyX9 tyX9_ok nmX9 hown hK hP hD hS 0 rfl rfl 38 (by decide) (htl (.fieldLink RX9 147 "LaytimeDeskModel" "reason" "I") mW175) (fun _ h9 => h9) rfl (by decide +kernel) rfl rfl (Nat.le_of_ble_eq_true rfl) dX9_back_2 (fun H locs hP hD hS => ?_)
  have hP : va_P G.1 xcl [(m0, .inr (9, [.int 0, .int 0, .int 0, .int (-1), .ref (ma 4), .ref (ma 5), .ref (ma 6), .ref (ma 7), .ref (ma 8), .ref (ma 9), .ref (ma 10), .ref (ma 11), .ref (ma 12), .ref (ma 13), .ref (ma 14), .ref (ma 15), .ref (ma 16), .ref (ma 17), .ref (ma 18), .ref (ma 19), .int 0, .ref (ma 21), .ref (ma 22), .ref (ma 23), .ref (ma 24), .ref (ma 25), .ref (ma 26), .ref (ma 27), .ref (ma 28), .ref (ma 29), .ref (ma 30), .ref (ma 31), .ref (ma 32), .ref (ma 33), .ref (ma 34), .ref (ma 35), .ref (ma 36), .ref (ma 37), .int 0, .ref (ma 39), .ref (ma 40), .ref (ma 41), .ref (ma 42), .ref (ma 43), .ref (ma 44), .ref (ma 45), .ref (ma 46), .ref (ma 47), .ref (ma 48), .int 0, .int 0, .int 0, .int 0, .int 0, .int 0, .int 0, .long 0, .int 0, .long 0, .long 0, .long 0, .long 0, .int 0, .int 0, .int 0, .int 0, .long 0])), (ma 39, .inl (G.2 0, 6, .inl (fun _ => 0)))] H := hP
  have hD : va_D A [(m0, .inr (9, [.int 0, .int 0, .int 0, .int (-1), .ref (ma 4), .ref (ma 5), .ref (ma 6), .ref (ma 7), .ref (ma 8), .ref (ma 9), .ref (ma 10), .ref (ma 11), .ref (ma 12), .ref (ma 13), .ref (ma 14), .ref (ma 15), .ref (ma 16), .ref (ma 17), .ref (ma 18), .ref (ma 19), .int 0, .ref (ma 21), .ref (ma 22), .ref (ma 23), .ref (ma 24), .ref (ma 25), .ref (ma 26), .ref (ma 27), .ref (ma 28), .ref (ma 29), .ref (ma 30), .ref (ma 31), .ref (ma 32), .ref (ma 33), .ref (ma 34), .ref (ma 35), .ref (ma 36), .ref (ma 37), .int 0, .ref (ma 39), .ref (ma 40), .ref (ma 41), .ref (ma 42), .ref (ma 43), .ref (ma 44), .ref (ma 45), .ref (ma 46), .ref (ma 47), .ref (ma 48), .int 0, .int 0, .int 0, .int 0, .int 0, .int 0, .int 0, .long 0, .int 0, .long 0, .long 0, .long 0, .long 0, .int 0, .int 0, .int 0, .int 0, .long 0])), (ma 39, .inl (G.2 0, 6, .inl (fun _ => 0)))] := hD
  refine lv_aload_n hx hb dX9_back_5 rfl (lv_at hl 0 rfl) ?_
  refine va_get (D := G.1) (ci := 9) (v := .int 0) (C := RX9) (T := TX9) (N := 67) hx hb htl inlX9 hown hK hP 0 rfl rfl 20 (by decide) (htl (.fieldLink RX9 367 "LaytimeDeskModel" "hasImage" "Z") mW1101) (fun _ h9 => h9) rfl dX9_back_6 ?_
  refine lv_if_ne (tgt := 20) hx hb dX9_back_9 (by decide) (fun c_1 => absurd c_1 (by decide +kernel)) (fun c_1 => ?_)
  refine lv_aload_n hx hb dX9_back_12 rfl (lv_at hl 0 rfl) ?_
  refine lv_iconst (v := 2) hx hb dX9_back_13 (by decide) ?_
  refine xVwi (rq := 0) (ci := 9) (wc := [(m0, .inr (9, [.int 0, .int 0, .int 0, .int (-1), .ref (ma 4), .ref (ma 5), .ref (ma 6), .ref (ma 7), .ref (ma 8), .ref (ma 9), .ref (ma 10), .ref (ma 11), .ref (ma 12), .ref (ma 13), .ref (ma 14), .ref (ma 15), .ref (ma 16), .ref (ma 17), .ref (ma 18), .ref (ma 19), .int 0, .ref (ma 21), .ref (ma 22), .ref (ma 23), .ref (ma 24), .ref (ma 25), .ref (ma 26), .ref (ma 27), .ref (ma 28), .ref (ma 29), .ref (ma 30), .ref (ma 31), .ref (ma 32), .ref (ma 33), .ref (ma 34), .ref (ma 35), .ref (ma 36), .ref (ma 37), .int 0, .ref (ma 39), .ref (ma 40), .ref (ma 41), .ref (ma 42), .ref (ma 43), .ref (ma 44), .ref (ma 45), .ref (ma 46), .ref (ma 47), .ref (ma 48), .int 0, .int 0, .int 0, .int 0, .int 0, .int 0, .int 0, .long 0, .int 0, .long 0, .long 0, .long 0, .long 0, .int 0, .int 0, .int 0, .int 0, .long 0])), (ma 39, .inl (G.2 0, 6, .inl (fun _ => 0)))]) (wr := []) (As := [.int 2]) (rest := []) C0 (c_X9_no l G m0 ma 2 (by unfold vp_in; decide +kernel)) ok_X9_no (mW177 : Cond.methodLink RX9 168 yX9_no ∈ wsT) ⟨Nat.le_of_ble_eq_true rfl, Nat.le_of_ble_eq_true rfl⟩ hP hD hS hA hK hN [0, 1] [] rfl rfl (by decide) (by decide) (by decide) rfl rfl rfl rfl hl.1 rfl (Nat.le_of_ble_eq_true rfl) ⟨Nat.le_of_ble_eq_true rfl, Nat.le_of_ble_eq_true rfl⟩ dX9_back_14 (fun r_2 u_3 H locs hr_2 hP hD hS => ?_)
  have hP : va_P G.1 xcl [] H := hP
  have hD : va_D A [] := hD
  obtain rfl : r_2 = (-1) := hr_2
  refine lv_pop hx hb dX9_back_17 rfl ?_
  refine lv_iconst (v := 0) hx hb dX9_back_18 (by decide) ?_
  have hP9 := hP.sub (ws' := []) [] rfl
  have hD9 := hD.sub (ws' := []) [] (by decide) rfl
  exact W.zret (v := 0) (ty := .boolean) hx hb hr rfl (fun t ht hW => ⟨⟨0, (), rfl, rfl, by rw [ht]; exact hP9, hD9⟩, hS.F ht⟩) hS.2.2 dX9_back_19
theorem dX9_contract_0 : decode cX9_contract 0 = .ok (.aload_n 0, 1) := by decide +kernel
theorem dX9_contract_1 : decode cX9_contract 1 = .ok (.iconst 0, 1) := by decide +kernel
theorem dX9_contract_2 : decode cX9_contract 2 = .ok (.putfield 147, 3) := by decide +kernel
theorem dX9_contract_5 : decode cX9_contract 5 = .ok (.aload_n 0, 1) := by decide +kernel
theorem dX9_contract_6 : decode cX9_contract 6 = .ok (.getfield 150, 3) := by decide +kernel
theorem dX9_contract_9 : decode cX9_contract 9 = .ok (.bipush 40, 2) := by decide +kernel
theorem dX9_contract_11 : decode cX9_contract 11 = .ok (.if_icmp .ne 9, 3) := by decide +kernel
theorem dX9_contract_20 : decode cX9_contract 20 = .ok (.iconst 0, 1) := by decide +kernel
theorem dX9_contract_21 : decode cX9_contract 21 = .ok (.istore_n 1, 1) := by decide +kernel
theorem dX9_contract_22 : decode cX9_contract 22 = .ok (.iload_n 1, 1) := by decide +kernel
theorem dX9_contract_23 : decode cX9_contract 23 = .ok (.bipush 60, 2) := by decide +kernel
theorem dX9_contract_25 : decode cX9_contract 25 = .ok (.if_icmp .ge 24, 3) := by decide +kernel
theorem dX9_contract_28 : decode cX9_contract 28 = .ok (.aload_n 0, 1) := by decide +kernel
theorem dX9_contract_29 : decode cX9_contract 29 = .ok (.getfield 13, 3) := by decide +kernel
theorem dX9_contract_32 : decode cX9_contract 32 = .ok (.bipush 60, 2) := by decide +kernel
theorem dX9_contract_34 : decode cX9_contract 34 = .ok (.aload_n 0, 1) := by decide +kernel
theorem dX9_contract_35 : decode cX9_contract 35 = .ok (.getfield 150, 3) := by decide +kernel
theorem dX9_contract_38 : decode cX9_contract 38 = .ok (.imul, 1) := by decide +kernel
theorem dX9_contract_39 : decode cX9_contract 39 = .ok (.iload_n 1, 1) := by decide +kernel
theorem dX9_contract_40 : decode cX9_contract 40 = .ok (.iadd, 1) := by decide +kernel
theorem dX9_contract_41 : decode cX9_contract 41 = .ok (.iconst 0, 1) := by decide +kernel
theorem dX9_contract_42 : decode cX9_contract 42 = .ok (.bastore, 1) := by decide +kernel
theorem dX9_contract_43 : decode cX9_contract 43 = .ok (.iinc 1 1, 3) := by decide +kernel
theorem dX9_contract_46 : decode cX9_contract 46 = .ok (.goto (-24), 3) := by decide +kernel
theorem dX9_contract_49 : decode cX9_contract 49 = .ok (.aload_n 0, 1) := by decide +kernel
theorem dX9_contract_50 : decode cX9_contract 50 = .ok (.dup, 1) := by decide +kernel
theorem dX9_contract_51 : decode cX9_contract 51 = .ok (.getfield 150, 3) := by decide +kernel
theorem dX9_contract_54 : decode cX9_contract 54 = .ok (.iconst 1, 1) := by decide +kernel
theorem dX9_contract_55 : decode cX9_contract 55 = .ok (.iadd, 1) := by decide +kernel
theorem dX9_contract_56 : decode cX9_contract 56 = .ok (.putfield 150, 3) := by decide +kernel
theorem dX9_contract_59 : decode cX9_contract 59 = .ok (.aload_n 0, 1) := by decide +kernel
theorem dX9_contract_60 : decode cX9_contract 60 = .ok (.getfield 150, 3) := by decide +kernel
theorem dX9_contract_63 : decode cX9_contract 63 = .ok (.iconst 1, 1) := by decide +kernel
theorem dX9_contract_64 : decode cX9_contract 64 = .ok (.isub, 1) := by decide +kernel
theorem dX9_contract_65 : decode cX9_contract 65 = .ok (.ireturn, 1) := by decide +kernel
set_option maxHeartbeats 4000000 in
set_option maxRecDepth 100000 in
theorem c_X9_contract (l : Launch) (G : xG) (m0 : Nat) (ma : Nat → Nat)  : xWi l G yX9_contract cX9_contract 2 (some .int) 0 0 0 0 [.ref m0] [(m0, .inr (9, [.int 0, .int 0, .int 0, .int (-1), .ref (ma 4), .ref (ma 5), .ref (ma 6), .ref (ma 7), .ref (ma 8), .ref (ma 9), .ref (ma 10), .ref (ma 11), .ref (ma 12), .ref (ma 13), .ref (ma 14), .ref (ma 15), .ref (ma 16), .ref (ma 17), .ref (ma 18), .ref (ma 19), .int 0, .ref (ma 21), .ref (ma 22), .ref (ma 23), .ref (ma 24), .ref (ma 25), .ref (ma 26), .ref (ma 27), .ref (ma 28), .ref (ma 29), .ref (ma 30), .ref (ma 31), .ref (ma 32), .ref (ma 33), .ref (ma 34), .ref (ma 35), .ref (ma 36), .ref (ma 37), .int 0, .ref (ma 39), .ref (ma 40), .ref (ma 41), .ref (ma 42), .ref (ma 43), .ref (ma 44), .ref (ma 45), .ref (ma 46), .ref (ma 47), .ref (ma 48), .int 0, .int 0, .int 0, .int 0, .int 0, .int 0, .int 0, .long 0, .int 0, .long 0, .long 0, .long 0, .long 0, .int 0, .int 0, .int 0, .int 0, .long 0])), (ma 39, .inl (G.2 0, 6, .inl (fun _ => 0))), (ma 4, .inl (G.2 1, 2400, .inl (fun _ => 0)))] (S := Unit) (fun r _ => r = 0) (fun _ => []) := by
  intro sz
  refine xstart (by decide) (Nat.le_of_ble_eq_true rfl) (fun p e s m args below meth c ls C0 hr hlocks hin hsz hP hK hD hN hl => ?_)
  obtain ⟨hx, hb, hml, hown, htl⟩ := id C0
  subst hsz
  have hD := hD.self (sz := s.heap.size)
  generalize hAe : va_A [(m0, .inr (9, [.int 0, .int 0, .int 0, .int (-1), .ref (ma 4), .ref (ma 5), .ref (ma 6), .ref (ma 7), .ref (ma 8), .ref (ma 9), .ref (ma 10), .ref (ma 11), .ref (ma 12), .ref (ma 13), .ref (ma 14), .ref (ma 15), .ref (ma 16), .ref (ma 17), .ref (ma 18), .ref (ma 19), .int 0, .ref (ma 21), .ref (ma 22), .ref (ma 23), .ref (ma 24), .ref (ma 25), .ref (ma 26), .ref (ma 27), .ref (ma 28), .ref (ma 29), .ref (ma 30), .ref (ma 31), .ref (ma 32), .ref (ma 33), .ref (ma 34), .ref (ma 35), .ref (ma 36), .ref (ma 37), .int 0, .ref (ma 39), .ref (ma 40), .ref (ma 41), .ref (ma 42), .ref (ma 43), .ref (ma 44), .ref (ma 45), .ref (ma 46), .ref (ma 47), .ref (ma 48), .int 0, .int 0, .int 0, .int 0, .int 0, .int 0, .int 0, .long 0, .int 0, .long 0, .long 0, .long 0, .long 0, .int 0, .int 0, .int 0, .int 0, .long 0])), (ma 39, .inl (G.2 0, 6, .inl (fun _ => 0))), (ma 4, .inl (G.2 1, 2400, .inl (fun _ => 0)))] s.heap.size = A at hD ⊢
  have hA : ∀ q : Nat, s.heap.size ≤ q → A q := fun q h => by rw [← hAe]; exact Or.inr h
  have hS : va_S A s.heap s.heap [] := va_S.rf
  have hl : lv_has ls 2 [(0, .ref m0)] := hl
  refine lv_aload_n hx hb dX9_contract_0 rfl (lv_at hl 0 rfl) ?_
  refine lv_iconst (v := 0) hx hb dX9_contract_1 (by decide) ?_
  refine va_put (D := G.1) (ci := 9) (v := .int 0) (ty := .int) (C := RX9) (T := TX9) (N := 67) hx hb htl inlX9 tyX9 tyX9_ok nmX9 hown hK hP hD hS 0 rfl rfl 38 (by decide) (htl (.fieldLink RX9 147 "LaytimeDeskModel" "reason" "I") mW175) (fun _ h9 => h9) rfl (by decide +kernel) rfl rfl (Nat.le_of_ble_eq_true rfl) dX9_contract_2 (fun H locs hP hD hS => ?_)
  have hP : va_P G.1 xcl [(m0, .inr (9, [.int 0, .int 0, .int 0, .int (-1), .ref (ma 4), .ref (ma 5), .ref (ma 6), .ref (ma 7), .ref (ma 8), .ref (ma 9), .ref (ma 10), .ref (ma 11), .ref (ma 12), .ref (ma 13), .ref (ma 14), .ref (ma 15), .ref (ma 16), .ref (ma 17), .ref (ma 18), .ref (ma 19), .int 0, .ref (ma 21), .ref (ma 22), .ref (ma 23), .ref (ma 24), .ref (ma 25), .ref (ma 26), .ref (ma 27), .ref (ma 28), .ref (ma 29), .ref (ma 30), .ref (ma 31), .ref (ma 32), .ref (ma 33), .ref (ma 34), .ref (ma 35), .ref (ma 36), .ref (ma 37), .int 0, .ref (ma 39), .ref (ma 40), .ref (ma 41), .ref (ma 42), .ref (ma 43), .ref (ma 44), .ref (ma 45), .ref (ma 46), .ref (ma 47), .ref (ma 48), .int 0, .int 0, .int 0, .int 0, .int 0, .int 0, .int 0, .long 0, .int 0, .long 0, .long 0, .long 0, .long 0, .int 0, .int 0, .int 0, .int 0, .long 0])), (ma 39, .inl (G.2 0, 6, .inl (fun _ => 0))), (ma 4, .inl (G.2 1, 2400, .inl (fun _ => 0)))] H := hP
  have hD : va_D A [(m0, .inr (9, [.int 0, .int 0, .int 0, .int (-1), .ref (ma 4), .ref (ma 5), .ref (ma 6), .ref (ma 7), .ref (ma 8), .ref (ma 9), .ref (ma 10), .ref (ma 11), .ref (ma 12), .ref (ma 13), .ref (ma 14), .ref (ma 15), .ref (ma 16), .ref (ma 17), .ref (ma 18), .ref (ma 19), .int 0, .ref (ma 21), .ref (ma 22), .ref (ma 23), .ref (ma 24), .ref (ma 25), .ref (ma 26), .ref (ma 27), .ref (ma 28), .ref (ma 29), .ref (ma 30), .ref (ma 31), .ref (ma 32), .ref (ma 33), .ref (ma 34), .ref (ma 35), .ref (ma 36), .ref (ma 37), .int 0, .ref (ma 39), .ref (ma 40), .ref (ma 41), .ref (ma 42), .ref (ma 43), .ref (ma 44), .ref (ma 45), .ref (ma 46), .ref (ma 47), .ref (ma 48), .int 0, .int 0, .int 0, .int 0, .int 0, .int 0, .int 0, .long 0, .int 0, .long 0, .long 0, .long 0, .long 0, .int 0, .int 0, .int 0, .int 0, .long 0])), (ma 39, .inl (G.2 0, 6, .inl (fun _ => 0))), (ma 4, .inl (G.2 1, 2400, .inl (fun _ => 0)))] := hD
  refine lv_aload_n hx hb dX9_contract_5 rfl (lv_at hl 0 rfl) ?_
  refine va_get (D := G.1) (ci := 9) (v := .int 0) (C := RX9) (T := TX9) (N := 67) hx hb htl inlX9 hown hK hP 0 rfl rfl 0 (by decide) (htl (.fieldLink RX9 150 "LaytimeDeskModel" "contracts" "I") mW176) (fun _ h9 => h9) rfl dX9_contract_6 ?_
  refine lv_bipush (v := 40) hx hb dX9_contract_9 (by decide) ?_
  refine lv_icmp_ne (tgt := 20) hx hb dX9_contract_11 (by decide) (fun c_1 => ?_) (fun c_1 => absurd c_1 (by decide +kernel))
  refine lv_iconst (v := 0) hx hb dX9_contract_20 (by decide) ?_
  refine lv_istore_n (lv' := [(1, .int 0), (0, .ref m0)]) hx hb dX9_contract_21 rfl hl (by decide) rfl (fun ls hl => ?_)
  refine xloop 60 22 (fun k_3 H locs ls => ∃ (g_2 : Nat → Int32), va_P G.1 xcl [(m0, .inr (9, [.int 0, .int 0, .int 0, .int (-1), .ref (ma 4), .ref (ma 5), .ref (ma 6), .ref (ma 7), .ref (ma 8), .ref (ma 9), .ref (ma 10), .ref (ma 11), .ref (ma 12), .ref (ma 13), .ref (ma 14), .ref (ma 15), .ref (ma 16), .ref (ma 17), .ref (ma 18), .ref (ma 19), .int 0, .ref (ma 21), .ref (ma 22), .ref (ma 23), .ref (ma 24), .ref (ma 25), .ref (ma 26), .ref (ma 27), .ref (ma 28), .ref (ma 29), .ref (ma 30), .ref (ma 31), .ref (ma 32), .ref (ma 33), .ref (ma 34), .ref (ma 35), .ref (ma 36), .ref (ma 37), .int 0, .ref (ma 39), .ref (ma 40), .ref (ma 41), .ref (ma 42), .ref (ma 43), .ref (ma 44), .ref (ma 45), .ref (ma 46), .ref (ma 47), .ref (ma 48), .int 0, .int 0, .int 0, .int 0, .int 0, .int 0, .int 0, .long 0, .int 0, .long 0, .long 0, .long 0, .long 0, .int 0, .int 0, .int 0, .int 0, .long 0])), (ma 39, .inl (G.2 0, 6, .inl (fun _ => 0))), (ma 4, .inl (G.2 1, 2400, .inl g_2))] H ∧ va_D A [(m0, .inr (9, [.int 0, .int 0, .int 0, .int (-1), .ref (ma 4), .ref (ma 5), .ref (ma 6), .ref (ma 7), .ref (ma 8), .ref (ma 9), .ref (ma 10), .ref (ma 11), .ref (ma 12), .ref (ma 13), .ref (ma 14), .ref (ma 15), .ref (ma 16), .ref (ma 17), .ref (ma 18), .ref (ma 19), .int 0, .ref (ma 21), .ref (ma 22), .ref (ma 23), .ref (ma 24), .ref (ma 25), .ref (ma 26), .ref (ma 27), .ref (ma 28), .ref (ma 29), .ref (ma 30), .ref (ma 31), .ref (ma 32), .ref (ma 33), .ref (ma 34), .ref (ma 35), .ref (ma 36), .ref (ma 37), .int 0, .ref (ma 39), .ref (ma 40), .ref (ma 41), .ref (ma 42), .ref (ma 43), .ref (ma 44), .ref (ma 45), .ref (ma 46), .ref (ma 47), .ref (ma 48), .int 0, .int 0, .int 0, .int 0, .int 0, .int 0, .int 0, .long 0, .int 0, .long 0, .long 0, .long 0, .long 0, .int 0, .int 0, .int 0, .int 0, .long 0])), (ma 39, .inl (G.2 0, 6, .inl (fun _ => 0))), (ma 4, .inl (G.2 1, 2400, .inl g_2))] ∧ va_S A s.heap H locs ∧ lv_has ls 2 [(1, .int (nI k_3)), (0, .ref m0)]) (fun k_3 H locs ls hlt_4 hI hnext_5 => ?_) (fun H locs ls hI => ?_) ⟨(fun _ => 0), hP, hD, hS, lv_sub hl [0, 1] rfl⟩
  · obtain ⟨g_2, hP, hD, hS, hl⟩ := hI
    refine lv_iload_n hx hb dX9_contract_22 rfl (lv_at hl 0 rfl) ?_
    refine lv_bipush (v := 60) hx hb dX9_contract_23 (by decide) ?_
    refine lv_icmp_ge (tgt := 49) hx hb dX9_contract_25 (by decide) (fun c_6 => absurd c_6 (show ¬ (60 : Int32) ≤ nI k_3 from nI_ge hlt_4 (by decide))) (fun c_6 => ?_)
    refine lv_aload_n hx hb dX9_contract_28 rfl (lv_at hl 1 rfl) ?_
    refine va_get (D := G.1) (ci := 9) (v := .ref (ma 4)) (C := RX9) (T := TX9) (N := 67) hx hb htl inlX9 hown hK hP 0 rfl rfl 4 (by decide) (htl (.fieldLink RX9 13 "LaytimeDeskModel" "holds" "[B") mW108) (fun _ h9 => h9) rfl dX9_contract_29 ?_
    refine lv_bipush (v := 60) hx hb dX9_contract_32 (by decide) ?_
    refine lv_aload_n hx hb dX9_contract_34 rfl (lv_at hl 1 rfl) ?_
    refine va_get (D := G.1) (ci := 9) (v := .int 0) (C := RX9) (T := TX9) (N := 67) hx hb htl inlX9 hown hK hP 0 rfl rfl 0 (by decide) (htl (.fieldLink RX9 150 "LaytimeDeskModel" "contracts" "I") mW176) (fun _ h9 => h9) rfl dX9_contract_35 ?_
    refine lv_imul hx hb dX9_contract_38 ?_
    refine lv_topi (fun z_7 ez_7 => ?_)
    obtain rfl : z_7 = 0 := ez_7.trans (by first | rfl | decide +kernel)
    refine lv_iload_n hx hb dX9_contract_39 rfl (lv_at hl 0 rfl) ?_
    refine lv_iadd hx hb dX9_contract_40 ?_
    refine lv_topi (fun z_8 ez_8 => ?_)
    refine lv_iconst (v := 0) hx hb dX9_contract_41 (by decide) ?_
    refine va_bast hx hb hK hP hD hS 2 1 rfl rfl (by rw [ez_8, Int32.zero_add]; exact vp_in_nI (Nat.lt_of_lt_of_le hlt_4 (by decide)) (by decide)) dX9_contract_42 (fun H locs hP hD hS => ?_)
    obtain ⟨g_9, eg_9⟩ : ∃ z : Nat → Int32, z = (vf_upd g_2 (z_8 : Int32).toNatClampNeg (vp_nar .byte 0)) := ⟨_, rfl⟩
    have hP : va_P G.1 xcl [(m0, .inr (9, [.int 0, .int 0, .int 0, .int (-1), .ref (ma 4), .ref (ma 5), .ref (ma 6), .ref (ma 7), .ref (ma 8), .ref (ma 9), .ref (ma 10), .ref (ma 11), .ref (ma 12), .ref (ma 13), .ref (ma 14), .ref (ma 15), .ref (ma 16), .ref (ma 17), .ref (ma 18), .ref (ma 19), .int 0, .ref (ma 21), .ref (ma 22), .ref (ma 23), .ref (ma 24), .ref (ma 25), .ref (ma 26), .ref (ma 27), .ref (ma 28), .ref (ma 29), .ref (ma 30), .ref (ma 31), .ref (ma 32), .ref (ma 33), .ref (ma 34), .ref (ma 35), .ref (ma 36), .ref (ma 37), .int 0, .ref (ma 39), .ref (ma 40), .ref (ma 41), .ref (ma 42), .ref (ma 43), .ref (ma 44), .ref (ma 45), .ref (ma 46), .ref (ma 47), .ref (ma 48), .int 0, .int 0, .int 0, .int 0, .int 0, .int 0, .int 0, .long 0, .int 0, .long 0, .long 0, .long 0, .long 0, .int 0, .int 0, .int 0, .int 0, .long 0])), (ma 39, .inl (G.2 0, 6, .inl (fun _ => 0))), (ma 4, .inl (G.2 1, 2400, .inl g_9))] H := by rw [eg_9]; exact hP
    have hD : va_D A [(m0, .inr (9, [.int 0, .int 0, .int 0, .int (-1), .ref (ma 4), .ref (ma 5), .ref (ma 6), .ref (ma 7), .ref (ma 8), .ref (ma 9), .ref (ma 10), .ref (ma 11), .ref (ma 12), .ref (ma 13), .ref (ma 14), .ref (ma 15), .ref (ma 16), .ref (ma 17), .ref (ma 18), .ref (ma 19), .int 0, .ref (ma 21), .ref (ma 22), .ref (ma 23), .ref (ma 24), .ref (ma 25), .ref (ma 26), .ref (ma 27), .ref (ma 28), .ref (ma 29), .ref (ma 30), .ref (ma 31), .ref (ma 32), .ref (ma 33), .ref (ma 34), .ref (ma 35), .ref (ma 36), .ref (ma 37), .int 0, .ref (ma 39), .ref (ma 40), .ref (ma 41), .ref (ma 42), .ref (ma 43), .ref (ma 44), .ref (ma 45), .ref (ma 46), .ref (ma 47), .ref (ma 48), .int 0, .int 0, .int 0, .int 0, .int 0, .int 0, .int 0, .long 0, .int 0, .long 0, .long 0, .long 0, .long 0, .int 0, .int 0, .int 0, .int 0, .long 0])), (ma 39, .inl (G.2 0, 6, .inl (fun _ => 0))), (ma 4, .inl (G.2 1, 2400, .inl g_9))] := by rw [eg_9]; exact hD
    refine lv_iinc (v := nI (k_3 + 1)) (lv' := [(1, .int (nI (k_3 + 1))), (0, .ref m0)]) hx hb dX9_contract_43 hl (k := 0) rfl (nI_1 k_3) (by decide) rfl (fun ls hl => ?_)
    refine lv_goto (tgt := 22) hx hb dX9_contract_46 (by decide) ?_
    exact hnext_5 _ _ _ ⟨g_9, hP, hD, hS, lv_sub hl [0, 1] rfl⟩
  · obtain ⟨g_2, hP, hD, hS, hl⟩ := hI
    refine lv_iload_n hx hb dX9_contract_22 rfl (lv_at hl 0 rfl) ?_
    refine lv_bipush (v := 60) hx hb dX9_contract_23 (by decide) ?_
    refine lv_icmp_ge (tgt := 49) hx hb dX9_contract_25 (by decide) (fun c_11 => ?_) (fun c_11 => absurd (show (60 : Int32) ≤ nI 60 by decide +kernel) c_11)
    refine lv_aload_n hx hb dX9_contract_49 rfl (lv_at hl 1 rfl) ?_
    refine lv_dup hx hb dX9_contract_50 rfl ?_
    refine va_get (D := G.1) (ci := 9) (v := .int 0) (C := RX9) (T := TX9) (N := 67) hx hb htl inlX9 hown hK hP 0 rfl rfl 0 (by decide) (htl (.fieldLink RX9 150 "LaytimeDeskModel" "contracts" "I") mW176) (fun _ h9 => h9) rfl dX9_contract_51 ?_
    refine lv_iconst (v := 1) hx hb dX9_contract_54 (by decide) ?_
    refine lv_iadd hx hb dX9_contract_55 ?_
    refine lv_topi (fun z_12 ez_12 => ?_)
    obtain rfl : z_12 = 1 := ez_12.trans (by first | rfl | decide +kernel)
    refine va_put (D := G.1) (ci := 9) (v := .int 1) (ty := .int) (C := RX9) (T := TX9) (N := 67) hx hb htl inlX9 tyX9 tyX9_ok nmX9 hown hK hP hD hS 0 rfl rfl 0 (by decide) (htl (.fieldLink RX9 150 "LaytimeDeskModel" "contracts" "I") mW176) (fun _ h9 => h9) rfl (by decide +kernel) rfl rfl (Nat.le_of_ble_eq_true rfl) dX9_contract_56 (fun H locs hP hD hS => ?_)
    have hP : va_P G.1 xcl [(m0, .inr (9, [.int 1, .int 0, .int 0, .int (-1), .ref (ma 4), .ref (ma 5), .ref (ma 6), .ref (ma 7), .ref (ma 8), .ref (ma 9), .ref (ma 10), .ref (ma 11), .ref (ma 12), .ref (ma 13), .ref (ma 14), .ref (ma 15), .ref (ma 16), .ref (ma 17), .ref (ma 18), .ref (ma 19), .int 0, .ref (ma 21), .ref (ma 22), .ref (ma 23), .ref (ma 24), .ref (ma 25), .ref (ma 26), .ref (ma 27), .ref (ma 28), .ref (ma 29), .ref (ma 30), .ref (ma 31), .ref (ma 32), .ref (ma 33), .ref (ma 34), .ref (ma 35), .ref (ma 36), .ref (ma 37), .int 0, .ref (ma 39), .ref (ma 40), .ref (ma 41), .ref (ma 42), .ref (ma 43), .ref (ma 44), .ref (ma 45), .ref (ma 46), .ref (ma 47), .ref (ma 48), .int 0, .int 0, .int 0, .int 0, .int 0, .int 0, .int 0, .long 0, .int 0, .long 0, .long 0, .long 0, .long 0, .int 0, .int 0, .int 0, .int 0, .long 0])), (ma 39, .inl (G.2 0, 6, .inl (fun _ => 0))), (ma 4, .inl (G.2 1, 2400, .inl g_2))] H := hP
    have hD : va_D A [(m0, .inr (9, [.int 1, .int 0, .int 0, .int (-1), .ref (ma 4), .ref (ma 5), .ref (ma 6), .ref (ma 7), .ref (ma 8), .ref (ma 9), .ref (ma 10), .ref (ma 11), .ref (ma 12), .ref (ma 13), .ref (ma 14), .ref (ma 15), .ref (ma 16), .ref (ma 17), .ref (ma 18), .ref (ma 19), .int 0, .ref (ma 21), .ref (ma 22), .ref (ma 23), .ref (ma 24), .ref (ma 25), .ref (ma 26), .ref (ma 27), .ref (ma 28), .ref (ma 29), .ref (ma 30), .ref (ma 31), .ref (ma 32), .ref (ma 33), .ref (ma 34), .ref (ma 35), .ref (ma 36), .ref (ma 37), .int 0, .ref (ma 39), .ref (ma 40), .ref (ma 41), .ref (ma 42), .ref (ma 43), .ref (ma 44), .ref (ma 45), .ref (ma 46), .ref (ma 47), .ref (ma 48), .int 0, .int 0, .int 0, .int 0, .int 0, .int 0, .int 0, .long 0, .int 0, .long 0, .long 0, .long 0, .long 0, .int 0, .int 0, .int 0, .int 0, .long 0])), (ma 39, .inl (G.2 0, 6, .inl (fun _ => 0))), (ma 4, .inl (G.2 1, 2400, .inl g_2))] := hD
    refine lv_aload_n hx hb dX9_contract_59 rfl (lv_at hl 1 rfl) ?_
    refine va_get (D := G.1) (ci := 9) (v := .int 1) (C := RX9) (T := TX9) (N := 67) hx hb htl inlX9 hown hK hP 0 rfl rfl 0 (by decide) (htl (.fieldLink RX9 150 "LaytimeDeskModel" "contracts" "I") mW176) (fun _ h9 => h9) rfl dX9_contract_60 ?_
    refine lv_iconst (v := 1) hx hb dX9_contract_63 (by decide) ?_
    refine lv_isub hx hb dX9_contract_64 ?_
    refine lv_topi (fun z_13 ez_13 => ?_)
    obtain rfl : z_13 = 0 := ez_13.trans (by first | rfl | decide +kernel)
    have hP9 := hP.sub (ws' := []) [] rfl
    have hD9 := hD.sub (ws' := []) [] (by decide) rfl
    exact W.iret (v := 0) hx hb hr (fun t ht hW => ⟨⟨0, (), rfl, rfl, by rw [ht]; exact hP9, hD9⟩, hS.F ht⟩) hS.2.2 dX9_contract_65
theorem dX9_status_0 : decode cX9_status 0 = .ok (.iload_n 1, 1) := by decide +kernel
theorem dX9_status_1 : decode cX9_status 1 = .ok (.tableswitch 89 0 8 #[51, 56, 56, 56, 56, 56, 63, 68, 73], 51) := by decide +kernel
theorem dX9_status_52 : decode cX9_status 52 = .ok (.aload_n 0, 1) := by decide +kernel
theorem dX9_status_53 : decode cX9_status 53 = .ok (.getfield 147, 3) := by decide +kernel
theorem dX9_status_56 : decode cX9_status 56 = .ok (.ireturn, 1) := by decide +kernel
theorem dX9_status_57 : decode cX9_status 57 = .ok (.aload_n 0, 1) := by decide +kernel
theorem dX9_status_58 : decode cX9_status 58 = .ok (.getfield 117, 3) := by decide +kernel
theorem dX9_status_61 : decode cX9_status 61 = .ok (.iload_n 1, 1) := by decide +kernel
theorem dX9_status_62 : decode cX9_status 62 = .ok (.iaload, 1) := by decide +kernel
theorem dX9_status_63 : decode cX9_status 63 = .ok (.ireturn, 1) := by decide +kernel
theorem dX9_status_64 : decode cX9_status 64 = .ok (.aload_n 0, 1) := by decide +kernel
theorem dX9_status_65 : decode cX9_status 65 = .ok (.getfield 150, 3) := by decide +kernel
theorem dX9_status_68 : decode cX9_status 68 = .ok (.ireturn, 1) := by decide +kernel
theorem dX9_status_69 : decode cX9_status 69 = .ok (.aload_n 0, 1) := by decide +kernel
theorem dX9_status_70 : decode cX9_status 70 = .ok (.getfield 180, 3) := by decide +kernel
theorem dX9_status_73 : decode cX9_status 73 = .ok (.ireturn, 1) := by decide +kernel
theorem dX9_status_74 : decode cX9_status 74 = .ok (.aload_n 0, 1) := by decide +kernel
theorem dX9_status_75 : decode cX9_status 75 = .ok (.getfield 7, 3) := by decide +kernel
theorem dX9_status_78 : decode cX9_status 78 = .ok (.ifCond .ge 7, 3) := by decide +kernel
theorem dX9_status_81 : decode cX9_status 81 = .ok (.iconst 0, 1) := by decide +kernel
theorem dX9_status_82 : decode cX9_status 82 = .ok (.goto 7, 3) := by decide +kernel
theorem dX9_status_89 : decode cX9_status 89 = .ok (.ireturn, 1) := by decide +kernel
theorem dX9_status_90 : decode cX9_status 90 = .ok (.iconst (-1), 1) := by decide +kernel
theorem dX9_status_91 : decode cX9_status 91 = .ok (.ireturn, 1) := by decide +kernel
set_option maxHeartbeats 4000000 in
set_option maxRecDepth 100000 in
theorem c_X9_status (l : Launch) (G : xG) (m0 : Nat) (ma : Nat → Nat) (p0 : Int32)  : xWi l G yX9_status cX9_status 2 (some .int) 0 0 0 0 [.ref m0, .int p0] [(m0, .inr (9, [.int 0, .int 0, .int 0, .int (-1), .ref (ma 4), .ref (ma 5), .ref (ma 6), .ref (ma 7), .ref (ma 8), .ref (ma 9), .ref (ma 10), .ref (ma 11), .ref (ma 12), .ref (ma 13), .ref (ma 14), .ref (ma 15), .ref (ma 16), .ref (ma 17), .ref (ma 18), .ref (ma 19), .int 0, .ref (ma 21), .ref (ma 22), .ref (ma 23), .ref (ma 24), .ref (ma 25), .ref (ma 26), .ref (ma 27), .ref (ma 28), .ref (ma 29), .ref (ma 30), .ref (ma 31), .ref (ma 32), .ref (ma 33), .ref (ma 34), .ref (ma 35), .ref (ma 36), .ref (ma 37), .int 0, .ref (ma 39), .ref (ma 40), .ref (ma 41), .ref (ma 42), .ref (ma 43), .ref (ma 44), .ref (ma 45), .ref (ma 46), .ref (ma 47), .ref (ma 48), .int 0, .int 0, .int 0, .int 0, .int 0, .int 0, .int 0, .long 0, .int 0, .long 0, .long 0, .long 0, .long 0, .int 0, .int 0, .int 0, .int 0, .long 0])), (ma 39, .inl (G.2 0, 6, .inl (fun _ => 0)))] (S := Unit) (fun r _ => xst p0 r) (fun _ => []) := by
  intro sz
  refine xstart (by decide) (Nat.le_of_ble_eq_true rfl) (fun p e s m args below meth c ls C0 hr hlocks hin hsz hP hK hD hN hl => ?_)
  obtain ⟨hx, hb, hml, hown, htl⟩ := id C0
  subst hsz
  have hD := hD.self (sz := s.heap.size)
  generalize hAe : va_A [(m0, .inr (9, [.int 0, .int 0, .int 0, .int (-1), .ref (ma 4), .ref (ma 5), .ref (ma 6), .ref (ma 7), .ref (ma 8), .ref (ma 9), .ref (ma 10), .ref (ma 11), .ref (ma 12), .ref (ma 13), .ref (ma 14), .ref (ma 15), .ref (ma 16), .ref (ma 17), .ref (ma 18), .ref (ma 19), .int 0, .ref (ma 21), .ref (ma 22), .ref (ma 23), .ref (ma 24), .ref (ma 25), .ref (ma 26), .ref (ma 27), .ref (ma 28), .ref (ma 29), .ref (ma 30), .ref (ma 31), .ref (ma 32), .ref (ma 33), .ref (ma 34), .ref (ma 35), .ref (ma 36), .ref (ma 37), .int 0, .ref (ma 39), .ref (ma 40), .ref (ma 41), .ref (ma 42), .ref (ma 43), .ref (ma 44), .ref (ma 45), .ref (ma 46), .ref (ma 47), .ref (ma 48), .int 0, .int 0, .int 0, .int 0, .int 0, .int 0, .int 0, .long 0, .int 0, .long 0, .long 0, .long 0, .long 0, .int 0, .int 0, .int 0, .int 0, .long 0])), (ma 39, .inl (G.2 0, 6, .inl (fun _ => 0)))] s.heap.size = A at hD ⊢
  have hA : ∀ q : Nat, s.heap.size ≤ q → A q := fun q h => by rw [← hAe]; exact Or.inr h
  have hS : va_S A s.heap s.heap [] := va_S.rf
  have hl : lv_has ls 2 [(0, .ref m0), (1, .int p0)] := hl
  refine lv_iload_n hx hb dX9_status_0 rfl (lv_at hl 1 rfl) ?_
  rcases xtab p0 9 (by decide) with hsw_1 | ⟨k_2, hk_2, hsw_1⟩
  · refine lv_tableOut (tgt := 90) hx hb dX9_status_1 (by omega) (by decide) ?_
    refine lv_iconst (v := (-1)) hx hb dX9_status_90 (by decide) ?_
    have hP9 := hP.sub (ws' := []) [] rfl
    have hD9 := hD.sub (ws' := []) [] (by decide) rfl
    exact W.iret (v := (-1)) hx hb hr (fun t ht hW => ⟨⟨(-1), (), rfl, Or.inr ⟨(fun h => by rw [vp_in_iff] at h; omega), rfl⟩, by rw [ht]; exact hP9, hD9⟩, hS.F ht⟩) hS.2.2 dX9_status_91
  · obtain rfl | rfl | rfl | rfl | rfl | rfl | rfl | rfl | rfl : k_2 = 0 ∨ k_2 = 1 ∨ k_2 = 2 ∨ k_2 = 3 ∨ k_2 = 4 ∨ k_2 = 5 ∨ k_2 = 6 ∨ k_2 = 7 ∨ k_2 = 8 := by omega
    · subst hsw_1
      refine lv_tableIn (tgt := 52) (off := 51) hx hb dX9_status_1 (by decide +kernel) (by decide +kernel) (by decide +kernel) (by decide) ?_
      refine lv_aload_n hx hb dX9_status_52 rfl (lv_at hl 0 rfl) ?_
      refine va_get (D := G.1) (ci := 9) (v := .int 0) (C := RX9) (T := TX9) (N := 67) hx hb htl inlX9 hown hK hP 0 rfl rfl 38 (by decide) (htl (.fieldLink RX9 147 "LaytimeDeskModel" "reason" "I") mW175) (fun _ h9 => h9) rfl dX9_status_53 ?_
      have hP9 := hP.sub (ws' := []) [] rfl
      have hD9 := hD.sub (ws' := []) [] (by decide) rfl
      exact W.iret (v := 0) hx hb hr (fun t ht hW => ⟨⟨0, (), rfl, Or.inl ⟨by unfold vp_in; decide +kernel, rfl⟩, by rw [ht]; exact hP9, hD9⟩, hS.F ht⟩) hS.2.2 dX9_status_56
    · subst hsw_1
      refine lv_tableIn (tgt := 57) (off := 56) hx hb dX9_status_1 (by decide +kernel) (by decide +kernel) (by decide +kernel) (by decide) ?_
      refine lv_aload_n hx hb dX9_status_57 rfl (lv_at hl 0 rfl) ?_
      refine va_get (D := G.1) (ci := 9) (v := .ref (ma 39)) (C := RX9) (T := TX9) (N := 67) hx hb htl inlX9 hown hK hP 0 rfl rfl 39 (by decide) (htl (.fieldLink RX9 117 "LaytimeDeskModel" "refused" "[I") mW144) (fun _ h9 => h9) rfl dX9_status_58 ?_
      refine lv_iload_n hx hb dX9_status_61 rfl (lv_at hl 1 rfl) ?_
      refine va_iald hx hb hK hP 1 0 rfl rfl (by unfold vp_in; decide +kernel) dX9_status_62 ?_
      refine lv_topi (fun z_3 ez_3 => ?_)
      obtain rfl : z_3 = 0 := ez_3.trans (by first | rfl | decide +kernel)
      have hP9 := hP.sub (ws' := []) [] rfl
      have hD9 := hD.sub (ws' := []) [] (by decide) rfl
      exact W.iret (v := 0) hx hb hr (fun t ht hW => ⟨⟨0, (), rfl, Or.inl ⟨by unfold vp_in; decide +kernel, rfl⟩, by rw [ht]; exact hP9, hD9⟩, hS.F ht⟩) hS.2.2 dX9_status_63
    · subst hsw_1
      refine lv_tableIn (tgt := 57) (off := 56) hx hb dX9_status_1 (by decide +kernel) (by decide +kernel) (by decide +kernel) (by decide) ?_
      refine lv_aload_n hx hb dX9_status_57 rfl (lv_at hl 0 rfl) ?_
      refine va_get (D := G.1) (ci := 9) (v := .ref (ma 39)) (C := RX9) (T := TX9) (N := 67) hx hb htl inlX9 hown hK hP 0 rfl rfl 39 (by decide) (htl (.fieldLink RX9 117 "LaytimeDeskModel" "refused" "[I") mW144) (fun _ h9 => h9) rfl dX9_status_58 ?_
      refine lv_iload_n hx hb dX9_status_61 rfl (lv_at hl 1 rfl) ?_
      refine va_iald hx hb hK hP 1 0 rfl rfl (by unfold vp_in; decide +kernel) dX9_status_62 ?_
      refine lv_topi (fun z_4 ez_4 => ?_)
      obtain rfl : z_4 = 0 := ez_4.trans (by first | rfl | decide +kernel)
      have hP9 := hP.sub (ws' := []) [] rfl
      have hD9 := hD.sub (ws' := []) [] (by decide) rfl
      exact W.iret (v := 0) hx hb hr (fun t ht hW => ⟨⟨0, (), rfl, Or.inl ⟨by unfold vp_in; decide +kernel, rfl⟩, by rw [ht]; exact hP9, hD9⟩, hS.F ht⟩) hS.2.2 dX9_status_63
    · subst hsw_1
      refine lv_tableIn (tgt := 57) (off := 56) hx hb dX9_status_1 (by decide +kernel) (by decide +kernel) (by decide +kernel) (by decide) ?_
      refine lv_aload_n hx hb dX9_status_57 rfl (lv_at hl 0 rfl) ?_
      refine va_get (D := G.1) (ci := 9) (v := .ref (ma 39)) (C := RX9) (T := TX9) (N := 67) hx hb htl inlX9 hown hK hP 0 rfl rfl 39 (by decide) (htl (.fieldLink RX9 117 "LaytimeDeskModel" "refused" "[I") mW144) (fun _ h9 => h9) rfl dX9_status_58 ?_
      refine lv_iload_n hx hb dX9_status_61 rfl (lv_at hl 1 rfl) ?_
      refine va_iald hx hb hK hP 1 0 rfl rfl (by unfold vp_in; decide +kernel) dX9_status_62 ?_
      refine lv_topi (fun z_5 ez_5 => ?_)
      obtain rfl : z_5 = 0 := ez_5.trans (by first | rfl | decide +kernel)
      have hP9 := hP.sub (ws' := []) [] rfl
      have hD9 := hD.sub (ws' := []) [] (by decide) rfl
      exact W.iret (v := 0) hx hb hr (fun t ht hW => ⟨⟨0, (), rfl, Or.inl ⟨by unfold vp_in; decide +kernel, rfl⟩, by rw [ht]; exact hP9, hD9⟩, hS.F ht⟩) hS.2.2 dX9_status_63
    · subst hsw_1
      refine lv_tableIn (tgt := 57) (off := 56) hx hb dX9_status_1 (by decide +kernel) (by decide +kernel) (by decide +kernel) (by decide) ?_
      refine lv_aload_n hx hb dX9_status_57 rfl (lv_at hl 0 rfl) ?_
      refine va_get (D := G.1) (ci := 9) (v := .ref (ma 39)) (C := RX9) (T := TX9) (N := 67) hx hb htl inlX9 hown hK hP 0 rfl rfl 39 (by decide) (htl (.fieldLink RX9 117 "LaytimeDeskModel" "refused" "[I") mW144) (fun _ h9 => h9) rfl dX9_status_58 ?_
      refine lv_iload_n hx hb dX9_status_61 rfl (lv_at hl 1 rfl) ?_
      refine va_iald hx hb hK hP 1 0 rfl rfl (by unfold vp_in; decide +kernel) dX9_status_62 ?_
      refine lv_topi (fun z_6 ez_6 => ?_)
      obtain rfl : z_6 = 0 := ez_6.trans (by first | rfl | decide +kernel)
      have hP9 := hP.sub (ws' := []) [] rfl
      have hD9 := hD.sub (ws' := []) [] (by decide) rfl
      exact W.iret (v := 0) hx hb hr (fun t ht hW => ⟨⟨0, (), rfl, Or.inl ⟨by unfold vp_in; decide +kernel, rfl⟩, by rw [ht]; exact hP9, hD9⟩, hS.F ht⟩) hS.2.2 dX9_status_63
    · subst hsw_1
      refine lv_tableIn (tgt := 57) (off := 56) hx hb dX9_status_1 (by decide +kernel) (by decide +kernel) (by decide +kernel) (by decide) ?_
      refine lv_aload_n hx hb dX9_status_57 rfl (lv_at hl 0 rfl) ?_
      refine va_get (D := G.1) (ci := 9) (v := .ref (ma 39)) (C := RX9) (T := TX9) (N := 67) hx hb htl inlX9 hown hK hP 0 rfl rfl 39 (by decide) (htl (.fieldLink RX9 117 "LaytimeDeskModel" "refused" "[I") mW144) (fun _ h9 => h9) rfl dX9_status_58 ?_
      refine lv_iload_n hx hb dX9_status_61 rfl (lv_at hl 1 rfl) ?_
      refine va_iald hx hb hK hP 1 0 rfl rfl (by unfold vp_in; decide +kernel) dX9_status_62 ?_
      refine lv_topi (fun z_7 ez_7 => ?_)
      obtain rfl : z_7 = 0 := ez_7.trans (by first | rfl | decide +kernel)
      have hP9 := hP.sub (ws' := []) [] rfl
      have hD9 := hD.sub (ws' := []) [] (by decide) rfl
      exact W.iret (v := 0) hx hb hr (fun t ht hW => ⟨⟨0, (), rfl, Or.inl ⟨by unfold vp_in; decide +kernel, rfl⟩, by rw [ht]; exact hP9, hD9⟩, hS.F ht⟩) hS.2.2 dX9_status_63
    · subst hsw_1
      refine lv_tableIn (tgt := 64) (off := 63) hx hb dX9_status_1 (by decide +kernel) (by decide +kernel) (by decide +kernel) (by decide) ?_
      refine lv_aload_n hx hb dX9_status_64 rfl (lv_at hl 0 rfl) ?_
      refine va_get (D := G.1) (ci := 9) (v := .int 0) (C := RX9) (T := TX9) (N := 67) hx hb htl inlX9 hown hK hP 0 rfl rfl 0 (by decide) (htl (.fieldLink RX9 150 "LaytimeDeskModel" "contracts" "I") mW176) (fun _ h9 => h9) rfl dX9_status_65 ?_
      have hP9 := hP.sub (ws' := []) [] rfl
      have hD9 := hD.sub (ws' := []) [] (by decide) rfl
      exact W.iret (v := 0) hx hb hr (fun t ht hW => ⟨⟨0, (), rfl, Or.inl ⟨by unfold vp_in; decide +kernel, rfl⟩, by rw [ht]; exact hP9, hD9⟩, hS.F ht⟩) hS.2.2 dX9_status_68
    · subst hsw_1
      refine lv_tableIn (tgt := 69) (off := 68) hx hb dX9_status_1 (by decide +kernel) (by decide +kernel) (by decide +kernel) (by decide) ?_
      refine lv_aload_n hx hb dX9_status_69 rfl (lv_at hl 0 rfl) ?_
      refine va_get (D := G.1) (ci := 9) (v := .int 0) (C := RX9) (T := TX9) (N := 67) hx hb htl inlX9 hown hK hP 0 rfl rfl 1 (by decide) (htl (.fieldLink RX9 180 "LaytimeDeskModel" "events" "I") mW364) (fun _ h9 => h9) rfl dX9_status_70 ?_
      have hP9 := hP.sub (ws' := []) [] rfl
      have hD9 := hD.sub (ws' := []) [] (by decide) rfl
      exact W.iret (v := 0) hx hb hr (fun t ht hW => ⟨⟨0, (), rfl, Or.inl ⟨by unfold vp_in; decide +kernel, rfl⟩, by rw [ht]; exact hP9, hD9⟩, hS.F ht⟩) hS.2.2 dX9_status_73
    · subst hsw_1
      refine lv_tableIn (tgt := 74) (off := 73) hx hb dX9_status_1 (by decide +kernel) (by decide +kernel) (by decide +kernel) (by decide) ?_
      refine lv_aload_n hx hb dX9_status_74 rfl (lv_at hl 0 rfl) ?_
      refine va_get (D := G.1) (ci := 9) (v := .int (-1)) (C := RX9) (T := TX9) (N := 67) hx hb htl inlX9 hown hK hP 0 rfl rfl 3 (by decide) (htl (.fieldLink RX9 7 "LaytimeDeskModel" "claimed" "I") mW106) (fun _ h9 => h9) rfl dX9_status_75 ?_
      refine lv_if_ge (tgt := 85) hx hb dX9_status_78 (by decide) (fun c_8 => absurd c_8 (by decide +kernel)) (fun c_8 => ?_)
      refine lv_iconst (v := 0) hx hb dX9_status_81 (by decide) ?_
      refine lv_goto (tgt := 89) hx hb dX9_status_82 (by decide) ?_
      have hP9 := hP.sub (ws' := []) [] rfl
      have hD9 := hD.sub (ws' := []) [] (by decide) rfl
      exact W.iret (v := 0) hx hb hr (fun t ht hW => ⟨⟨0, (), rfl, Or.inl ⟨by unfold vp_in; decide +kernel, rfl⟩, by rw [ht]; exact hP9, hD9⟩, hS.F ht⟩) hS.2.2 dX9_status_89
theorem dX9_together_0 : decode cX9_together 0 = .ok (.aload_n 0, 1) := by decide +kernel
theorem dX9_together_1 : decode cX9_together 1 = .ok (.iconst 0, 1) := by decide +kernel
theorem dX9_together_2 : decode cX9_together 2 = .ok (.putfield 147, 3) := by decide +kernel
theorem dX9_together_5 : decode cX9_together 5 = .ok (.iload_n 1, 1) := by decide +kernel
theorem dX9_together_6 : decode cX9_together 6 = .ok (.ifCond .lt 10, 3) := by decide +kernel
theorem dX9_together_9 : decode cX9_together 9 = .ok (.iload_n 1, 1) := by decide +kernel
theorem dX9_together_10 : decode cX9_together 10 = .ok (.sipush 255, 3) := by decide +kernel
theorem dX9_together_13 : decode cX9_together 13 = .ok (.if_icmp .le 7, 3) := by decide +kernel
theorem dX9_together_16 : decode cX9_together 16 = .ok (.iconst 1, 1) := by decide +kernel
theorem dX9_together_17 : decode cX9_together 17 = .ok (.goto 4, 3) := by decide +kernel
theorem dX9_together_20 : decode cX9_together 20 = .ok (.iconst 0, 1) := by decide +kernel
theorem dX9_together_21 : decode cX9_together 21 = .ok (.istore_n 2, 1) := by decide +kernel
theorem dX9_together_22 : decode cX9_together 22 = .ok (.iconst 0, 1) := by decide +kernel
theorem dX9_together_23 : decode cX9_together 23 = .ok (.istore_n 3, 1) := by decide +kernel
theorem dX9_together_24 : decode cX9_together 24 = .ok (.iload_n 2, 1) := by decide +kernel
theorem dX9_together_25 : decode cX9_together 25 = .ok (.ifCond .ne 34, 3) := by decide +kernel
theorem dX9_together_28 : decode cX9_together 28 = .ok (.iload_n 3, 1) := by decide +kernel
theorem dX9_together_29 : decode cX9_together 29 = .ok (.bipush 8, 2) := by decide +kernel
theorem dX9_together_31 : decode cX9_together 31 = .ok (.if_icmp .ge 28, 3) := by decide +kernel
theorem dX9_together_34 : decode cX9_together 34 = .ok (.iload_n 1, 1) := by decide +kernel
theorem dX9_together_35 : decode cX9_together 35 = .ok (.iload_n 3, 1) := by decide +kernel
theorem dX9_together_36 : decode cX9_together 36 = .ok (.ishr, 1) := by decide +kernel
theorem dX9_together_37 : decode cX9_together 37 = .ok (.iconst 1, 1) := by decide +kernel
theorem dX9_together_38 : decode cX9_together 38 = .ok (.iand, 1) := by decide +kernel
theorem dX9_together_39 : decode cX9_together 39 = .ok (.iconst 1, 1) := by decide +kernel
theorem dX9_together_40 : decode cX9_together 40 = .ok (.if_icmp .ne 13, 3) := by decide +kernel
theorem dX9_together_43 : decode cX9_together 43 = .ok (.aload_n 0, 1) := by decide +kernel
theorem dX9_together_44 : decode cX9_together 44 = .ok (.iload_n 3, 1) := by decide +kernel
theorem dX9_together_45 : decode cX9_together 45 = .ok (.invokevirtual 157, 3) := by decide +kernel
theorem dX9_together_48 : decode cX9_together 48 = .ok (.ifCond .ne 5, 3) := by decide +kernel
theorem dX9_together_51 : decode cX9_together 51 = .ok (.iconst 2, 1) := by decide +kernel
theorem dX9_together_52 : decode cX9_together 52 = .ok (.istore_n 2, 1) := by decide +kernel
theorem dX9_together_53 : decode cX9_together 53 = .ok (.iinc 3 1, 3) := by decide +kernel
theorem dX9_together_56 : decode cX9_together 56 = .ok (.goto (-32), 3) := by decide +kernel
theorem dX9_together_59 : decode cX9_together 59 = .ok (.iload_n 2, 1) := by decide +kernel
theorem dX9_together_60 : decode cX9_together 60 = .ok (.ifCond .eq 11, 3) := by decide +kernel
theorem dX9_together_63 : decode cX9_together 63 = .ok (.aload_n 0, 1) := by decide +kernel
theorem dX9_together_64 : decode cX9_together 64 = .ok (.iload_n 2, 1) := by decide +kernel
theorem dX9_together_65 : decode cX9_together 65 = .ok (.invokevirtual 168, 3) := by decide +kernel
theorem dX9_together_68 : decode cX9_together 68 = .ok (.pop, 1) := by decide +kernel
theorem dX9_together_69 : decode cX9_together 69 = .ok (.iconst 0, 1) := by decide +kernel
theorem dX9_together_70 : decode cX9_together 70 = .ok (.ireturn, 1) := by decide +kernel
theorem dX9_together_71 : decode cX9_together 71 = .ok (.iconst 0, 1) := by decide +kernel
theorem dX9_together_72 : decode cX9_together 72 = .ok (.istore_n 3, 1) := by decide +kernel
theorem dX9_together_73 : decode cX9_together 73 = .ok (.iload_n 3, 1) := by decide +kernel
theorem dX9_together_74 : decode cX9_together 74 = .ok (.bipush 8, 2) := by decide +kernel
theorem dX9_together_76 : decode cX9_together 76 = .ok (.if_icmp .ge 38, 3) := by decide +kernel
theorem dX9_together_79 : decode cX9_together 79 = .ok (.aload_n 0, 1) := by decide +kernel
theorem dX9_together_80 : decode cX9_together 80 = .ok (.getfield 36, 3) := by decide +kernel
theorem dX9_together_83 : decode cX9_together 83 = .ok (.bipush 12, 2) := by decide +kernel
theorem dX9_together_85 : decode cX9_together 85 = .ok (.iload_n 3, 1) := by decide +kernel
theorem dX9_together_86 : decode cX9_together 86 = .ok (.imul, 1) := by decide +kernel
theorem dX9_together_87 : decode cX9_together 87 = .ok (.bipush 10, 2) := by decide +kernel
theorem dX9_together_89 : decode cX9_together 89 = .ok (.iadd, 1) := by decide +kernel
theorem dX9_together_90 : decode cX9_together 90 = .ok (.iload_n 1, 1) := by decide +kernel
theorem dX9_together_91 : decode cX9_together 91 = .ok (.iload_n 3, 1) := by decide +kernel
theorem dX9_together_92 : decode cX9_together 92 = .ok (.ishr, 1) := by decide +kernel
theorem dX9_together_93 : decode cX9_together 93 = .ok (.iconst 1, 1) := by decide +kernel
theorem dX9_together_94 : decode cX9_together 94 = .ok (.iand, 1) := by decide +kernel
theorem dX9_together_95 : decode cX9_together 95 = .ok (.iconst 1, 1) := by decide +kernel
theorem dX9_together_96 : decode cX9_together 96 = .ok (.if_icmp .ne 8, 3) := by decide +kernel
theorem dX9_together_104 : decode cX9_together 104 = .ok (.lconst 1, 1) := by decide +kernel
theorem dX9_together_105 : decode cX9_together 105 = .ok (.iload_n 3, 1) := by decide +kernel
theorem dX9_together_106 : decode cX9_together 106 = .ok (.lshl, 1) := by decide +kernel
theorem dX9_together_107 : decode cX9_together 107 = .ok (.lastore, 1) := by decide +kernel
theorem dX9_together_108 : decode cX9_together 108 = .ok (.iinc 3 1, 3) := by decide +kernel
theorem dX9_together_111 : decode cX9_together 111 = .ok (.goto (-38), 3) := by decide +kernel
theorem dX9_together_114 : decode cX9_together 114 = .ok (.iconst 1, 1) := by decide +kernel
theorem dX9_together_115 : decode cX9_together 115 = .ok (.ireturn, 1) := by decide +kernel
set_option maxHeartbeats 4000000 in
set_option maxRecDepth 100000 in
theorem c_X9_together (l : Launch) (G : xG) (m0 : Nat) (ma : Nat → Nat) (p0 : Int32)  : xWi l G yX9_together cX9_together 4 (some .boolean) 1 21 0 0 [.ref m0, .int p0] [(m0, .inr (9, [.int 0, .int 0, .int 0, .int (-1), .ref (ma 4), .ref (ma 5), .ref (ma 6), .ref (ma 7), .ref (ma 8), .ref (ma 9), .ref (ma 10), .ref (ma 11), .ref (ma 12), .ref (ma 13), .ref (ma 14), .ref (ma 15), .ref (ma 16), .ref (ma 17), .ref (ma 18), .ref (ma 19), .int 0, .ref (ma 21), .ref (ma 22), .ref (ma 23), .ref (ma 24), .ref (ma 25), .ref (ma 26), .ref (ma 27), .ref (ma 28), .ref (ma 29), .ref (ma 30), .ref (ma 31), .ref (ma 32), .ref (ma 33), .ref (ma 34), .ref (ma 35), .ref (ma 36), .ref (ma 37), .int 0, .ref (ma 39), .ref (ma 40), .ref (ma 41), .ref (ma 42), .ref (ma 43), .ref (ma 44), .ref (ma 45), .ref (ma 46), .ref (ma 47), .ref (ma 48), .int 0, .int 0, .int 0, .int 0, .int 0, .int 0, .int 0, .long 0, .int 0, .long 0, .long 0, .long 0, .long 0, .int 0, .int 0, .int 0, .int 0, .long 0])), (ma 39, .inl (G.2 0, 6, .inl (fun _ => 0))), (ma 11, .inl (G.2 4, 96, .inr (.inl (fun _ => 0))))] (S := Unit) (fun r _ => (r = 1 ∧ xtg p0) ∨ (r = 0 ∧ ¬ xtg p0)) (fun _ => []) := by
  intro sz
  refine xstart (by decide) (Nat.le_of_ble_eq_true rfl) (fun p e s m args below meth c ls C0 hr hlocks hin hsz hP hK hD hN hl => ?_)
  obtain ⟨hx, hb, hml, hown, htl⟩ := id C0
  subst hsz
  have hD := hD.self (sz := s.heap.size)
  generalize hAe : va_A [(m0, .inr (9, [.int 0, .int 0, .int 0, .int (-1), .ref (ma 4), .ref (ma 5), .ref (ma 6), .ref (ma 7), .ref (ma 8), .ref (ma 9), .ref (ma 10), .ref (ma 11), .ref (ma 12), .ref (ma 13), .ref (ma 14), .ref (ma 15), .ref (ma 16), .ref (ma 17), .ref (ma 18), .ref (ma 19), .int 0, .ref (ma 21), .ref (ma 22), .ref (ma 23), .ref (ma 24), .ref (ma 25), .ref (ma 26), .ref (ma 27), .ref (ma 28), .ref (ma 29), .ref (ma 30), .ref (ma 31), .ref (ma 32), .ref (ma 33), .ref (ma 34), .ref (ma 35), .ref (ma 36), .ref (ma 37), .int 0, .ref (ma 39), .ref (ma 40), .ref (ma 41), .ref (ma 42), .ref (ma 43), .ref (ma 44), .ref (ma 45), .ref (ma 46), .ref (ma 47), .ref (ma 48), .int 0, .int 0, .int 0, .int 0, .int 0, .int 0, .int 0, .long 0, .int 0, .long 0, .long 0, .long 0, .long 0, .int 0, .int 0, .int 0, .int 0, .long 0])), (ma 39, .inl (G.2 0, 6, .inl (fun _ => 0))), (ma 11, .inl (G.2 4, 96, .inr (.inl (fun _ => 0))))] s.heap.size = A at hD ⊢
  have hA : ∀ q : Nat, s.heap.size ≤ q → A q := fun q h => by rw [← hAe]; exact Or.inr h
  have hS : va_S A s.heap s.heap [] := va_S.rf
  have hl : lv_has ls 4 [(0, .ref m0), (1, .int p0)] := hl
  refine lv_aload_n hx hb dX9_together_0 rfl (lv_at hl 0 rfl) ?_
  refine lv_iconst (v := 0) hx hb dX9_together_1 (by decide) ?_
  refine va_put (D := G.1) (ci := 9) (v := .int 0) (ty := .int) (C := RX9) (T := TX9) (N := 67) hx hb htl inlX9 tyX9 tyX9_ok nmX9 hown hK hP hD hS 0 rfl rfl 38 (by decide) (htl (.fieldLink RX9 147 "LaytimeDeskModel" "reason" "I") mW175) (fun _ h9 => h9) rfl (by decide +kernel) rfl rfl (Nat.le_of_ble_eq_true rfl) dX9_together_2 (fun H locs hP hD hS => ?_)
  have hP : va_P G.1 xcl [(m0, .inr (9, [.int 0, .int 0, .int 0, .int (-1), .ref (ma 4), .ref (ma 5), .ref (ma 6), .ref (ma 7), .ref (ma 8), .ref (ma 9), .ref (ma 10), .ref (ma 11), .ref (ma 12), .ref (ma 13), .ref (ma 14), .ref (ma 15), .ref (ma 16), .ref (ma 17), .ref (ma 18), .ref (ma 19), .int 0, .ref (ma 21), .ref (ma 22), .ref (ma 23), .ref (ma 24), .ref (ma 25), .ref (ma 26), .ref (ma 27), .ref (ma 28), .ref (ma 29), .ref (ma 30), .ref (ma 31), .ref (ma 32), .ref (ma 33), .ref (ma 34), .ref (ma 35), .ref (ma 36), .ref (ma 37), .int 0, .ref (ma 39), .ref (ma 40), .ref (ma 41), .ref (ma 42), .ref (ma 43), .ref (ma 44), .ref (ma 45), .ref (ma 46), .ref (ma 47), .ref (ma 48), .int 0, .int 0, .int 0, .int 0, .int 0, .int 0, .int 0, .long 0, .int 0, .long 0, .long 0, .long 0, .long 0, .int 0, .int 0, .int 0, .int 0, .long 0])), (ma 39, .inl (G.2 0, 6, .inl (fun _ => 0))), (ma 11, .inl (G.2 4, 96, .inr (.inl (fun _ => 0))))] H := hP
  have hD : va_D A [(m0, .inr (9, [.int 0, .int 0, .int 0, .int (-1), .ref (ma 4), .ref (ma 5), .ref (ma 6), .ref (ma 7), .ref (ma 8), .ref (ma 9), .ref (ma 10), .ref (ma 11), .ref (ma 12), .ref (ma 13), .ref (ma 14), .ref (ma 15), .ref (ma 16), .ref (ma 17), .ref (ma 18), .ref (ma 19), .int 0, .ref (ma 21), .ref (ma 22), .ref (ma 23), .ref (ma 24), .ref (ma 25), .ref (ma 26), .ref (ma 27), .ref (ma 28), .ref (ma 29), .ref (ma 30), .ref (ma 31), .ref (ma 32), .ref (ma 33), .ref (ma 34), .ref (ma 35), .ref (ma 36), .ref (ma 37), .int 0, .ref (ma 39), .ref (ma 40), .ref (ma 41), .ref (ma 42), .ref (ma 43), .ref (ma 44), .ref (ma 45), .ref (ma 46), .ref (ma 47), .ref (ma 48), .int 0, .int 0, .int 0, .int 0, .int 0, .int 0, .int 0, .long 0, .int 0, .long 0, .long 0, .long 0, .long 0, .int 0, .int 0, .int 0, .int 0, .long 0])), (ma 39, .inl (G.2 0, 6, .inl (fun _ => 0))), (ma 11, .inl (G.2 4, 96, .inr (.inl (fun _ => 0))))] := hD
  refine lv_iload_n hx hb dX9_together_5 rfl (lv_at hl 1 rfl) ?_
  refine lv_if_lt (tgt := 16) hx hb dX9_together_6 (by decide) (fun c_1 => ?_) (fun c_1 => ?_)
  · refine lv_iconst (v := 1) hx hb dX9_together_16 (by decide) ?_
    refine lv_goto (tgt := 21) hx hb dX9_together_17 (by decide) ?_
    refine lv_istore_n (lv' := [(2, .int 1), (0, .ref m0), (1, .int p0)]) hx hb dX9_together_21 rfl hl (by decide) rfl (fun ls hl => ?_)
    refine lv_iconst (v := 0) hx hb dX9_together_22 (by decide) ?_
    refine lv_istore_n (lv' := [(3, .int 0), (2, .int 1), (0, .ref m0), (1, .int p0)]) hx hb dX9_together_23 rfl hl (by decide) rfl (fun ls hl => ?_)
    refine lv_iload_n hx hb dX9_together_24 rfl (lv_at hl 1 rfl) ?_
    refine lv_if_ne (tgt := 59) hx hb dX9_together_25 (by decide) (fun c_2 => ?_) (fun c_2 => absurd c_2 (by decide +kernel))
    refine lv_iload_n hx hb dX9_together_59 rfl (lv_at hl 1 rfl) ?_
    refine lv_if_eq (tgt := 71) hx hb dX9_together_60 (by decide) (fun c_3 => absurd c_3 (by decide +kernel)) (fun c_3 => ?_)
    refine lv_aload_n hx hb dX9_together_63 rfl (lv_at hl 2 rfl) ?_
    refine lv_iload_n hx hb dX9_together_64 rfl (lv_at hl 1 rfl) ?_
    refine xVwi (rq := 0) (ci := 9) (wc := [(m0, .inr (9, [.int 0, .int 0, .int 0, .int (-1), .ref (ma 4), .ref (ma 5), .ref (ma 6), .ref (ma 7), .ref (ma 8), .ref (ma 9), .ref (ma 10), .ref (ma 11), .ref (ma 12), .ref (ma 13), .ref (ma 14), .ref (ma 15), .ref (ma 16), .ref (ma 17), .ref (ma 18), .ref (ma 19), .int 0, .ref (ma 21), .ref (ma 22), .ref (ma 23), .ref (ma 24), .ref (ma 25), .ref (ma 26), .ref (ma 27), .ref (ma 28), .ref (ma 29), .ref (ma 30), .ref (ma 31), .ref (ma 32), .ref (ma 33), .ref (ma 34), .ref (ma 35), .ref (ma 36), .ref (ma 37), .int 0, .ref (ma 39), .ref (ma 40), .ref (ma 41), .ref (ma 42), .ref (ma 43), .ref (ma 44), .ref (ma 45), .ref (ma 46), .ref (ma 47), .ref (ma 48), .int 0, .int 0, .int 0, .int 0, .int 0, .int 0, .int 0, .long 0, .int 0, .long 0, .long 0, .long 0, .long 0, .int 0, .int 0, .int 0, .int 0, .long 0])), (ma 39, .inl (G.2 0, 6, .inl (fun _ => 0)))]) (wr := [(ma 11, .inl (G.2 4, 96, .inr (.inl (fun _ => 0))))]) (As := [.int 1]) (rest := []) C0 (c_X9_no l G m0 ma 1 (by unfold vp_in; decide +kernel)) ok_X9_no (mW177 : Cond.methodLink RX9 168 yX9_no ∈ wsT) ⟨Nat.le_of_ble_eq_true rfl, Nat.le_of_ble_eq_true rfl⟩ hP hD hS hA hK hN [0, 1] [2] rfl rfl (by decide) (by decide) (by decide) rfl rfl rfl rfl hl.1 rfl (Nat.le_of_ble_eq_true rfl) ⟨Nat.le_of_ble_eq_true rfl, Nat.le_of_ble_eq_true rfl⟩ dX9_together_65 (fun r_4 u_5 H locs hr_4 hP hD hS => ?_)
    have hP : va_P G.1 xcl [(ma 11, .inl (G.2 4, 96, .inr (.inl (fun _ => 0))))] H := hP
    have hD : va_D A [(ma 11, .inl (G.2 4, 96, .inr (.inl (fun _ => 0))))] := hD
    obtain rfl : r_4 = (-1) := hr_4
    refine lv_pop hx hb dX9_together_68 rfl ?_
    refine lv_iconst (v := 0) hx hb dX9_together_69 (by decide) ?_
    have hP9 := hP.sub (ws' := []) [] rfl
    have hD9 := hD.sub (ws' := []) [] (by decide) rfl
    exact W.zret (v := 0) (ty := .boolean) hx hb hr rfl (fun t ht hW => ⟨⟨0, (), rfl, Or.inr ⟨rfl, fun h => h.1.1 c_1⟩, by rw [ht]; exact hP9, hD9⟩, hS.F ht⟩) hS.2.2 dX9_together_70
  · refine lv_iload_n hx hb dX9_together_9 rfl (lv_at hl 1 rfl) ?_
    refine lv_sipush (v := 255) hx hb dX9_together_10 (by decide) ?_
    refine lv_icmp_le (tgt := 20) hx hb dX9_together_13 (by decide) (fun c_6 => ?_) (fun c_6 => ?_)
    · refine lv_iconst (v := 0) hx hb dX9_together_20 (by decide) ?_
      refine lv_istore_n (lv' := [(2, .int 0), (0, .ref m0), (1, .int p0)]) hx hb dX9_together_21 rfl hl (by decide) rfl (fun ls hl => ?_)
      refine lv_iconst (v := 0) hx hb dX9_together_22 (by decide) ?_
      refine lv_istore_n (lv' := [(3, .int 0), (2, .int 0), (0, .ref m0), (1, .int p0)]) hx hb dX9_together_23 rfl hl (by decide) rfl (fun ls hl => ?_)
      refine lv_iload_n hx hb dX9_together_24 rfl (lv_at hl 1 rfl) ?_
      refine lv_if_ne (tgt := 59) hx hb dX9_together_25 (by decide) (fun c_7 => absurd c_7 (by decide +kernel)) (fun c_7 => ?_)
      refine lv_iload_n hx hb dX9_together_28 rfl (lv_at hl 0 rfl) ?_
      refine lv_bipush (v := 8) hx hb dX9_together_29 (by decide) ?_
      refine lv_icmp_ge (tgt := 59) hx hb dX9_together_31 (by decide) (fun c_8 => absurd c_8 (by decide +kernel)) (fun c_8 => ?_)
      refine lv_iload_n hx hb dX9_together_34 rfl (lv_at hl 3 rfl) ?_
      refine lv_iload_n hx hb dX9_together_35 rfl (lv_at hl 0 rfl) ?_
      refine lv_ishr hx hb dX9_together_36 ?_
      refine lv_topi (fun z_9 ez_9 => ?_)
      refine lv_iconst (v := 1) hx hb dX9_together_37 (by decide) ?_
      refine lv_iand hx hb dX9_together_38 ?_
      refine lv_topi (fun z_10 ez_10 => ?_)
      refine lv_iconst (v := 1) hx hb dX9_together_39 (by decide) ?_
      refine lv_icmp_ne (tgt := 53) hx hb dX9_together_40 (by decide) (fun c_11 => ?_) (fun c_11 => ?_)
      · refine lv_iinc (v := 1) (lv' := [(3, .int 1), (2, .int 0), (0, .ref m0), (1, .int p0)]) hx hb dX9_together_53 hl (k := 0) rfl (by decide +kernel) (by decide) rfl (fun ls hl => ?_)
        refine lv_goto (tgt := 24) hx hb dX9_together_56 (by decide) ?_
        refine lv_iload_n hx hb dX9_together_24 rfl (lv_at hl 1 rfl) ?_
        refine lv_if_ne (tgt := 59) hx hb dX9_together_25 (by decide) (fun c_13 => absurd c_13 (by decide +kernel)) (fun c_13 => ?_)
        refine lv_iload_n hx hb dX9_together_28 rfl (lv_at hl 0 rfl) ?_
        refine lv_bipush (v := 8) hx hb dX9_together_29 (by decide) ?_
        refine lv_icmp_ge (tgt := 59) hx hb dX9_together_31 (by decide) (fun c_14 => absurd c_14 (by decide +kernel)) (fun c_14 => ?_)
        refine lv_iload_n hx hb dX9_together_34 rfl (lv_at hl 3 rfl) ?_
        refine lv_iload_n hx hb dX9_together_35 rfl (lv_at hl 0 rfl) ?_
        refine lv_ishr hx hb dX9_together_36 ?_
        refine lv_topi (fun z_15 ez_15 => ?_)
        refine lv_iconst (v := 1) hx hb dX9_together_37 (by decide) ?_
        refine lv_iand hx hb dX9_together_38 ?_
        refine lv_topi (fun z_16 ez_16 => ?_)
        refine lv_iconst (v := 1) hx hb dX9_together_39 (by decide) ?_
        refine lv_icmp_ne (tgt := 53) hx hb dX9_together_40 (by decide) (fun c_17 => ?_) (fun c_17 => ?_)
        · refine lv_iinc (v := 2) (lv' := [(3, .int 2), (2, .int 0), (0, .ref m0), (1, .int p0)]) hx hb dX9_together_53 hl (k := 0) rfl (by decide +kernel) (by decide) rfl (fun ls hl => ?_)
          refine lv_goto (tgt := 24) hx hb dX9_together_56 (by decide) ?_
          refine lv_iload_n hx hb dX9_together_24 rfl (lv_at hl 1 rfl) ?_
          refine lv_if_ne (tgt := 59) hx hb dX9_together_25 (by decide) (fun c_19 => absurd c_19 (by decide +kernel)) (fun c_19 => ?_)
          refine lv_iload_n hx hb dX9_together_28 rfl (lv_at hl 0 rfl) ?_
          refine lv_bipush (v := 8) hx hb dX9_together_29 (by decide) ?_
          refine lv_icmp_ge (tgt := 59) hx hb dX9_together_31 (by decide) (fun c_20 => absurd c_20 (by decide +kernel)) (fun c_20 => ?_)
          refine lv_iload_n hx hb dX9_together_34 rfl (lv_at hl 3 rfl) ?_
          refine lv_iload_n hx hb dX9_together_35 rfl (lv_at hl 0 rfl) ?_
          refine lv_ishr hx hb dX9_together_36 ?_
          refine lv_topi (fun z_21 ez_21 => ?_)
          refine lv_iconst (v := 1) hx hb dX9_together_37 (by decide) ?_
          refine lv_iand hx hb dX9_together_38 ?_
          refine lv_topi (fun z_22 ez_22 => ?_)
          refine lv_iconst (v := 1) hx hb dX9_together_39 (by decide) ?_
          refine lv_icmp_ne (tgt := 53) hx hb dX9_together_40 (by decide) (fun c_23 => ?_) (fun c_23 => ?_)
          · refine lv_iinc (v := 3) (lv' := [(3, .int 3), (2, .int 0), (0, .ref m0), (1, .int p0)]) hx hb dX9_together_53 hl (k := 0) rfl (by decide +kernel) (by decide) rfl (fun ls hl => ?_)
            refine lv_goto (tgt := 24) hx hb dX9_together_56 (by decide) ?_
            refine lv_iload_n hx hb dX9_together_24 rfl (lv_at hl 1 rfl) ?_
            refine lv_if_ne (tgt := 59) hx hb dX9_together_25 (by decide) (fun c_25 => absurd c_25 (by decide +kernel)) (fun c_25 => ?_)
            refine lv_iload_n hx hb dX9_together_28 rfl (lv_at hl 0 rfl) ?_
            refine lv_bipush (v := 8) hx hb dX9_together_29 (by decide) ?_
            refine lv_icmp_ge (tgt := 59) hx hb dX9_together_31 (by decide) (fun c_26 => absurd c_26 (by decide +kernel)) (fun c_26 => ?_)
            refine lv_iload_n hx hb dX9_together_34 rfl (lv_at hl 3 rfl) ?_
            refine lv_iload_n hx hb dX9_together_35 rfl (lv_at hl 0 rfl) ?_
            refine lv_ishr hx hb dX9_together_36 ?_
            refine lv_topi (fun z_27 ez_27 => ?_)
            refine lv_iconst (v := 1) hx hb dX9_together_37 (by decide) ?_
            refine lv_iand hx hb dX9_together_38 ?_
            refine lv_topi (fun z_28 ez_28 => ?_)
            refine lv_iconst (v := 1) hx hb dX9_together_39 (by decide) ?_
            refine lv_icmp_ne (tgt := 53) hx hb dX9_together_40 (by decide) (fun c_29 => ?_) (fun c_29 => ?_)
            · refine lv_iinc (v := 4) (lv' := [(3, .int 4), (2, .int 0), (0, .ref m0), (1, .int p0)]) hx hb dX9_together_53 hl (k := 0) rfl (by decide +kernel) (by decide) rfl (fun ls hl => ?_)
              refine lv_goto (tgt := 24) hx hb dX9_together_56 (by decide) ?_
              refine lv_iload_n hx hb dX9_together_24 rfl (lv_at hl 1 rfl) ?_
              refine lv_if_ne (tgt := 59) hx hb dX9_together_25 (by decide) (fun c_31 => absurd c_31 (by decide +kernel)) (fun c_31 => ?_)
              refine lv_iload_n hx hb dX9_together_28 rfl (lv_at hl 0 rfl) ?_
              refine lv_bipush (v := 8) hx hb dX9_together_29 (by decide) ?_
              refine lv_icmp_ge (tgt := 59) hx hb dX9_together_31 (by decide) (fun c_32 => absurd c_32 (by decide +kernel)) (fun c_32 => ?_)
              refine lv_iload_n hx hb dX9_together_34 rfl (lv_at hl 3 rfl) ?_
              refine lv_iload_n hx hb dX9_together_35 rfl (lv_at hl 0 rfl) ?_
              refine lv_ishr hx hb dX9_together_36 ?_
              refine lv_topi (fun z_33 ez_33 => ?_)
              refine lv_iconst (v := 1) hx hb dX9_together_37 (by decide) ?_
              refine lv_iand hx hb dX9_together_38 ?_
              refine lv_topi (fun z_34 ez_34 => ?_)
              refine lv_iconst (v := 1) hx hb dX9_together_39 (by decide) ?_
              refine lv_icmp_ne (tgt := 53) hx hb dX9_together_40 (by decide) (fun c_35 => ?_) (fun c_35 => ?_)
              · refine lv_iinc (v := 5) (lv' := [(3, .int 5), (2, .int 0), (0, .ref m0), (1, .int p0)]) hx hb dX9_together_53 hl (k := 0) rfl (by decide +kernel) (by decide) rfl (fun ls hl => ?_)
                refine lv_goto (tgt := 24) hx hb dX9_together_56 (by decide) ?_
                refine lv_iload_n hx hb dX9_together_24 rfl (lv_at hl 1 rfl) ?_
                refine lv_if_ne (tgt := 59) hx hb dX9_together_25 (by decide) (fun c_37 => absurd c_37 (by decide +kernel)) (fun c_37 => ?_)
                refine lv_iload_n hx hb dX9_together_28 rfl (lv_at hl 0 rfl) ?_
                refine lv_bipush (v := 8) hx hb dX9_together_29 (by decide) ?_
                refine lv_icmp_ge (tgt := 59) hx hb dX9_together_31 (by decide) (fun c_38 => absurd c_38 (by decide +kernel)) (fun c_38 => ?_)
                refine lv_iload_n hx hb dX9_together_34 rfl (lv_at hl 3 rfl) ?_
                refine lv_iload_n hx hb dX9_together_35 rfl (lv_at hl 0 rfl) ?_
                refine lv_ishr hx hb dX9_together_36 ?_
                refine lv_topi (fun z_39 ez_39 => ?_)
                refine lv_iconst (v := 1) hx hb dX9_together_37 (by decide) ?_
                refine lv_iand hx hb dX9_together_38 ?_
                refine lv_topi (fun z_40 ez_40 => ?_)
                refine lv_iconst (v := 1) hx hb dX9_together_39 (by decide) ?_
                refine lv_icmp_ne (tgt := 53) hx hb dX9_together_40 (by decide) (fun c_41 => ?_) (fun c_41 => ?_)
                · refine lv_iinc (v := 6) (lv' := [(3, .int 6), (2, .int 0), (0, .ref m0), (1, .int p0)]) hx hb dX9_together_53 hl (k := 0) rfl (by decide +kernel) (by decide) rfl (fun ls hl => ?_)
                  refine lv_goto (tgt := 24) hx hb dX9_together_56 (by decide) ?_
                  refine lv_iload_n hx hb dX9_together_24 rfl (lv_at hl 1 rfl) ?_
                  refine lv_if_ne (tgt := 59) hx hb dX9_together_25 (by decide) (fun c_43 => absurd c_43 (by decide +kernel)) (fun c_43 => ?_)
                  refine lv_iload_n hx hb dX9_together_28 rfl (lv_at hl 0 rfl) ?_
                  refine lv_bipush (v := 8) hx hb dX9_together_29 (by decide) ?_
                  refine lv_icmp_ge (tgt := 59) hx hb dX9_together_31 (by decide) (fun c_44 => absurd c_44 (by decide +kernel)) (fun c_44 => ?_)
                  refine lv_iload_n hx hb dX9_together_34 rfl (lv_at hl 3 rfl) ?_
                  refine lv_iload_n hx hb dX9_together_35 rfl (lv_at hl 0 rfl) ?_
                  refine lv_ishr hx hb dX9_together_36 ?_
                  refine lv_topi (fun z_45 ez_45 => ?_)
                  refine lv_iconst (v := 1) hx hb dX9_together_37 (by decide) ?_
                  refine lv_iand hx hb dX9_together_38 ?_
                  refine lv_topi (fun z_46 ez_46 => ?_)
                  refine lv_iconst (v := 1) hx hb dX9_together_39 (by decide) ?_
                  refine lv_icmp_ne (tgt := 53) hx hb dX9_together_40 (by decide) (fun c_47 => ?_) (fun c_47 => ?_)
                  · refine lv_iinc (v := 7) (lv' := [(3, .int 7), (2, .int 0), (0, .ref m0), (1, .int p0)]) hx hb dX9_together_53 hl (k := 0) rfl (by decide +kernel) (by decide) rfl (fun ls hl => ?_)
                    refine lv_goto (tgt := 24) hx hb dX9_together_56 (by decide) ?_
                    refine lv_iload_n hx hb dX9_together_24 rfl (lv_at hl 1 rfl) ?_
                    refine lv_if_ne (tgt := 59) hx hb dX9_together_25 (by decide) (fun c_49 => absurd c_49 (by decide +kernel)) (fun c_49 => ?_)
                    refine lv_iload_n hx hb dX9_together_28 rfl (lv_at hl 0 rfl) ?_
                    refine lv_bipush (v := 8) hx hb dX9_together_29 (by decide) ?_
                    refine lv_icmp_ge (tgt := 59) hx hb dX9_together_31 (by decide) (fun c_50 => absurd c_50 (by decide +kernel)) (fun c_50 => ?_)
                    refine lv_iload_n hx hb dX9_together_34 rfl (lv_at hl 3 rfl) ?_
                    refine lv_iload_n hx hb dX9_together_35 rfl (lv_at hl 0 rfl) ?_
                    refine lv_ishr hx hb dX9_together_36 ?_
                    refine lv_topi (fun z_51 ez_51 => ?_)
                    refine lv_iconst (v := 1) hx hb dX9_together_37 (by decide) ?_
                    refine lv_iand hx hb dX9_together_38 ?_
                    refine lv_topi (fun z_52 ez_52 => ?_)
                    refine lv_iconst (v := 1) hx hb dX9_together_39 (by decide) ?_
                    refine lv_icmp_ne (tgt := 53) hx hb dX9_together_40 (by decide) (fun c_53 => ?_) (fun c_53 => ?_)
                    · refine lv_iinc (v := 8) (lv' := [(3, .int 8), (2, .int 0), (0, .ref m0), (1, .int p0)]) hx hb dX9_together_53 hl (k := 0) rfl (by decide +kernel) (by decide) rfl (fun ls hl => ?_)
                      refine lv_goto (tgt := 24) hx hb dX9_together_56 (by decide) ?_
                      refine lv_iload_n hx hb dX9_together_24 rfl (lv_at hl 1 rfl) ?_
                      refine lv_if_ne (tgt := 59) hx hb dX9_together_25 (by decide) (fun c_55 => absurd c_55 (by decide +kernel)) (fun c_55 => ?_)
                      refine lv_iload_n hx hb dX9_together_28 rfl (lv_at hl 0 rfl) ?_
                      refine lv_bipush (v := 8) hx hb dX9_together_29 (by decide) ?_
                      refine lv_icmp_ge (tgt := 59) hx hb dX9_together_31 (by decide) (fun c_56 => ?_) (fun c_56 => absurd c_56 (by decide +kernel))
                      refine lv_iload_n hx hb dX9_together_59 rfl (lv_at hl 1 rfl) ?_
                      refine lv_if_eq (tgt := 71) hx hb dX9_together_60 (by decide) (fun c_57 => ?_) (fun c_57 => absurd c_57 (by decide +kernel))
                      refine lv_iconst (v := 0) hx hb dX9_together_71 (by decide) ?_
                      refine lv_istore_n (lv' := [(3, .int 0), (2, .int 0), (0, .ref m0), (1, .int p0)]) hx hb dX9_together_72 rfl hl (by decide) rfl (fun ls hl => ?_)
                      refine lv_iload_n hx hb dX9_together_73 rfl (lv_at hl 0 rfl) ?_
                      refine lv_bipush (v := 8) hx hb dX9_together_74 (by decide) ?_
                      refine lv_icmp_ge (tgt := 114) hx hb dX9_together_76 (by decide) (fun c_58 => absurd c_58 (by decide +kernel)) (fun c_58 => ?_)
                      refine lv_aload_n hx hb dX9_together_79 rfl (lv_at hl 2 rfl) ?_
                      refine va_get (D := G.1) (ci := 9) (v := .ref (ma 11)) (C := RX9) (T := TX9) (N := 67) hx hb htl inlX9 hown hK hP 0 rfl rfl 11 (by decide) (htl (.fieldLink RX9 36 "LaytimeDeskModel" "ports" "[J") mW116) (fun _ h9 => h9) rfl dX9_together_80 ?_
                      refine lv_bipush (v := 12) hx hb dX9_together_83 (by decide) ?_
                      refine lv_iload_n hx hb dX9_together_85 rfl (lv_at hl 0 rfl) ?_
                      refine lv_imul hx hb dX9_together_86 ?_
                      refine lv_topi (fun z_59 ez_59 => ?_)
                      obtain rfl : z_59 = 0 := ez_59.trans (by first | rfl | decide +kernel)
                      refine lv_bipush (v := 10) hx hb dX9_together_87 (by decide) ?_
                      refine lv_iadd hx hb dX9_together_89 ?_
                      refine lv_topi (fun z_60 ez_60 => ?_)
                      obtain rfl : z_60 = 10 := ez_60.trans (by first | rfl | decide +kernel)
                      refine lv_iload_n hx hb dX9_together_90 rfl (lv_at hl 3 rfl) ?_
                      refine lv_iload_n hx hb dX9_together_91 rfl (lv_at hl 0 rfl) ?_
                      refine lv_ishr hx hb dX9_together_92 ?_
                      refine lv_topi (fun z_61 ez_61 => ?_)
                      refine lv_iconst (v := 1) hx hb dX9_together_93 (by decide) ?_
                      refine lv_iand hx hb dX9_together_94 ?_
                      refine lv_topi (fun z_62 ez_62 => ?_)
                      refine lv_iconst (v := 1) hx hb dX9_together_95 (by decide) ?_
                      refine lv_icmp_ne (tgt := 104) hx hb dX9_together_96 (by decide) (fun c_63 => ?_) (fun c_63 => absurd (show z_10 = 1 by rw [ez_10, ez_9]; have h := c_63; rw [ez_62, ez_61] at h; exact h) c_11)
                      refine lv_lconst (v := 1) hx hb dX9_together_104 (by decide) ?_
                      refine lv_iload_n hx hb dX9_together_105 rfl (lv_at hl 0 rfl) ?_
                      refine lv_lshl hx hb dX9_together_106 rfl ?_
                      refine lv_topl (fun z_64 ez_64 => ?_)
                      refine va_last hx hb hK hP hD hS 2 4 rfl rfl (by unfold vp_in; decide +kernel) dX9_together_107 (fun H locs hP hD hS => ?_)
                      obtain ⟨g_65, eg_65⟩ : ∃ z : Nat → Int64, z = (vp_updL (fun _ => 0) (10 : Int32).toNatClampNeg z_64) := ⟨_, rfl⟩
                      have hP : va_P G.1 xcl [(m0, .inr (9, [.int 0, .int 0, .int 0, .int (-1), .ref (ma 4), .ref (ma 5), .ref (ma 6), .ref (ma 7), .ref (ma 8), .ref (ma 9), .ref (ma 10), .ref (ma 11), .ref (ma 12), .ref (ma 13), .ref (ma 14), .ref (ma 15), .ref (ma 16), .ref (ma 17), .ref (ma 18), .ref (ma 19), .int 0, .ref (ma 21), .ref (ma 22), .ref (ma 23), .ref (ma 24), .ref (ma 25), .ref (ma 26), .ref (ma 27), .ref (ma 28), .ref (ma 29), .ref (ma 30), .ref (ma 31), .ref (ma 32), .ref (ma 33), .ref (ma 34), .ref (ma 35), .ref (ma 36), .ref (ma 37), .int 0, .ref (ma 39), .ref (ma 40), .ref (ma 41), .ref (ma 42), .ref (ma 43), .ref (ma 44), .ref (ma 45), .ref (ma 46), .ref (ma 47), .ref (ma 48), .int 0, .int 0, .int 0, .int 0, .int 0, .int 0, .int 0, .long 0, .int 0, .long 0, .long 0, .long 0, .long 0, .int 0, .int 0, .int 0, .int 0, .long 0])), (ma 39, .inl (G.2 0, 6, .inl (fun _ => 0))), (ma 11, .inl (G.2 4, 96, .inr (.inl g_65)))] H := by rw [eg_65]; exact hP
                      have hD : va_D A [(m0, .inr (9, [.int 0, .int 0, .int 0, .int (-1), .ref (ma 4), .ref (ma 5), .ref (ma 6), .ref (ma 7), .ref (ma 8), .ref (ma 9), .ref (ma 10), .ref (ma 11), .ref (ma 12), .ref (ma 13), .ref (ma 14), .ref (ma 15), .ref (ma 16), .ref (ma 17), .ref (ma 18), .ref (ma 19), .int 0, .ref (ma 21), .ref (ma 22), .ref (ma 23), .ref (ma 24), .ref (ma 25), .ref (ma 26), .ref (ma 27), .ref (ma 28), .ref (ma 29), .ref (ma 30), .ref (ma 31), .ref (ma 32), .ref (ma 33), .ref (ma 34), .ref (ma 35), .ref (ma 36), .ref (ma 37), .int 0, .ref (ma 39), .ref (ma 40), .ref (ma 41), .ref (ma 42), .ref (ma 43), .ref (ma 44), .ref (ma 45), .ref (ma 46), .ref (ma 47), .ref (ma 48), .int 0, .int 0, .int 0, .int 0, .int 0, .int 0, .int 0, .long 0, .int 0, .long 0, .long 0, .long 0, .long 0, .int 0, .int 0, .int 0, .int 0, .long 0])), (ma 39, .inl (G.2 0, 6, .inl (fun _ => 0))), (ma 11, .inl (G.2 4, 96, .inr (.inl g_65)))] := by rw [eg_65]; exact hD
                      refine lv_iinc (v := 1) (lv' := [(3, .int 1), (2, .int 0), (0, .ref m0), (1, .int p0)]) hx hb dX9_together_108 hl (k := 0) rfl (by decide +kernel) (by decide) rfl (fun ls hl => ?_)
                      refine lv_goto (tgt := 73) hx hb dX9_together_111 (by decide) ?_
                      refine lv_iload_n hx hb dX9_together_73 rfl (lv_at hl 0 rfl) ?_
                      refine lv_bipush (v := 8) hx hb dX9_together_74 (by decide) ?_
                      refine lv_icmp_ge (tgt := 114) hx hb dX9_together_76 (by decide) (fun c_67 => absurd c_67 (by decide +kernel)) (fun c_67 => ?_)
                      refine lv_aload_n hx hb dX9_together_79 rfl (lv_at hl 2 rfl) ?_
                      refine va_get (D := G.1) (ci := 9) (v := .ref (ma 11)) (C := RX9) (T := TX9) (N := 67) hx hb htl inlX9 hown hK hP 0 rfl rfl 11 (by decide) (htl (.fieldLink RX9 36 "LaytimeDeskModel" "ports" "[J") mW116) (fun _ h9 => h9) rfl dX9_together_80 ?_
                      refine lv_bipush (v := 12) hx hb dX9_together_83 (by decide) ?_
                      refine lv_iload_n hx hb dX9_together_85 rfl (lv_at hl 0 rfl) ?_
                      refine lv_imul hx hb dX9_together_86 ?_
                      refine lv_topi (fun z_68 ez_68 => ?_)
                      obtain rfl : z_68 = 12 := ez_68.trans (by first | rfl | decide +kernel)
                      refine lv_bipush (v := 10) hx hb dX9_together_87 (by decide) ?_
                      refine lv_iadd hx hb dX9_together_89 ?_
                      refine lv_topi (fun z_69 ez_69 => ?_)
                      obtain rfl : z_69 = 22 := ez_69.trans (by first | rfl | decide +kernel)
                      refine lv_iload_n hx hb dX9_together_90 rfl (lv_at hl 3 rfl) ?_
                      refine lv_iload_n hx hb dX9_together_91 rfl (lv_at hl 0 rfl) ?_
                      refine lv_ishr hx hb dX9_together_92 ?_
                      refine lv_topi (fun z_70 ez_70 => ?_)
                      refine lv_iconst (v := 1) hx hb dX9_together_93 (by decide) ?_
                      refine lv_iand hx hb dX9_together_94 ?_
                      refine lv_topi (fun z_71 ez_71 => ?_)
                      refine lv_iconst (v := 1) hx hb dX9_together_95 (by decide) ?_
                      refine lv_icmp_ne (tgt := 104) hx hb dX9_together_96 (by decide) (fun c_72 => ?_) (fun c_72 => absurd (show z_16 = 1 by rw [ez_16, ez_15]; have h := c_72; rw [ez_71, ez_70] at h; exact h) c_17)
                      refine lv_lconst (v := 1) hx hb dX9_together_104 (by decide) ?_
                      refine lv_iload_n hx hb dX9_together_105 rfl (lv_at hl 0 rfl) ?_
                      refine lv_lshl hx hb dX9_together_106 rfl ?_
                      refine lv_topl (fun z_73 ez_73 => ?_)
                      refine va_last hx hb hK hP hD hS 2 4 rfl rfl (by unfold vp_in; decide +kernel) dX9_together_107 (fun H locs hP hD hS => ?_)
                      obtain ⟨g_74, eg_74⟩ : ∃ z : Nat → Int64, z = (vp_updL g_65 (22 : Int32).toNatClampNeg z_73) := ⟨_, rfl⟩
                      have hP : va_P G.1 xcl [(m0, .inr (9, [.int 0, .int 0, .int 0, .int (-1), .ref (ma 4), .ref (ma 5), .ref (ma 6), .ref (ma 7), .ref (ma 8), .ref (ma 9), .ref (ma 10), .ref (ma 11), .ref (ma 12), .ref (ma 13), .ref (ma 14), .ref (ma 15), .ref (ma 16), .ref (ma 17), .ref (ma 18), .ref (ma 19), .int 0, .ref (ma 21), .ref (ma 22), .ref (ma 23), .ref (ma 24), .ref (ma 25), .ref (ma 26), .ref (ma 27), .ref (ma 28), .ref (ma 29), .ref (ma 30), .ref (ma 31), .ref (ma 32), .ref (ma 33), .ref (ma 34), .ref (ma 35), .ref (ma 36), .ref (ma 37), .int 0, .ref (ma 39), .ref (ma 40), .ref (ma 41), .ref (ma 42), .ref (ma 43), .ref (ma 44), .ref (ma 45), .ref (ma 46), .ref (ma 47), .ref (ma 48), .int 0, .int 0, .int 0, .int 0, .int 0, .int 0, .int 0, .long 0, .int 0, .long 0, .long 0, .long 0, .long 0, .int 0, .int 0, .int 0, .int 0, .long 0])), (ma 39, .inl (G.2 0, 6, .inl (fun _ => 0))), (ma 11, .inl (G.2 4, 96, .inr (.inl g_74)))] H := by rw [eg_74]; exact hP
                      have hD : va_D A [(m0, .inr (9, [.int 0, .int 0, .int 0, .int (-1), .ref (ma 4), .ref (ma 5), .ref (ma 6), .ref (ma 7), .ref (ma 8), .ref (ma 9), .ref (ma 10), .ref (ma 11), .ref (ma 12), .ref (ma 13), .ref (ma 14), .ref (ma 15), .ref (ma 16), .ref (ma 17), .ref (ma 18), .ref (ma 19), .int 0, .ref (ma 21), .ref (ma 22), .ref (ma 23), .ref (ma 24), .ref (ma 25), .ref (ma 26), .ref (ma 27), .ref (ma 28), .ref (ma 29), .ref (ma 30), .ref (ma 31), .ref (ma 32), .ref (ma 33), .ref (ma 34), .ref (ma 35), .ref (ma 36), .ref (ma 37), .int 0, .ref (ma 39), .ref (ma 40), .ref (ma 41), .ref (ma 42), .ref (ma 43), .ref (ma 44), .ref (ma 45), .ref (ma 46), .ref (ma 47), .ref (ma 48), .int 0, .int 0, .int 0, .int 0, .int 0, .int 0, .int 0, .long 0, .int 0, .long 0, .long 0, .long 0, .long 0, .int 0, .int 0, .int 0, .int 0, .long 0])), (ma 39, .inl (G.2 0, 6, .inl (fun _ => 0))), (ma 11, .inl (G.2 4, 96, .inr (.inl g_74)))] := by rw [eg_74]; exact hD
                      refine lv_iinc (v := 2) (lv' := [(3, .int 2), (2, .int 0), (0, .ref m0), (1, .int p0)]) hx hb dX9_together_108 hl (k := 0) rfl (by decide +kernel) (by decide) rfl (fun ls hl => ?_)
                      refine lv_goto (tgt := 73) hx hb dX9_together_111 (by decide) ?_
                      refine lv_iload_n hx hb dX9_together_73 rfl (lv_at hl 0 rfl) ?_
                      refine lv_bipush (v := 8) hx hb dX9_together_74 (by decide) ?_
                      refine lv_icmp_ge (tgt := 114) hx hb dX9_together_76 (by decide) (fun c_76 => absurd c_76 (by decide +kernel)) (fun c_76 => ?_)
                      refine lv_aload_n hx hb dX9_together_79 rfl (lv_at hl 2 rfl) ?_
                      refine va_get (D := G.1) (ci := 9) (v := .ref (ma 11)) (C := RX9) (T := TX9) (N := 67) hx hb htl inlX9 hown hK hP 0 rfl rfl 11 (by decide) (htl (.fieldLink RX9 36 "LaytimeDeskModel" "ports" "[J") mW116) (fun _ h9 => h9) rfl dX9_together_80 ?_
                      refine lv_bipush (v := 12) hx hb dX9_together_83 (by decide) ?_
                      refine lv_iload_n hx hb dX9_together_85 rfl (lv_at hl 0 rfl) ?_
                      refine lv_imul hx hb dX9_together_86 ?_
                      refine lv_topi (fun z_77 ez_77 => ?_)
                      obtain rfl : z_77 = 24 := ez_77.trans (by first | rfl | decide +kernel)
                      refine lv_bipush (v := 10) hx hb dX9_together_87 (by decide) ?_
                      refine lv_iadd hx hb dX9_together_89 ?_
                      refine lv_topi (fun z_78 ez_78 => ?_)
                      obtain rfl : z_78 = 34 := ez_78.trans (by first | rfl | decide +kernel)
                      refine lv_iload_n hx hb dX9_together_90 rfl (lv_at hl 3 rfl) ?_
                      refine lv_iload_n hx hb dX9_together_91 rfl (lv_at hl 0 rfl) ?_
                      refine lv_ishr hx hb dX9_together_92 ?_
                      refine lv_topi (fun z_79 ez_79 => ?_)
                      refine lv_iconst (v := 1) hx hb dX9_together_93 (by decide) ?_
                      refine lv_iand hx hb dX9_together_94 ?_
                      refine lv_topi (fun z_80 ez_80 => ?_)
                      refine lv_iconst (v := 1) hx hb dX9_together_95 (by decide) ?_
                      refine lv_icmp_ne (tgt := 104) hx hb dX9_together_96 (by decide) (fun c_81 => ?_) (fun c_81 => absurd (show z_22 = 1 by rw [ez_22, ez_21]; have h := c_81; rw [ez_80, ez_79] at h; exact h) c_23)
                      refine lv_lconst (v := 1) hx hb dX9_together_104 (by decide) ?_
                      refine lv_iload_n hx hb dX9_together_105 rfl (lv_at hl 0 rfl) ?_
                      refine lv_lshl hx hb dX9_together_106 rfl ?_
                      refine lv_topl (fun z_82 ez_82 => ?_)
                      refine va_last hx hb hK hP hD hS 2 4 rfl rfl (by unfold vp_in; decide +kernel) dX9_together_107 (fun H locs hP hD hS => ?_)
                      obtain ⟨g_83, eg_83⟩ : ∃ z : Nat → Int64, z = (vp_updL g_74 (34 : Int32).toNatClampNeg z_82) := ⟨_, rfl⟩
                      have hP : va_P G.1 xcl [(m0, .inr (9, [.int 0, .int 0, .int 0, .int (-1), .ref (ma 4), .ref (ma 5), .ref (ma 6), .ref (ma 7), .ref (ma 8), .ref (ma 9), .ref (ma 10), .ref (ma 11), .ref (ma 12), .ref (ma 13), .ref (ma 14), .ref (ma 15), .ref (ma 16), .ref (ma 17), .ref (ma 18), .ref (ma 19), .int 0, .ref (ma 21), .ref (ma 22), .ref (ma 23), .ref (ma 24), .ref (ma 25), .ref (ma 26), .ref (ma 27), .ref (ma 28), .ref (ma 29), .ref (ma 30), .ref (ma 31), .ref (ma 32), .ref (ma 33), .ref (ma 34), .ref (ma 35), .ref (ma 36), .ref (ma 37), .int 0, .ref (ma 39), .ref (ma 40), .ref (ma 41), .ref (ma 42), .ref (ma 43), .ref (ma 44), .ref (ma 45), .ref (ma 46), .ref (ma 47), .ref (ma 48), .int 0, .int 0, .int 0, .int 0, .int 0, .int 0, .int 0, .long 0, .int 0, .long 0, .long 0, .long 0, .long 0, .int 0, .int 0, .int 0, .int 0, .long 0])), (ma 39, .inl (G.2 0, 6, .inl (fun _ => 0))), (ma 11, .inl (G.2 4, 96, .inr (.inl g_83)))] H := by rw [eg_83]; exact hP
                      have hD : va_D A [(m0, .inr (9, [.int 0, .int 0, .int 0, .int (-1), .ref (ma 4), .ref (ma 5), .ref (ma 6), .ref (ma 7), .ref (ma 8), .ref (ma 9), .ref (ma 10), .ref (ma 11), .ref (ma 12), .ref (ma 13), .ref (ma 14), .ref (ma 15), .ref (ma 16), .ref (ma 17), .ref (ma 18), .ref (ma 19), .int 0, .ref (ma 21), .ref (ma 22), .ref (ma 23), .ref (ma 24), .ref (ma 25), .ref (ma 26), .ref (ma 27), .ref (ma 28), .ref (ma 29), .ref (ma 30), .ref (ma 31), .ref (ma 32), .ref (ma 33), .ref (ma 34), .ref (ma 35), .ref (ma 36), .ref (ma 37), .int 0, .ref (ma 39), .ref (ma 40), .ref (ma 41), .ref (ma 42), .ref (ma 43), .ref (ma 44), .ref (ma 45), .ref (ma 46), .ref (ma 47), .ref (ma 48), .int 0, .int 0, .int 0, .int 0, .int 0, .int 0, .int 0, .long 0, .int 0, .long 0, .long 0, .long 0, .long 0, .int 0, .int 0, .int 0, .int 0, .long 0])), (ma 39, .inl (G.2 0, 6, .inl (fun _ => 0))), (ma 11, .inl (G.2 4, 96, .inr (.inl g_83)))] := by rw [eg_83]; exact hD
                      refine lv_iinc (v := 3) (lv' := [(3, .int 3), (2, .int 0), (0, .ref m0), (1, .int p0)]) hx hb dX9_together_108 hl (k := 0) rfl (by decide +kernel) (by decide) rfl (fun ls hl => ?_)
                      refine lv_goto (tgt := 73) hx hb dX9_together_111 (by decide) ?_
                      refine lv_iload_n hx hb dX9_together_73 rfl (lv_at hl 0 rfl) ?_
                      refine lv_bipush (v := 8) hx hb dX9_together_74 (by decide) ?_
                      refine lv_icmp_ge (tgt := 114) hx hb dX9_together_76 (by decide) (fun c_85 => absurd c_85 (by decide +kernel)) (fun c_85 => ?_)
                      refine lv_aload_n hx hb dX9_together_79 rfl (lv_at hl 2 rfl) ?_
                      refine va_get (D := G.1) (ci := 9) (v := .ref (ma 11)) (C := RX9) (T := TX9) (N := 67) hx hb htl inlX9 hown hK hP 0 rfl rfl 11 (by decide) (htl (.fieldLink RX9 36 "LaytimeDeskModel" "ports" "[J") mW116) (fun _ h9 => h9) rfl dX9_together_80 ?_
                      refine lv_bipush (v := 12) hx hb dX9_together_83 (by decide) ?_
                      refine lv_iload_n hx hb dX9_together_85 rfl (lv_at hl 0 rfl) ?_
                      refine lv_imul hx hb dX9_together_86 ?_
                      refine lv_topi (fun z_86 ez_86 => ?_)
                      obtain rfl : z_86 = 36 := ez_86.trans (by first | rfl | decide +kernel)
                      refine lv_bipush (v := 10) hx hb dX9_together_87 (by decide) ?_
                      refine lv_iadd hx hb dX9_together_89 ?_
                      refine lv_topi (fun z_87 ez_87 => ?_)
                      obtain rfl : z_87 = 46 := ez_87.trans (by first | rfl | decide +kernel)
                      refine lv_iload_n hx hb dX9_together_90 rfl (lv_at hl 3 rfl) ?_
                      refine lv_iload_n hx hb dX9_together_91 rfl (lv_at hl 0 rfl) ?_
                      refine lv_ishr hx hb dX9_together_92 ?_
                      refine lv_topi (fun z_88 ez_88 => ?_)
                      refine lv_iconst (v := 1) hx hb dX9_together_93 (by decide) ?_
                      refine lv_iand hx hb dX9_together_94 ?_
                      refine lv_topi (fun z_89 ez_89 => ?_)
                      refine lv_iconst (v := 1) hx hb dX9_together_95 (by decide) ?_
                      refine lv_icmp_ne (tgt := 104) hx hb dX9_together_96 (by decide) (fun c_90 => ?_) (fun c_90 => absurd (show z_28 = 1 by rw [ez_28, ez_27]; have h := c_90; rw [ez_89, ez_88] at h; exact h) c_29)
                      refine lv_lconst (v := 1) hx hb dX9_together_104 (by decide) ?_
                      refine lv_iload_n hx hb dX9_together_105 rfl (lv_at hl 0 rfl) ?_
                      refine lv_lshl hx hb dX9_together_106 rfl ?_
                      refine lv_topl (fun z_91 ez_91 => ?_)
                      refine va_last hx hb hK hP hD hS 2 4 rfl rfl (by unfold vp_in; decide +kernel) dX9_together_107 (fun H locs hP hD hS => ?_)
                      obtain ⟨g_92, eg_92⟩ : ∃ z : Nat → Int64, z = (vp_updL g_83 (46 : Int32).toNatClampNeg z_91) := ⟨_, rfl⟩
                      have hP : va_P G.1 xcl [(m0, .inr (9, [.int 0, .int 0, .int 0, .int (-1), .ref (ma 4), .ref (ma 5), .ref (ma 6), .ref (ma 7), .ref (ma 8), .ref (ma 9), .ref (ma 10), .ref (ma 11), .ref (ma 12), .ref (ma 13), .ref (ma 14), .ref (ma 15), .ref (ma 16), .ref (ma 17), .ref (ma 18), .ref (ma 19), .int 0, .ref (ma 21), .ref (ma 22), .ref (ma 23), .ref (ma 24), .ref (ma 25), .ref (ma 26), .ref (ma 27), .ref (ma 28), .ref (ma 29), .ref (ma 30), .ref (ma 31), .ref (ma 32), .ref (ma 33), .ref (ma 34), .ref (ma 35), .ref (ma 36), .ref (ma 37), .int 0, .ref (ma 39), .ref (ma 40), .ref (ma 41), .ref (ma 42), .ref (ma 43), .ref (ma 44), .ref (ma 45), .ref (ma 46), .ref (ma 47), .ref (ma 48), .int 0, .int 0, .int 0, .int 0, .int 0, .int 0, .int 0, .long 0, .int 0, .long 0, .long 0, .long 0, .long 0, .int 0, .int 0, .int 0, .int 0, .long 0])), (ma 39, .inl (G.2 0, 6, .inl (fun _ => 0))), (ma 11, .inl (G.2 4, 96, .inr (.inl g_92)))] H := by rw [eg_92]; exact hP
                      have hD : va_D A [(m0, .inr (9, [.int 0, .int 0, .int 0, .int (-1), .ref (ma 4), .ref (ma 5), .ref (ma 6), .ref (ma 7), .ref (ma 8), .ref (ma 9), .ref (ma 10), .ref (ma 11), .ref (ma 12), .ref (ma 13), .ref (ma 14), .ref (ma 15), .ref (ma 16), .ref (ma 17), .ref (ma 18), .ref (ma 19), .int 0, .ref (ma 21), .ref (ma 22), .ref (ma 23), .ref (ma 24), .ref (ma 25), .ref (ma 26), .ref (ma 27), .ref (ma 28), .ref (ma 29), .ref (ma 30), .ref (ma 31), .ref (ma 32), .ref (ma 33), .ref (ma 34), .ref (ma 35), .ref (ma 36), .ref (ma 37), .int 0, .ref (ma 39), .ref (ma 40), .ref (ma 41), .ref (ma 42), .ref (ma 43), .ref (ma 44), .ref (ma 45), .ref (ma 46), .ref (ma 47), .ref (ma 48), .int 0, .int 0, .int 0, .int 0, .int 0, .int 0, .int 0, .long 0, .int 0, .long 0, .long 0, .long 0, .long 0, .int 0, .int 0, .int 0, .int 0, .long 0])), (ma 39, .inl (G.2 0, 6, .inl (fun _ => 0))), (ma 11, .inl (G.2 4, 96, .inr (.inl g_92)))] := by rw [eg_92]; exact hD
                      refine lv_iinc (v := 4) (lv' := [(3, .int 4), (2, .int 0), (0, .ref m0), (1, .int p0)]) hx hb dX9_together_108 hl (k := 0) rfl (by decide +kernel) (by decide) rfl (fun ls hl => ?_)
                      refine lv_goto (tgt := 73) hx hb dX9_together_111 (by decide) ?_
                      refine lv_iload_n hx hb dX9_together_73 rfl (lv_at hl 0 rfl) ?_
                      refine lv_bipush (v := 8) hx hb dX9_together_74 (by decide) ?_
                      refine lv_icmp_ge (tgt := 114) hx hb dX9_together_76 (by decide) (fun c_94 => absurd c_94 (by decide +kernel)) (fun c_94 => ?_)
                      refine lv_aload_n hx hb dX9_together_79 rfl (lv_at hl 2 rfl) ?_
                      refine va_get (D := G.1) (ci := 9) (v := .ref (ma 11)) (C := RX9) (T := TX9) (N := 67) hx hb htl inlX9 hown hK hP 0 rfl rfl 11 (by decide) (htl (.fieldLink RX9 36 "LaytimeDeskModel" "ports" "[J") mW116) (fun _ h9 => h9) rfl dX9_together_80 ?_
                      refine lv_bipush (v := 12) hx hb dX9_together_83 (by decide) ?_
                      refine lv_iload_n hx hb dX9_together_85 rfl (lv_at hl 0 rfl) ?_
                      refine lv_imul hx hb dX9_together_86 ?_
                      refine lv_topi (fun z_95 ez_95 => ?_)
                      obtain rfl : z_95 = 48 := ez_95.trans (by first | rfl | decide +kernel)
                      refine lv_bipush (v := 10) hx hb dX9_together_87 (by decide) ?_
                      refine lv_iadd hx hb dX9_together_89 ?_
                      refine lv_topi (fun z_96 ez_96 => ?_)
                      obtain rfl : z_96 = 58 := ez_96.trans (by first | rfl | decide +kernel)
                      refine lv_iload_n hx hb dX9_together_90 rfl (lv_at hl 3 rfl) ?_
                      refine lv_iload_n hx hb dX9_together_91 rfl (lv_at hl 0 rfl) ?_
                      refine lv_ishr hx hb dX9_together_92 ?_
                      refine lv_topi (fun z_97 ez_97 => ?_)
                      refine lv_iconst (v := 1) hx hb dX9_together_93 (by decide) ?_
                      refine lv_iand hx hb dX9_together_94 ?_
                      refine lv_topi (fun z_98 ez_98 => ?_)
                      refine lv_iconst (v := 1) hx hb dX9_together_95 (by decide) ?_
                      refine lv_icmp_ne (tgt := 104) hx hb dX9_together_96 (by decide) (fun c_99 => ?_) (fun c_99 => absurd (show z_34 = 1 by rw [ez_34, ez_33]; have h := c_99; rw [ez_98, ez_97] at h; exact h) c_35)
                      refine lv_lconst (v := 1) hx hb dX9_together_104 (by decide) ?_
                      refine lv_iload_n hx hb dX9_together_105 rfl (lv_at hl 0 rfl) ?_
                      refine lv_lshl hx hb dX9_together_106 rfl ?_
                      refine lv_topl (fun z_100 ez_100 => ?_)
                      refine va_last hx hb hK hP hD hS 2 4 rfl rfl (by unfold vp_in; decide +kernel) dX9_together_107 (fun H locs hP hD hS => ?_)
                      obtain ⟨g_101, eg_101⟩ : ∃ z : Nat → Int64, z = (vp_updL g_92 (58 : Int32).toNatClampNeg z_100) := ⟨_, rfl⟩
                      have hP : va_P G.1 xcl [(m0, .inr (9, [.int 0, .int 0, .int 0, .int (-1), .ref (ma 4), .ref (ma 5), .ref (ma 6), .ref (ma 7), .ref (ma 8), .ref (ma 9), .ref (ma 10), .ref (ma 11), .ref (ma 12), .ref (ma 13), .ref (ma 14), .ref (ma 15), .ref (ma 16), .ref (ma 17), .ref (ma 18), .ref (ma 19), .int 0, .ref (ma 21), .ref (ma 22), .ref (ma 23), .ref (ma 24), .ref (ma 25), .ref (ma 26), .ref (ma 27), .ref (ma 28), .ref (ma 29), .ref (ma 30), .ref (ma 31), .ref (ma 32), .ref (ma 33), .ref (ma 34), .ref (ma 35), .ref (ma 36), .ref (ma 37), .int 0, .ref (ma 39), .ref (ma 40), .ref (ma 41), .ref (ma 42), .ref (ma 43), .ref (ma 44), .ref (ma 45), .ref (ma 46), .ref (ma 47), .ref (ma 48), .int 0, .int 0, .int 0, .int 0, .int 0, .int 0, .int 0, .long 0, .int 0, .long 0, .long 0, .long 0, .long 0, .int 0, .int 0, .int 0, .int 0, .long 0])), (ma 39, .inl (G.2 0, 6, .inl (fun _ => 0))), (ma 11, .inl (G.2 4, 96, .inr (.inl g_101)))] H := by rw [eg_101]; exact hP
                      have hD : va_D A [(m0, .inr (9, [.int 0, .int 0, .int 0, .int (-1), .ref (ma 4), .ref (ma 5), .ref (ma 6), .ref (ma 7), .ref (ma 8), .ref (ma 9), .ref (ma 10), .ref (ma 11), .ref (ma 12), .ref (ma 13), .ref (ma 14), .ref (ma 15), .ref (ma 16), .ref (ma 17), .ref (ma 18), .ref (ma 19), .int 0, .ref (ma 21), .ref (ma 22), .ref (ma 23), .ref (ma 24), .ref (ma 25), .ref (ma 26), .ref (ma 27), .ref (ma 28), .ref (ma 29), .ref (ma 30), .ref (ma 31), .ref (ma 32), .ref (ma 33), .ref (ma 34), .ref (ma 35), .ref (ma 36), .ref (ma 37), .int 0, .ref (ma 39), .ref (ma 40), .ref (ma 41), .ref (ma 42), .ref (ma 43), .ref (ma 44), .ref (ma 45), .ref (ma 46), .ref (ma 47), .ref (ma 48), .int 0, .int 0, .int 0, .int 0, .int 0, .int 0, .int 0, .long 0, .int 0, .long 0, .long 0, .long 0, .long 0, .int 0, .int 0, .int 0, .int 0, .long 0])), (ma 39, .inl (G.2 0, 6, .inl (fun _ => 0))), (ma 11, .inl (G.2 4, 96, .inr (.inl g_101)))] := by rw [eg_101]; exact hD
                      refine lv_iinc (v := 5) (lv' := [(3, .int 5), (2, .int 0), (0, .ref m0), (1, .int p0)]) hx hb dX9_together_108 hl (k := 0) rfl (by decide +kernel) (by decide) rfl (fun ls hl => ?_)
                      refine lv_goto (tgt := 73) hx hb dX9_together_111 (by decide) ?_
                      refine lv_iload_n hx hb dX9_together_73 rfl (lv_at hl 0 rfl) ?_
                      refine lv_bipush (v := 8) hx hb dX9_together_74 (by decide) ?_
                      refine lv_icmp_ge (tgt := 114) hx hb dX9_together_76 (by decide) (fun c_103 => absurd c_103 (by decide +kernel)) (fun c_103 => ?_)
                      refine lv_aload_n hx hb dX9_together_79 rfl (lv_at hl 2 rfl) ?_
                      refine va_get (D := G.1) (ci := 9) (v := .ref (ma 11)) (C := RX9) (T := TX9) (N := 67) hx hb htl inlX9 hown hK hP 0 rfl rfl 11 (by decide) (htl (.fieldLink RX9 36 "LaytimeDeskModel" "ports" "[J") mW116) (fun _ h9 => h9) rfl dX9_together_80 ?_
                      refine lv_bipush (v := 12) hx hb dX9_together_83 (by decide) ?_
                      refine lv_iload_n hx hb dX9_together_85 rfl (lv_at hl 0 rfl) ?_
                      refine lv_imul hx hb dX9_together_86 ?_
                      refine lv_topi (fun z_104 ez_104 => ?_)
                      obtain rfl : z_104 = 60 := ez_104.trans (by first | rfl | decide +kernel)
                      refine lv_bipush (v := 10) hx hb dX9_together_87 (by decide) ?_
                      refine lv_iadd hx hb dX9_together_89 ?_
                      refine lv_topi (fun z_105 ez_105 => ?_)
                      obtain rfl : z_105 = 70 := ez_105.trans (by first | rfl | decide +kernel)
                      refine lv_iload_n hx hb dX9_together_90 rfl (lv_at hl 3 rfl) ?_
                      refine lv_iload_n hx hb dX9_together_91 rfl (lv_at hl 0 rfl) ?_
                      refine lv_ishr hx hb dX9_together_92 ?_
                      refine lv_topi (fun z_106 ez_106 => ?_)
                      refine lv_iconst (v := 1) hx hb dX9_together_93 (by decide) ?_
                      refine lv_iand hx hb dX9_together_94 ?_
                      refine lv_topi (fun z_107 ez_107 => ?_)
                      refine lv_iconst (v := 1) hx hb dX9_together_95 (by decide) ?_
                      refine lv_icmp_ne (tgt := 104) hx hb dX9_together_96 (by decide) (fun c_108 => ?_) (fun c_108 => absurd (show z_40 = 1 by rw [ez_40, ez_39]; have h := c_108; rw [ez_107, ez_106] at h; exact h) c_41)
                      refine lv_lconst (v := 1) hx hb dX9_together_104 (by decide) ?_
                      refine lv_iload_n hx hb dX9_together_105 rfl (lv_at hl 0 rfl) ?_
                      refine lv_lshl hx hb dX9_together_106 rfl ?_
                      refine lv_topl (fun z_109 ez_109 => ?_)
                      refine va_last hx hb hK hP hD hS 2 4 rfl rfl (by unfold vp_in; decide +kernel) dX9_together_107 (fun H locs hP hD hS => ?_)
                      obtain ⟨g_110, eg_110⟩ : ∃ z : Nat → Int64, z = (vp_updL g_101 (70 : Int32).toNatClampNeg z_109) := ⟨_, rfl⟩
                      have hP : va_P G.1 xcl [(m0, .inr (9, [.int 0, .int 0, .int 0, .int (-1), .ref (ma 4), .ref (ma 5), .ref (ma 6), .ref (ma 7), .ref (ma 8), .ref (ma 9), .ref (ma 10), .ref (ma 11), .ref (ma 12), .ref (ma 13), .ref (ma 14), .ref (ma 15), .ref (ma 16), .ref (ma 17), .ref (ma 18), .ref (ma 19), .int 0, .ref (ma 21), .ref (ma 22), .ref (ma 23), .ref (ma 24), .ref (ma 25), .ref (ma 26), .ref (ma 27), .ref (ma 28), .ref (ma 29), .ref (ma 30), .ref (ma 31), .ref (ma 32), .ref (ma 33), .ref (ma 34), .ref (ma 35), .ref (ma 36), .ref (ma 37), .int 0, .ref (ma 39), .ref (ma 40), .ref (ma 41), .ref (ma 42), .ref (ma 43), .ref (ma 44), .ref (ma 45), .ref (ma 46), .ref (ma 47), .ref (ma 48), .int 0, .int 0, .int 0, .int 0, .int 0, .int 0, .int 0, .long 0, .int 0, .long 0, .long 0, .long 0, .long 0, .int 0, .int 0, .int 0, .int 0, .long 0])), (ma 39, .inl (G.2 0, 6, .inl (fun _ => 0))), (ma 11, .inl (G.2 4, 96, .inr (.inl g_110)))] H := by rw [eg_110]; exact hP
                      have hD : va_D A [(m0, .inr (9, [.int 0, .int 0, .int 0, .int (-1), .ref (ma 4), .ref (ma 5), .ref (ma 6), .ref (ma 7), .ref (ma 8), .ref (ma 9), .ref (ma 10), .ref (ma 11), .ref (ma 12), .ref (ma 13), .ref (ma 14), .ref (ma 15), .ref (ma 16), .ref (ma 17), .ref (ma 18), .ref (ma 19), .int 0, .ref (ma 21), .ref (ma 22), .ref (ma 23), .ref (ma 24), .ref (ma 25), .ref (ma 26), .ref (ma 27), .ref (ma 28), .ref (ma 29), .ref (ma 30), .ref (ma 31), .ref (ma 32), .ref (ma 33), .ref (ma 34), .ref (ma 35), .ref (ma 36), .ref (ma 37), .int 0, .ref (ma 39), .ref (ma 40), .ref (ma 41), .ref (ma 42), .ref (ma 43), .ref (ma 44), .ref (ma 45), .ref (ma 46), .ref (ma 47), .ref (ma 48), .int 0, .int 0, .int 0, .int 0, .int 0, .int 0, .int 0, .long 0, .int 0, .long 0, .long 0, .long 0, .long 0, .int 0, .int 0, .int 0, .int 0, .long 0])), (ma 39, .inl (G.2 0, 6, .inl (fun _ => 0))), (ma 11, .inl (G.2 4, 96, .inr (.inl g_110)))] := by rw [eg_110]; exact hD
                      refine lv_iinc (v := 6) (lv' := [(3, .int 6), (2, .int 0), (0, .ref m0), (1, .int p0)]) hx hb dX9_together_108 hl (k := 0) rfl (by decide +kernel) (by decide) rfl (fun ls hl => ?_)
                      refine lv_goto (tgt := 73) hx hb dX9_together_111 (by decide) ?_
                      refine lv_iload_n hx hb dX9_together_73 rfl (lv_at hl 0 rfl) ?_
                      refine lv_bipush (v := 8) hx hb dX9_together_74 (by decide) ?_
                      refine lv_icmp_ge (tgt := 114) hx hb dX9_together_76 (by decide) (fun c_112 => absurd c_112 (by decide +kernel)) (fun c_112 => ?_)
                      refine lv_aload_n hx hb dX9_together_79 rfl (lv_at hl 2 rfl) ?_
                      refine va_get (D := G.1) (ci := 9) (v := .ref (ma 11)) (C := RX9) (T := TX9) (N := 67) hx hb htl inlX9 hown hK hP 0 rfl rfl 11 (by decide) (htl (.fieldLink RX9 36 "LaytimeDeskModel" "ports" "[J") mW116) (fun _ h9 => h9) rfl dX9_together_80 ?_
                      refine lv_bipush (v := 12) hx hb dX9_together_83 (by decide) ?_
                      refine lv_iload_n hx hb dX9_together_85 rfl (lv_at hl 0 rfl) ?_
                      refine lv_imul hx hb dX9_together_86 ?_
                      refine lv_topi (fun z_113 ez_113 => ?_)
                      obtain rfl : z_113 = 72 := ez_113.trans (by first | rfl | decide +kernel)
                      refine lv_bipush (v := 10) hx hb dX9_together_87 (by decide) ?_
                      refine lv_iadd hx hb dX9_together_89 ?_
                      refine lv_topi (fun z_114 ez_114 => ?_)
                      obtain rfl : z_114 = 82 := ez_114.trans (by first | rfl | decide +kernel)
                      refine lv_iload_n hx hb dX9_together_90 rfl (lv_at hl 3 rfl) ?_
                      refine lv_iload_n hx hb dX9_together_91 rfl (lv_at hl 0 rfl) ?_
                      refine lv_ishr hx hb dX9_together_92 ?_
                      refine lv_topi (fun z_115 ez_115 => ?_)
                      refine lv_iconst (v := 1) hx hb dX9_together_93 (by decide) ?_
                      refine lv_iand hx hb dX9_together_94 ?_
                      refine lv_topi (fun z_116 ez_116 => ?_)
                      refine lv_iconst (v := 1) hx hb dX9_together_95 (by decide) ?_
                      refine lv_icmp_ne (tgt := 104) hx hb dX9_together_96 (by decide) (fun c_117 => ?_) (fun c_117 => absurd (show z_46 = 1 by rw [ez_46, ez_45]; have h := c_117; rw [ez_116, ez_115] at h; exact h) c_47)
                      refine lv_lconst (v := 1) hx hb dX9_together_104 (by decide) ?_
                      refine lv_iload_n hx hb dX9_together_105 rfl (lv_at hl 0 rfl) ?_
                      refine lv_lshl hx hb dX9_together_106 rfl ?_
                      refine lv_topl (fun z_118 ez_118 => ?_)
                      refine va_last hx hb hK hP hD hS 2 4 rfl rfl (by unfold vp_in; decide +kernel) dX9_together_107 (fun H locs hP hD hS => ?_)
                      obtain ⟨g_119, eg_119⟩ : ∃ z : Nat → Int64, z = (vp_updL g_110 (82 : Int32).toNatClampNeg z_118) := ⟨_, rfl⟩
                      have hP : va_P G.1 xcl [(m0, .inr (9, [.int 0, .int 0, .int 0, .int (-1), .ref (ma 4), .ref (ma 5), .ref (ma 6), .ref (ma 7), .ref (ma 8), .ref (ma 9), .ref (ma 10), .ref (ma 11), .ref (ma 12), .ref (ma 13), .ref (ma 14), .ref (ma 15), .ref (ma 16), .ref (ma 17), .ref (ma 18), .ref (ma 19), .int 0, .ref (ma 21), .ref (ma 22), .ref (ma 23), .ref (ma 24), .ref (ma 25), .ref (ma 26), .ref (ma 27), .ref (ma 28), .ref (ma 29), .ref (ma 30), .ref (ma 31), .ref (ma 32), .ref (ma 33), .ref (ma 34), .ref (ma 35), .ref (ma 36), .ref (ma 37), .int 0, .ref (ma 39), .ref (ma 40), .ref (ma 41), .ref (ma 42), .ref (ma 43), .ref (ma 44), .ref (ma 45), .ref (ma 46), .ref (ma 47), .ref (ma 48), .int 0, .int 0, .int 0, .int 0, .int 0, .int 0, .int 0, .long 0, .int 0, .long 0, .long 0, .long 0, .long 0, .int 0, .int 0, .int 0, .int 0, .long 0])), (ma 39, .inl (G.2 0, 6, .inl (fun _ => 0))), (ma 11, .inl (G.2 4, 96, .inr (.inl g_119)))] H := by rw [eg_119]; exact hP
                      have hD : va_D A [(m0, .inr (9, [.int 0, .int 0, .int 0, .int (-1), .ref (ma 4), .ref (ma 5), .ref (ma 6), .ref (ma 7), .ref (ma 8), .ref (ma 9), .ref (ma 10), .ref (ma 11), .ref (ma 12), .ref (ma 13), .ref (ma 14), .ref (ma 15), .ref (ma 16), .ref (ma 17), .ref (ma 18), .ref (ma 19), .int 0, .ref (ma 21), .ref (ma 22), .ref (ma 23), .ref (ma 24), .ref (ma 25), .ref (ma 26), .ref (ma 27), .ref (ma 28), .ref (ma 29), .ref (ma 30), .ref (ma 31), .ref (ma 32), .ref (ma 33), .ref (ma 34), .ref (ma 35), .ref (ma 36), .ref (ma 37), .int 0, .ref (ma 39), .ref (ma 40), .ref (ma 41), .ref (ma 42), .ref (ma 43), .ref (ma 44), .ref (ma 45), .ref (ma 46), .ref (ma 47), .ref (ma 48), .int 0, .int 0, .int 0, .int 0, .int 0, .int 0, .int 0, .long 0, .int 0, .long 0, .long 0, .long 0, .long 0, .int 0, .int 0, .int 0, .int 0, .long 0])), (ma 39, .inl (G.2 0, 6, .inl (fun _ => 0))), (ma 11, .inl (G.2 4, 96, .inr (.inl g_119)))] := by rw [eg_119]; exact hD
                      refine lv_iinc (v := 7) (lv' := [(3, .int 7), (2, .int 0), (0, .ref m0), (1, .int p0)]) hx hb dX9_together_108 hl (k := 0) rfl (by decide +kernel) (by decide) rfl (fun ls hl => ?_)
                      refine lv_goto (tgt := 73) hx hb dX9_together_111 (by decide) ?_
                      refine lv_iload_n hx hb dX9_together_73 rfl (lv_at hl 0 rfl) ?_
                      refine lv_bipush (v := 8) hx hb dX9_together_74 (by decide) ?_
                      refine lv_icmp_ge (tgt := 114) hx hb dX9_together_76 (by decide) (fun c_121 => absurd c_121 (by decide +kernel)) (fun c_121 => ?_)
                      refine lv_aload_n hx hb dX9_together_79 rfl (lv_at hl 2 rfl) ?_
                      refine va_get (D := G.1) (ci := 9) (v := .ref (ma 11)) (C := RX9) (T := TX9) (N := 67) hx hb htl inlX9 hown hK hP 0 rfl rfl 11 (by decide) (htl (.fieldLink RX9 36 "LaytimeDeskModel" "ports" "[J") mW116) (fun _ h9 => h9) rfl dX9_together_80 ?_
                      refine lv_bipush (v := 12) hx hb dX9_together_83 (by decide) ?_
                      refine lv_iload_n hx hb dX9_together_85 rfl (lv_at hl 0 rfl) ?_
                      refine lv_imul hx hb dX9_together_86 ?_
                      refine lv_topi (fun z_122 ez_122 => ?_)
                      obtain rfl : z_122 = 84 := ez_122.trans (by first | rfl | decide +kernel)
                      refine lv_bipush (v := 10) hx hb dX9_together_87 (by decide) ?_
                      refine lv_iadd hx hb dX9_together_89 ?_
                      refine lv_topi (fun z_123 ez_123 => ?_)
                      obtain rfl : z_123 = 94 := ez_123.trans (by first | rfl | decide +kernel)
                      refine lv_iload_n hx hb dX9_together_90 rfl (lv_at hl 3 rfl) ?_
                      refine lv_iload_n hx hb dX9_together_91 rfl (lv_at hl 0 rfl) ?_
                      refine lv_ishr hx hb dX9_together_92 ?_
                      refine lv_topi (fun z_124 ez_124 => ?_)
                      refine lv_iconst (v := 1) hx hb dX9_together_93 (by decide) ?_
                      refine lv_iand hx hb dX9_together_94 ?_
                      refine lv_topi (fun z_125 ez_125 => ?_)
                      refine lv_iconst (v := 1) hx hb dX9_together_95 (by decide) ?_
                      refine lv_icmp_ne (tgt := 104) hx hb dX9_together_96 (by decide) (fun c_126 => ?_) (fun c_126 => absurd (show z_52 = 1 by rw [ez_52, ez_51]; have h := c_126; rw [ez_125, ez_124] at h; exact h) c_53)
                      refine lv_lconst (v := 1) hx hb dX9_together_104 (by decide) ?_
                      refine lv_iload_n hx hb dX9_together_105 rfl (lv_at hl 0 rfl) ?_
                      refine lv_lshl hx hb dX9_together_106 rfl ?_
                      refine lv_topl (fun z_127 ez_127 => ?_)
                      refine va_last hx hb hK hP hD hS 2 4 rfl rfl (by unfold vp_in; decide +kernel) dX9_together_107 (fun H locs hP hD hS => ?_)
                      obtain ⟨g_128, eg_128⟩ : ∃ z : Nat → Int64, z = (vp_updL g_119 (94 : Int32).toNatClampNeg z_127) := ⟨_, rfl⟩
                      have hP : va_P G.1 xcl [(m0, .inr (9, [.int 0, .int 0, .int 0, .int (-1), .ref (ma 4), .ref (ma 5), .ref (ma 6), .ref (ma 7), .ref (ma 8), .ref (ma 9), .ref (ma 10), .ref (ma 11), .ref (ma 12), .ref (ma 13), .ref (ma 14), .ref (ma 15), .ref (ma 16), .ref (ma 17), .ref (ma 18), .ref (ma 19), .int 0, .ref (ma 21), .ref (ma 22), .ref (ma 23), .ref (ma 24), .ref (ma 25), .ref (ma 26), .ref (ma 27), .ref (ma 28), .ref (ma 29), .ref (ma 30), .ref (ma 31), .ref (ma 32), .ref (ma 33), .ref (ma 34), .ref (ma 35), .ref (ma 36), .ref (ma 37), .int 0, .ref (ma 39), .ref (ma 40), .ref (ma 41), .ref (ma 42), .ref (ma 43), .ref (ma 44), .ref (ma 45), .ref (ma 46), .ref (ma 47), .ref (ma 48), .int 0, .int 0, .int 0, .int 0, .int 0, .int 0, .int 0, .long 0, .int 0, .long 0, .long 0, .long 0, .long 0, .int 0, .int 0, .int 0, .int 0, .long 0])), (ma 39, .inl (G.2 0, 6, .inl (fun _ => 0))), (ma 11, .inl (G.2 4, 96, .inr (.inl g_128)))] H := by rw [eg_128]; exact hP
                      have hD : va_D A [(m0, .inr (9, [.int 0, .int 0, .int 0, .int (-1), .ref (ma 4), .ref (ma 5), .ref (ma 6), .ref (ma 7), .ref (ma 8), .ref (ma 9), .ref (ma 10), .ref (ma 11), .ref (ma 12), .ref (ma 13), .ref (ma 14), .ref (ma 15), .ref (ma 16), .ref (ma 17), .ref (ma 18), .ref (ma 19), .int 0, .ref (ma 21), .ref (ma 22), .ref (ma 23), .ref (ma 24), .ref (ma 25), .ref (ma 26), .ref (ma 27), .ref (ma 28), .ref (ma 29), .ref (ma 30), .ref (ma 31), .ref (ma 32), .ref (ma 33), .ref (ma 34), .ref (ma 35), .ref (ma 36), .ref (ma 37), .int 0, .ref (ma 39), .ref (ma 40), .ref (ma 41), .ref (ma 42), .ref (ma 43), .ref (ma 44), .ref (ma 45), .ref (ma 46), .ref (ma 47), .ref (ma 48), .int 0, .int 0, .int 0, .int 0, .int 0, .int 0, .int 0, .long 0, .int 0, .long 0, .long 0, .long 0, .long 0, .int 0, .int 0, .int 0, .int 0, .long 0])), (ma 39, .inl (G.2 0, 6, .inl (fun _ => 0))), (ma 11, .inl (G.2 4, 96, .inr (.inl g_128)))] := by rw [eg_128]; exact hD
                      refine lv_iinc (v := 8) (lv' := [(3, .int 8), (2, .int 0), (0, .ref m0), (1, .int p0)]) hx hb dX9_together_108 hl (k := 0) rfl (by decide +kernel) (by decide) rfl (fun ls hl => ?_)
                      refine lv_goto (tgt := 73) hx hb dX9_together_111 (by decide) ?_
                      refine lv_iload_n hx hb dX9_together_73 rfl (lv_at hl 0 rfl) ?_
                      refine lv_bipush (v := 8) hx hb dX9_together_74 (by decide) ?_
                      refine lv_icmp_ge (tgt := 114) hx hb dX9_together_76 (by decide) (fun c_130 => ?_) (fun c_130 => absurd c_130 (by decide +kernel))
                      refine lv_iconst (v := 1) hx hb dX9_together_114 (by decide) ?_
                      have hP9 := hP.sub (ws' := []) [] rfl
                      have hD9 := hD.sub (ws' := []) [] (by decide) rfl
                      exact W.zret (v := 1) (ty := .boolean) hx hb hr rfl (fun t ht hW => ⟨⟨1, (), rfl, Or.inl ⟨rfl, xbits ⟨c_1, Int32.not_lt.mpr c_6⟩ (xall8 (fun h => c_11 (by rw [ez_10, ez_9]; exact h)) (fun h => c_17 (by rw [ez_16, ez_15]; exact h)) (fun h => c_23 (by rw [ez_22, ez_21]; exact h)) (fun h => c_29 (by rw [ez_28, ez_27]; exact h)) (fun h => c_35 (by rw [ez_34, ez_33]; exact h)) (fun h => c_41 (by rw [ez_40, ez_39]; exact h)) (fun h => c_47 (by rw [ez_46, ez_45]; exact h)) (fun h => c_53 (by rw [ez_52, ez_51]; exact h)))⟩, by rw [ht]; exact hP9, hD9⟩, hS.F ht⟩) hS.2.2 dX9_together_115
                    · refine lv_aload_n hx hb dX9_together_43 rfl (lv_at hl 2 rfl) ?_
                      refine lv_iload_n hx hb dX9_together_44 rfl (lv_at hl 0 rfl) ?_
                      refine xVri (rq := 0) (ci := 9) (wc := [(m0, .inr (9, [.int 0, .int 0, .int 0, .int (-1), .ref (ma 4), .ref (ma 5), .ref (ma 6), .ref (ma 7), .ref (ma 8), .ref (ma 9), .ref (ma 10), .ref (ma 11), .ref (ma 12), .ref (ma 13), .ref (ma 14), .ref (ma 15), .ref (ma 16), .ref (ma 17), .ref (ma 18), .ref (ma 19), .int 0, .ref (ma 21), .ref (ma 22), .ref (ma 23), .ref (ma 24), .ref (ma 25), .ref (ma 26), .ref (ma 27), .ref (ma 28), .ref (ma 29), .ref (ma 30), .ref (ma 31), .ref (ma 32), .ref (ma 33), .ref (ma 34), .ref (ma 35), .ref (ma 36), .ref (ma 37), .int 0, .ref (ma 39), .ref (ma 40), .ref (ma 41), .ref (ma 42), .ref (ma 43), .ref (ma 44), .ref (ma 45), .ref (ma 46), .ref (ma 47), .ref (ma 48), .int 0, .int 0, .int 0, .int 0, .int 0, .int 0, .int 0, .long 0, .int 0, .long 0, .long 0, .long 0, .long 0, .int 0, .int 0, .int 0, .int 0, .long 0])), (ma 11, .inl (G.2 4, 96, .inr (.inl (fun _ => 0))))]) (As := [.int 7]) (rest := []) C0 (c_X9_isOpen l G m0 ma 7) ok_X9_isOpen (mW391 : Cond.methodLink RX9 157 yX9_isOpen ∈ wsT) ⟨Nat.le_of_ble_eq_true rfl, Nat.le_of_ble_eq_true rfl⟩ hP hD hK hN [0, 2] rfl (by decide) rfl rfl rfl rfl hl.1 rfl (Nat.le_of_ble_eq_true rfl) ⟨Nat.le_of_ble_eq_true rfl, Nat.le_of_ble_eq_true rfl⟩ dX9_together_45 (fun r_131 hr_131 => ?_)
                      obtain rfl : r_131 = 0 := hr_131
                      refine lv_if_ne (tgt := 53) hx hb dX9_together_48 (by decide) (fun c_132 => absurd c_132 (by decide +kernel)) (fun c_132 => ?_)
                      refine lv_iconst (v := 2) hx hb dX9_together_51 (by decide) ?_
                      refine lv_istore_n (lv' := [(2, .int 2), (3, .int 7), (0, .ref m0), (1, .int p0)]) hx hb dX9_together_52 rfl hl (by decide) rfl (fun ls hl => ?_)
                      refine lv_iinc (v := 8) (lv' := [(3, .int 8), (2, .int 2), (0, .ref m0), (1, .int p0)]) hx hb dX9_together_53 hl (k := 1) rfl (by decide +kernel) (by decide) rfl (fun ls hl => ?_)
                      refine lv_goto (tgt := 24) hx hb dX9_together_56 (by decide) ?_
                      refine lv_iload_n hx hb dX9_together_24 rfl (lv_at hl 1 rfl) ?_
                      refine lv_if_ne (tgt := 59) hx hb dX9_together_25 (by decide) (fun c_134 => ?_) (fun c_134 => absurd c_134 (by decide +kernel))
                      refine lv_iload_n hx hb dX9_together_59 rfl (lv_at hl 1 rfl) ?_
                      refine lv_if_eq (tgt := 71) hx hb dX9_together_60 (by decide) (fun c_135 => absurd c_135 (by decide +kernel)) (fun c_135 => ?_)
                      refine lv_aload_n hx hb dX9_together_63 rfl (lv_at hl 2 rfl) ?_
                      refine lv_iload_n hx hb dX9_together_64 rfl (lv_at hl 1 rfl) ?_
                      refine xVwi (rq := 0) (ci := 9) (wc := [(m0, .inr (9, [.int 0, .int 0, .int 0, .int (-1), .ref (ma 4), .ref (ma 5), .ref (ma 6), .ref (ma 7), .ref (ma 8), .ref (ma 9), .ref (ma 10), .ref (ma 11), .ref (ma 12), .ref (ma 13), .ref (ma 14), .ref (ma 15), .ref (ma 16), .ref (ma 17), .ref (ma 18), .ref (ma 19), .int 0, .ref (ma 21), .ref (ma 22), .ref (ma 23), .ref (ma 24), .ref (ma 25), .ref (ma 26), .ref (ma 27), .ref (ma 28), .ref (ma 29), .ref (ma 30), .ref (ma 31), .ref (ma 32), .ref (ma 33), .ref (ma 34), .ref (ma 35), .ref (ma 36), .ref (ma 37), .int 0, .ref (ma 39), .ref (ma 40), .ref (ma 41), .ref (ma 42), .ref (ma 43), .ref (ma 44), .ref (ma 45), .ref (ma 46), .ref (ma 47), .ref (ma 48), .int 0, .int 0, .int 0, .int 0, .int 0, .int 0, .int 0, .long 0, .int 0, .long 0, .long 0, .long 0, .long 0, .int 0, .int 0, .int 0, .int 0, .long 0])), (ma 39, .inl (G.2 0, 6, .inl (fun _ => 0)))]) (wr := [(ma 11, .inl (G.2 4, 96, .inr (.inl (fun _ => 0))))]) (As := [.int 2]) (rest := []) C0 (c_X9_no l G m0 ma 2 (by unfold vp_in; decide +kernel)) ok_X9_no (mW177 : Cond.methodLink RX9 168 yX9_no ∈ wsT) ⟨Nat.le_of_ble_eq_true rfl, Nat.le_of_ble_eq_true rfl⟩ hP hD hS hA hK hN [0, 1] [2] rfl rfl (by decide) (by decide) (by decide) rfl rfl rfl rfl hl.1 rfl (Nat.le_of_ble_eq_true rfl) ⟨Nat.le_of_ble_eq_true rfl, Nat.le_of_ble_eq_true rfl⟩ dX9_together_65 (fun r_136 u_137 H locs hr_136 hP hD hS => ?_)
                      have hP : va_P G.1 xcl [(ma 11, .inl (G.2 4, 96, .inr (.inl (fun _ => 0))))] H := hP
                      have hD : va_D A [(ma 11, .inl (G.2 4, 96, .inr (.inl (fun _ => 0))))] := hD
                      obtain rfl : r_136 = (-1) := hr_136
                      refine lv_pop hx hb dX9_together_68 rfl ?_
                      refine lv_iconst (v := 0) hx hb dX9_together_69 (by decide) ?_
                      have hP9 := hP.sub (ws' := []) [] rfl
                      have hD9 := hD.sub (ws' := []) [] (by decide) rfl
                      exact W.zret (v := 0) (ty := .boolean) hx hb hr rfl (fun t ht hW => ⟨⟨0, (), rfl, Or.inr ⟨rfl, fun h => h.2 7 (by decide) (by have h := c_53; rw [ez_52, ez_51] at h; exact h)⟩, by rw [ht]; exact hP9, hD9⟩, hS.F ht⟩) hS.2.2 dX9_together_70
                  · refine lv_aload_n hx hb dX9_together_43 rfl (lv_at hl 2 rfl) ?_
                    refine lv_iload_n hx hb dX9_together_44 rfl (lv_at hl 0 rfl) ?_
                    refine xVri (rq := 0) (ci := 9) (wc := [(m0, .inr (9, [.int 0, .int 0, .int 0, .int (-1), .ref (ma 4), .ref (ma 5), .ref (ma 6), .ref (ma 7), .ref (ma 8), .ref (ma 9), .ref (ma 10), .ref (ma 11), .ref (ma 12), .ref (ma 13), .ref (ma 14), .ref (ma 15), .ref (ma 16), .ref (ma 17), .ref (ma 18), .ref (ma 19), .int 0, .ref (ma 21), .ref (ma 22), .ref (ma 23), .ref (ma 24), .ref (ma 25), .ref (ma 26), .ref (ma 27), .ref (ma 28), .ref (ma 29), .ref (ma 30), .ref (ma 31), .ref (ma 32), .ref (ma 33), .ref (ma 34), .ref (ma 35), .ref (ma 36), .ref (ma 37), .int 0, .ref (ma 39), .ref (ma 40), .ref (ma 41), .ref (ma 42), .ref (ma 43), .ref (ma 44), .ref (ma 45), .ref (ma 46), .ref (ma 47), .ref (ma 48), .int 0, .int 0, .int 0, .int 0, .int 0, .int 0, .int 0, .long 0, .int 0, .long 0, .long 0, .long 0, .long 0, .int 0, .int 0, .int 0, .int 0, .long 0])), (ma 11, .inl (G.2 4, 96, .inr (.inl (fun _ => 0))))]) (As := [.int 6]) (rest := []) C0 (c_X9_isOpen l G m0 ma 6) ok_X9_isOpen (mW391 : Cond.methodLink RX9 157 yX9_isOpen ∈ wsT) ⟨Nat.le_of_ble_eq_true rfl, Nat.le_of_ble_eq_true rfl⟩ hP hD hK hN [0, 2] rfl (by decide) rfl rfl rfl rfl hl.1 rfl (Nat.le_of_ble_eq_true rfl) ⟨Nat.le_of_ble_eq_true rfl, Nat.le_of_ble_eq_true rfl⟩ dX9_together_45 (fun r_138 hr_138 => ?_)
                    obtain rfl : r_138 = 0 := hr_138
                    refine lv_if_ne (tgt := 53) hx hb dX9_together_48 (by decide) (fun c_139 => absurd c_139 (by decide +kernel)) (fun c_139 => ?_)
                    refine lv_iconst (v := 2) hx hb dX9_together_51 (by decide) ?_
                    refine lv_istore_n (lv' := [(2, .int 2), (3, .int 6), (0, .ref m0), (1, .int p0)]) hx hb dX9_together_52 rfl hl (by decide) rfl (fun ls hl => ?_)
                    refine lv_iinc (v := 7) (lv' := [(3, .int 7), (2, .int 2), (0, .ref m0), (1, .int p0)]) hx hb dX9_together_53 hl (k := 1) rfl (by decide +kernel) (by decide) rfl (fun ls hl => ?_)
                    refine lv_goto (tgt := 24) hx hb dX9_together_56 (by decide) ?_
                    refine lv_iload_n hx hb dX9_together_24 rfl (lv_at hl 1 rfl) ?_
                    refine lv_if_ne (tgt := 59) hx hb dX9_together_25 (by decide) (fun c_141 => ?_) (fun c_141 => absurd c_141 (by decide +kernel))
                    refine lv_iload_n hx hb dX9_together_59 rfl (lv_at hl 1 rfl) ?_
                    refine lv_if_eq (tgt := 71) hx hb dX9_together_60 (by decide) (fun c_142 => absurd c_142 (by decide +kernel)) (fun c_142 => ?_)
                    refine lv_aload_n hx hb dX9_together_63 rfl (lv_at hl 2 rfl) ?_
                    refine lv_iload_n hx hb dX9_together_64 rfl (lv_at hl 1 rfl) ?_
                    refine xVwi (rq := 0) (ci := 9) (wc := [(m0, .inr (9, [.int 0, .int 0, .int 0, .int (-1), .ref (ma 4), .ref (ma 5), .ref (ma 6), .ref (ma 7), .ref (ma 8), .ref (ma 9), .ref (ma 10), .ref (ma 11), .ref (ma 12), .ref (ma 13), .ref (ma 14), .ref (ma 15), .ref (ma 16), .ref (ma 17), .ref (ma 18), .ref (ma 19), .int 0, .ref (ma 21), .ref (ma 22), .ref (ma 23), .ref (ma 24), .ref (ma 25), .ref (ma 26), .ref (ma 27), .ref (ma 28), .ref (ma 29), .ref (ma 30), .ref (ma 31), .ref (ma 32), .ref (ma 33), .ref (ma 34), .ref (ma 35), .ref (ma 36), .ref (ma 37), .int 0, .ref (ma 39), .ref (ma 40), .ref (ma 41), .ref (ma 42), .ref (ma 43), .ref (ma 44), .ref (ma 45), .ref (ma 46), .ref (ma 47), .ref (ma 48), .int 0, .int 0, .int 0, .int 0, .int 0, .int 0, .int 0, .long 0, .int 0, .long 0, .long 0, .long 0, .long 0, .int 0, .int 0, .int 0, .int 0, .long 0])), (ma 39, .inl (G.2 0, 6, .inl (fun _ => 0)))]) (wr := [(ma 11, .inl (G.2 4, 96, .inr (.inl (fun _ => 0))))]) (As := [.int 2]) (rest := []) C0 (c_X9_no l G m0 ma 2 (by unfold vp_in; decide +kernel)) ok_X9_no (mW177 : Cond.methodLink RX9 168 yX9_no ∈ wsT) ⟨Nat.le_of_ble_eq_true rfl, Nat.le_of_ble_eq_true rfl⟩ hP hD hS hA hK hN [0, 1] [2] rfl rfl (by decide) (by decide) (by decide) rfl rfl rfl rfl hl.1 rfl (Nat.le_of_ble_eq_true rfl) ⟨Nat.le_of_ble_eq_true rfl, Nat.le_of_ble_eq_true rfl⟩ dX9_together_65 (fun r_143 u_144 H locs hr_143 hP hD hS => ?_)
                    have hP : va_P G.1 xcl [(ma 11, .inl (G.2 4, 96, .inr (.inl (fun _ => 0))))] H := hP
                    have hD : va_D A [(ma 11, .inl (G.2 4, 96, .inr (.inl (fun _ => 0))))] := hD
                    obtain rfl : r_143 = (-1) := hr_143
                    refine lv_pop hx hb dX9_together_68 rfl ?_
                    refine lv_iconst (v := 0) hx hb dX9_together_69 (by decide) ?_
                    have hP9 := hP.sub (ws' := []) [] rfl
                    have hD9 := hD.sub (ws' := []) [] (by decide) rfl
                    exact W.zret (v := 0) (ty := .boolean) hx hb hr rfl (fun t ht hW => ⟨⟨0, (), rfl, Or.inr ⟨rfl, fun h => h.2 6 (by decide) (by have h := c_47; rw [ez_46, ez_45] at h; exact h)⟩, by rw [ht]; exact hP9, hD9⟩, hS.F ht⟩) hS.2.2 dX9_together_70
                · refine lv_aload_n hx hb dX9_together_43 rfl (lv_at hl 2 rfl) ?_
                  refine lv_iload_n hx hb dX9_together_44 rfl (lv_at hl 0 rfl) ?_
                  refine xVri (rq := 0) (ci := 9) (wc := [(m0, .inr (9, [.int 0, .int 0, .int 0, .int (-1), .ref (ma 4), .ref (ma 5), .ref (ma 6), .ref (ma 7), .ref (ma 8), .ref (ma 9), .ref (ma 10), .ref (ma 11), .ref (ma 12), .ref (ma 13), .ref (ma 14), .ref (ma 15), .ref (ma 16), .ref (ma 17), .ref (ma 18), .ref (ma 19), .int 0, .ref (ma 21), .ref (ma 22), .ref (ma 23), .ref (ma 24), .ref (ma 25), .ref (ma 26), .ref (ma 27), .ref (ma 28), .ref (ma 29), .ref (ma 30), .ref (ma 31), .ref (ma 32), .ref (ma 33), .ref (ma 34), .ref (ma 35), .ref (ma 36), .ref (ma 37), .int 0, .ref (ma 39), .ref (ma 40), .ref (ma 41), .ref (ma 42), .ref (ma 43), .ref (ma 44), .ref (ma 45), .ref (ma 46), .ref (ma 47), .ref (ma 48), .int 0, .int 0, .int 0, .int 0, .int 0, .int 0, .int 0, .long 0, .int 0, .long 0, .long 0, .long 0, .long 0, .int 0, .int 0, .int 0, .int 0, .long 0])), (ma 11, .inl (G.2 4, 96, .inr (.inl (fun _ => 0))))]) (As := [.int 5]) (rest := []) C0 (c_X9_isOpen l G m0 ma 5) ok_X9_isOpen (mW391 : Cond.methodLink RX9 157 yX9_isOpen ∈ wsT) ⟨Nat.le_of_ble_eq_true rfl, Nat.le_of_ble_eq_true rfl⟩ hP hD hK hN [0, 2] rfl (by decide) rfl rfl rfl rfl hl.1 rfl (Nat.le_of_ble_eq_true rfl) ⟨Nat.le_of_ble_eq_true rfl, Nat.le_of_ble_eq_true rfl⟩ dX9_together_45 (fun r_145 hr_145 => ?_)
                  obtain rfl : r_145 = 0 := hr_145
                  refine lv_if_ne (tgt := 53) hx hb dX9_together_48 (by decide) (fun c_146 => absurd c_146 (by decide +kernel)) (fun c_146 => ?_)
                  refine lv_iconst (v := 2) hx hb dX9_together_51 (by decide) ?_
                  refine lv_istore_n (lv' := [(2, .int 2), (3, .int 5), (0, .ref m0), (1, .int p0)]) hx hb dX9_together_52 rfl hl (by decide) rfl (fun ls hl => ?_)
                  refine lv_iinc (v := 6) (lv' := [(3, .int 6), (2, .int 2), (0, .ref m0), (1, .int p0)]) hx hb dX9_together_53 hl (k := 1) rfl (by decide +kernel) (by decide) rfl (fun ls hl => ?_)
                  refine lv_goto (tgt := 24) hx hb dX9_together_56 (by decide) ?_
                  refine lv_iload_n hx hb dX9_together_24 rfl (lv_at hl 1 rfl) ?_
                  refine lv_if_ne (tgt := 59) hx hb dX9_together_25 (by decide) (fun c_148 => ?_) (fun c_148 => absurd c_148 (by decide +kernel))
                  refine lv_iload_n hx hb dX9_together_59 rfl (lv_at hl 1 rfl) ?_
                  refine lv_if_eq (tgt := 71) hx hb dX9_together_60 (by decide) (fun c_149 => absurd c_149 (by decide +kernel)) (fun c_149 => ?_)
                  refine lv_aload_n hx hb dX9_together_63 rfl (lv_at hl 2 rfl) ?_
                  refine lv_iload_n hx hb dX9_together_64 rfl (lv_at hl 1 rfl) ?_
                  refine xVwi (rq := 0) (ci := 9) (wc := [(m0, .inr (9, [.int 0, .int 0, .int 0, .int (-1), .ref (ma 4), .ref (ma 5), .ref (ma 6), .ref (ma 7), .ref (ma 8), .ref (ma 9), .ref (ma 10), .ref (ma 11), .ref (ma 12), .ref (ma 13), .ref (ma 14), .ref (ma 15), .ref (ma 16), .ref (ma 17), .ref (ma 18), .ref (ma 19), .int 0, .ref (ma 21), .ref (ma 22), .ref (ma 23), .ref (ma 24), .ref (ma 25), .ref (ma 26), .ref (ma 27), .ref (ma 28), .ref (ma 29), .ref (ma 30), .ref (ma 31), .ref (ma 32), .ref (ma 33), .ref (ma 34), .ref (ma 35), .ref (ma 36), .ref (ma 37), .int 0, .ref (ma 39), .ref (ma 40), .ref (ma 41), .ref (ma 42), .ref (ma 43), .ref (ma 44), .ref (ma 45), .ref (ma 46), .ref (ma 47), .ref (ma 48), .int 0, .int 0, .int 0, .int 0, .int 0, .int 0, .int 0, .long 0, .int 0, .long 0, .long 0, .long 0, .long 0, .int 0, .int 0, .int 0, .int 0, .long 0])), (ma 39, .inl (G.2 0, 6, .inl (fun _ => 0)))]) (wr := [(ma 11, .inl (G.2 4, 96, .inr (.inl (fun _ => 0))))]) (As := [.int 2]) (rest := []) C0 (c_X9_no l G m0 ma 2 (by unfold vp_in; decide +kernel)) ok_X9_no (mW177 : Cond.methodLink RX9 168 yX9_no ∈ wsT) ⟨Nat.le_of_ble_eq_true rfl, Nat.le_of_ble_eq_true rfl⟩ hP hD hS hA hK hN [0, 1] [2] rfl rfl (by decide) (by decide) (by decide) rfl rfl rfl rfl hl.1 rfl (Nat.le_of_ble_eq_true rfl) ⟨Nat.le_of_ble_eq_true rfl, Nat.le_of_ble_eq_true rfl⟩ dX9_together_65 (fun r_150 u_151 H locs hr_150 hP hD hS => ?_)
                  have hP : va_P G.1 xcl [(ma 11, .inl (G.2 4, 96, .inr (.inl (fun _ => 0))))] H := hP
                  have hD : va_D A [(ma 11, .inl (G.2 4, 96, .inr (.inl (fun _ => 0))))] := hD
                  obtain rfl : r_150 = (-1) := hr_150
                  refine lv_pop hx hb dX9_together_68 rfl ?_
                  refine lv_iconst (v := 0) hx hb dX9_together_69 (by decide) ?_
                  have hP9 := hP.sub (ws' := []) [] rfl
                  have hD9 := hD.sub (ws' := []) [] (by decide) rfl
                  exact W.zret (v := 0) (ty := .boolean) hx hb hr rfl (fun t ht hW => ⟨⟨0, (), rfl, Or.inr ⟨rfl, fun h => h.2 5 (by decide) (by have h := c_41; rw [ez_40, ez_39] at h; exact h)⟩, by rw [ht]; exact hP9, hD9⟩, hS.F ht⟩) hS.2.2 dX9_together_70
              · refine lv_aload_n hx hb dX9_together_43 rfl (lv_at hl 2 rfl) ?_
                refine lv_iload_n hx hb dX9_together_44 rfl (lv_at hl 0 rfl) ?_
                refine xVri (rq := 0) (ci := 9) (wc := [(m0, .inr (9, [.int 0, .int 0, .int 0, .int (-1), .ref (ma 4), .ref (ma 5), .ref (ma 6), .ref (ma 7), .ref (ma 8), .ref (ma 9), .ref (ma 10), .ref (ma 11), .ref (ma 12), .ref (ma 13), .ref (ma 14), .ref (ma 15), .ref (ma 16), .ref (ma 17), .ref (ma 18), .ref (ma 19), .int 0, .ref (ma 21), .ref (ma 22), .ref (ma 23), .ref (ma 24), .ref (ma 25), .ref (ma 26), .ref (ma 27), .ref (ma 28), .ref (ma 29), .ref (ma 30), .ref (ma 31), .ref (ma 32), .ref (ma 33), .ref (ma 34), .ref (ma 35), .ref (ma 36), .ref (ma 37), .int 0, .ref (ma 39), .ref (ma 40), .ref (ma 41), .ref (ma 42), .ref (ma 43), .ref (ma 44), .ref (ma 45), .ref (ma 46), .ref (ma 47), .ref (ma 48), .int 0, .int 0, .int 0, .int 0, .int 0, .int 0, .int 0, .long 0, .int 0, .long 0, .long 0, .long 0, .long 0, .int 0, .int 0, .int 0, .int 0, .long 0])), (ma 11, .inl (G.2 4, 96, .inr (.inl (fun _ => 0))))]) (As := [.int 4]) (rest := []) C0 (c_X9_isOpen l G m0 ma 4) ok_X9_isOpen (mW391 : Cond.methodLink RX9 157 yX9_isOpen ∈ wsT) ⟨Nat.le_of_ble_eq_true rfl, Nat.le_of_ble_eq_true rfl⟩ hP hD hK hN [0, 2] rfl (by decide) rfl rfl rfl rfl hl.1 rfl (Nat.le_of_ble_eq_true rfl) ⟨Nat.le_of_ble_eq_true rfl, Nat.le_of_ble_eq_true rfl⟩ dX9_together_45 (fun r_152 hr_152 => ?_)
                obtain rfl : r_152 = 0 := hr_152
                refine lv_if_ne (tgt := 53) hx hb dX9_together_48 (by decide) (fun c_153 => absurd c_153 (by decide +kernel)) (fun c_153 => ?_)
                refine lv_iconst (v := 2) hx hb dX9_together_51 (by decide) ?_
                refine lv_istore_n (lv' := [(2, .int 2), (3, .int 4), (0, .ref m0), (1, .int p0)]) hx hb dX9_together_52 rfl hl (by decide) rfl (fun ls hl => ?_)
                refine lv_iinc (v := 5) (lv' := [(3, .int 5), (2, .int 2), (0, .ref m0), (1, .int p0)]) hx hb dX9_together_53 hl (k := 1) rfl (by decide +kernel) (by decide) rfl (fun ls hl => ?_)
                refine lv_goto (tgt := 24) hx hb dX9_together_56 (by decide) ?_
                refine lv_iload_n hx hb dX9_together_24 rfl (lv_at hl 1 rfl) ?_
                refine lv_if_ne (tgt := 59) hx hb dX9_together_25 (by decide) (fun c_155 => ?_) (fun c_155 => absurd c_155 (by decide +kernel))
                refine lv_iload_n hx hb dX9_together_59 rfl (lv_at hl 1 rfl) ?_
                refine lv_if_eq (tgt := 71) hx hb dX9_together_60 (by decide) (fun c_156 => absurd c_156 (by decide +kernel)) (fun c_156 => ?_)
                refine lv_aload_n hx hb dX9_together_63 rfl (lv_at hl 2 rfl) ?_
                refine lv_iload_n hx hb dX9_together_64 rfl (lv_at hl 1 rfl) ?_
                refine xVwi (rq := 0) (ci := 9) (wc := [(m0, .inr (9, [.int 0, .int 0, .int 0, .int (-1), .ref (ma 4), .ref (ma 5), .ref (ma 6), .ref (ma 7), .ref (ma 8), .ref (ma 9), .ref (ma 10), .ref (ma 11), .ref (ma 12), .ref (ma 13), .ref (ma 14), .ref (ma 15), .ref (ma 16), .ref (ma 17), .ref (ma 18), .ref (ma 19), .int 0, .ref (ma 21), .ref (ma 22), .ref (ma 23), .ref (ma 24), .ref (ma 25), .ref (ma 26), .ref (ma 27), .ref (ma 28), .ref (ma 29), .ref (ma 30), .ref (ma 31), .ref (ma 32), .ref (ma 33), .ref (ma 34), .ref (ma 35), .ref (ma 36), .ref (ma 37), .int 0, .ref (ma 39), .ref (ma 40), .ref (ma 41), .ref (ma 42), .ref (ma 43), .ref (ma 44), .ref (ma 45), .ref (ma 46), .ref (ma 47), .ref (ma 48), .int 0, .int 0, .int 0, .int 0, .int 0, .int 0, .int 0, .long 0, .int 0, .long 0, .long 0, .long 0, .long 0, .int 0, .int 0, .int 0, .int 0, .long 0])), (ma 39, .inl (G.2 0, 6, .inl (fun _ => 0)))]) (wr := [(ma 11, .inl (G.2 4, 96, .inr (.inl (fun _ => 0))))]) (As := [.int 2]) (rest := []) C0 (c_X9_no l G m0 ma 2 (by unfold vp_in; decide +kernel)) ok_X9_no (mW177 : Cond.methodLink RX9 168 yX9_no ∈ wsT) ⟨Nat.le_of_ble_eq_true rfl, Nat.le_of_ble_eq_true rfl⟩ hP hD hS hA hK hN [0, 1] [2] rfl rfl (by decide) (by decide) (by decide) rfl rfl rfl rfl hl.1 rfl (Nat.le_of_ble_eq_true rfl) ⟨Nat.le_of_ble_eq_true rfl, Nat.le_of_ble_eq_true rfl⟩ dX9_together_65 (fun r_157 u_158 H locs hr_157 hP hD hS => ?_)
                have hP : va_P G.1 xcl [(ma 11, .inl (G.2 4, 96, .inr (.inl (fun _ => 0))))] H := hP
                have hD : va_D A [(ma 11, .inl (G.2 4, 96, .inr (.inl (fun _ => 0))))] := hD
                obtain rfl : r_157 = (-1) := hr_157
                refine lv_pop hx hb dX9_together_68 rfl ?_
                refine lv_iconst (v := 0) hx hb dX9_together_69 (by decide) ?_
                have hP9 := hP.sub (ws' := []) [] rfl
                have hD9 := hD.sub (ws' := []) [] (by decide) rfl
                exact W.zret (v := 0) (ty := .boolean) hx hb hr rfl (fun t ht hW => ⟨⟨0, (), rfl, Or.inr ⟨rfl, fun h => h.2 4 (by decide) (by have h := c_35; rw [ez_34, ez_33] at h; exact h)⟩, by rw [ht]; exact hP9, hD9⟩, hS.F ht⟩) hS.2.2 dX9_together_70
            · refine lv_aload_n hx hb dX9_together_43 rfl (lv_at hl 2 rfl) ?_
              refine lv_iload_n hx hb dX9_together_44 rfl (lv_at hl 0 rfl) ?_
              refine xVri (rq := 0) (ci := 9) (wc := [(m0, .inr (9, [.int 0, .int 0, .int 0, .int (-1), .ref (ma 4), .ref (ma 5), .ref (ma 6), .ref (ma 7), .ref (ma 8), .ref (ma 9), .ref (ma 10), .ref (ma 11), .ref (ma 12), .ref (ma 13), .ref (ma 14), .ref (ma 15), .ref (ma 16), .ref (ma 17), .ref (ma 18), .ref (ma 19), .int 0, .ref (ma 21), .ref (ma 22), .ref (ma 23), .ref (ma 24), .ref (ma 25), .ref (ma 26), .ref (ma 27), .ref (ma 28), .ref (ma 29), .ref (ma 30), .ref (ma 31), .ref (ma 32), .ref (ma 33), .ref (ma 34), .ref (ma 35), .ref (ma 36), .ref (ma 37), .int 0, .ref (ma 39), .ref (ma 40), .ref (ma 41), .ref (ma 42), .ref (ma 43), .ref (ma 44), .ref (ma 45), .ref (ma 46), .ref (ma 47), .ref (ma 48), .int 0, .int 0, .int 0, .int 0, .int 0, .int 0, .int 0, .long 0, .int 0, .long 0, .long 0, .long 0, .long 0, .int 0, .int 0, .int 0, .int 0, .long 0])), (ma 11, .inl (G.2 4, 96, .inr (.inl (fun _ => 0))))]) (As := [.int 3]) (rest := []) C0 (c_X9_isOpen l G m0 ma 3) ok_X9_isOpen (mW391 : Cond.methodLink RX9 157 yX9_isOpen ∈ wsT) ⟨Nat.le_of_ble_eq_true rfl, Nat.le_of_ble_eq_true rfl⟩ hP hD hK hN [0, 2] rfl (by decide) rfl rfl rfl rfl hl.1 rfl (Nat.le_of_ble_eq_true rfl) ⟨Nat.le_of_ble_eq_true rfl, Nat.le_of_ble_eq_true rfl⟩ dX9_together_45 (fun r_159 hr_159 => ?_)
              obtain rfl : r_159 = 0 := hr_159
              refine lv_if_ne (tgt := 53) hx hb dX9_together_48 (by decide) (fun c_160 => absurd c_160 (by decide +kernel)) (fun c_160 => ?_)
              refine lv_iconst (v := 2) hx hb dX9_together_51 (by decide) ?_
              refine lv_istore_n (lv' := [(2, .int 2), (3, .int 3), (0, .ref m0), (1, .int p0)]) hx hb dX9_together_52 rfl hl (by decide) rfl (fun ls hl => ?_)
              refine lv_iinc (v := 4) (lv' := [(3, .int 4), (2, .int 2), (0, .ref m0), (1, .int p0)]) hx hb dX9_together_53 hl (k := 1) rfl (by decide +kernel) (by decide) rfl (fun ls hl => ?_)
              refine lv_goto (tgt := 24) hx hb dX9_together_56 (by decide) ?_
              refine lv_iload_n hx hb dX9_together_24 rfl (lv_at hl 1 rfl) ?_
              refine lv_if_ne (tgt := 59) hx hb dX9_together_25 (by decide) (fun c_162 => ?_) (fun c_162 => absurd c_162 (by decide +kernel))
              refine lv_iload_n hx hb dX9_together_59 rfl (lv_at hl 1 rfl) ?_
              refine lv_if_eq (tgt := 71) hx hb dX9_together_60 (by decide) (fun c_163 => absurd c_163 (by decide +kernel)) (fun c_163 => ?_)
              refine lv_aload_n hx hb dX9_together_63 rfl (lv_at hl 2 rfl) ?_
              refine lv_iload_n hx hb dX9_together_64 rfl (lv_at hl 1 rfl) ?_
              refine xVwi (rq := 0) (ci := 9) (wc := [(m0, .inr (9, [.int 0, .int 0, .int 0, .int (-1), .ref (ma 4), .ref (ma 5), .ref (ma 6), .ref (ma 7), .ref (ma 8), .ref (ma 9), .ref (ma 10), .ref (ma 11), .ref (ma 12), .ref (ma 13), .ref (ma 14), .ref (ma 15), .ref (ma 16), .ref (ma 17), .ref (ma 18), .ref (ma 19), .int 0, .ref (ma 21), .ref (ma 22), .ref (ma 23), .ref (ma 24), .ref (ma 25), .ref (ma 26), .ref (ma 27), .ref (ma 28), .ref (ma 29), .ref (ma 30), .ref (ma 31), .ref (ma 32), .ref (ma 33), .ref (ma 34), .ref (ma 35), .ref (ma 36), .ref (ma 37), .int 0, .ref (ma 39), .ref (ma 40), .ref (ma 41), .ref (ma 42), .ref (ma 43), .ref (ma 44), .ref (ma 45), .ref (ma 46), .ref (ma 47), .ref (ma 48), .int 0, .int 0, .int 0, .int 0, .int 0, .int 0, .int 0, .long 0, .int 0, .long 0, .long 0, .long 0, .long 0, .int 0, .int 0, .int 0, .int 0, .long 0])), (ma 39, .inl (G.2 0, 6, .inl (fun _ => 0)))]) (wr := [(ma 11, .inl (G.2 4, 96, .inr (.inl (fun _ => 0))))]) (As := [.int 2]) (rest := []) C0 (c_X9_no l G m0 ma 2 (by unfold vp_in; decide +kernel)) ok_X9_no (mW177 : Cond.methodLink RX9 168 yX9_no ∈ wsT) ⟨Nat.le_of_ble_eq_true rfl, Nat.le_of_ble_eq_true rfl⟩ hP hD hS hA hK hN [0, 1] [2] rfl rfl (by decide) (by decide) (by decide) rfl rfl rfl rfl hl.1 rfl (Nat.le_of_ble_eq_true rfl) ⟨Nat.le_of_ble_eq_true rfl, Nat.le_of_ble_eq_true rfl⟩ dX9_together_65 (fun r_164 u_165 H locs hr_164 hP hD hS => ?_)
              have hP : va_P G.1 xcl [(ma 11, .inl (G.2 4, 96, .inr (.inl (fun _ => 0))))] H := hP
              have hD : va_D A [(ma 11, .inl (G.2 4, 96, .inr (.inl (fun _ => 0))))] := hD
              obtain rfl : r_164 = (-1) := hr_164
              refine lv_pop hx hb dX9_together_68 rfl ?_
              refine lv_iconst (v := 0) hx hb dX9_together_69 (by decide) ?_
              have hP9 := hP.sub (ws' := []) [] rfl
              have hD9 := hD.sub (ws' := []) [] (by decide) rfl
              exact W.zret (v := 0) (ty := .boolean) hx hb hr rfl (fun t ht hW => ⟨⟨0, (), rfl, Or.inr ⟨rfl, fun h => h.2 3 (by decide) (by have h := c_29; rw [ez_28, ez_27] at h; exact h)⟩, by rw [ht]; exact hP9, hD9⟩, hS.F ht⟩) hS.2.2 dX9_together_70
          · refine lv_aload_n hx hb dX9_together_43 rfl (lv_at hl 2 rfl) ?_
            refine lv_iload_n hx hb dX9_together_44 rfl (lv_at hl 0 rfl) ?_
            refine xVri (rq := 0) (ci := 9) (wc := [(m0, .inr (9, [.int 0, .int 0, .int 0, .int (-1), .ref (ma 4), .ref (ma 5), .ref (ma 6), .ref (ma 7), .ref (ma 8), .ref (ma 9), .ref (ma 10), .ref (ma 11), .ref (ma 12), .ref (ma 13), .ref (ma 14), .ref (ma 15), .ref (ma 16), .ref (ma 17), .ref (ma 18), .ref (ma 19), .int 0, .ref (ma 21), .ref (ma 22), .ref (ma 23), .ref (ma 24), .ref (ma 25), .ref (ma 26), .ref (ma 27), .ref (ma 28), .ref (ma 29), .ref (ma 30), .ref (ma 31), .ref (ma 32), .ref (ma 33), .ref (ma 34), .ref (ma 35), .ref (ma 36), .ref (ma 37), .int 0, .ref (ma 39), .ref (ma 40), .ref (ma 41), .ref (ma 42), .ref (ma 43), .ref (ma 44), .ref (ma 45), .ref (ma 46), .ref (ma 47), .ref (ma 48), .int 0, .int 0, .int 0, .int 0, .int 0, .int 0, .int 0, .long 0, .int 0, .long 0, .long 0, .long 0, .long 0, .int 0, .int 0, .int 0, .int 0, .long 0])), (ma 11, .inl (G.2 4, 96, .inr (.inl (fun _ => 0))))]) (As := [.int 2]) (rest := []) C0 (c_X9_isOpen l G m0 ma 2) ok_X9_isOpen (mW391 : Cond.methodLink RX9 157 yX9_isOpen ∈ wsT) ⟨Nat.le_of_ble_eq_true rfl, Nat.le_of_ble_eq_true rfl⟩ hP hD hK hN [0, 2] rfl (by decide) rfl rfl rfl rfl hl.1 rfl (Nat.le_of_ble_eq_true rfl) ⟨Nat.le_of_ble_eq_true rfl, Nat.le_of_ble_eq_true rfl⟩ dX9_together_45 (fun r_166 hr_166 => ?_)
            obtain rfl : r_166 = 0 := hr_166
            refine lv_if_ne (tgt := 53) hx hb dX9_together_48 (by decide) (fun c_167 => absurd c_167 (by decide +kernel)) (fun c_167 => ?_)
            refine lv_iconst (v := 2) hx hb dX9_together_51 (by decide) ?_
            refine lv_istore_n (lv' := [(2, .int 2), (3, .int 2), (0, .ref m0), (1, .int p0)]) hx hb dX9_together_52 rfl hl (by decide) rfl (fun ls hl => ?_)
            refine lv_iinc (v := 3) (lv' := [(3, .int 3), (2, .int 2), (0, .ref m0), (1, .int p0)]) hx hb dX9_together_53 hl (k := 1) rfl (by decide +kernel) (by decide) rfl (fun ls hl => ?_)
            refine lv_goto (tgt := 24) hx hb dX9_together_56 (by decide) ?_
            refine lv_iload_n hx hb dX9_together_24 rfl (lv_at hl 1 rfl) ?_
            refine lv_if_ne (tgt := 59) hx hb dX9_together_25 (by decide) (fun c_169 => ?_) (fun c_169 => absurd c_169 (by decide +kernel))
            refine lv_iload_n hx hb dX9_together_59 rfl (lv_at hl 1 rfl) ?_
            refine lv_if_eq (tgt := 71) hx hb dX9_together_60 (by decide) (fun c_170 => absurd c_170 (by decide +kernel)) (fun c_170 => ?_)
            refine lv_aload_n hx hb dX9_together_63 rfl (lv_at hl 2 rfl) ?_
            refine lv_iload_n hx hb dX9_together_64 rfl (lv_at hl 1 rfl) ?_
            refine xVwi (rq := 0) (ci := 9) (wc := [(m0, .inr (9, [.int 0, .int 0, .int 0, .int (-1), .ref (ma 4), .ref (ma 5), .ref (ma 6), .ref (ma 7), .ref (ma 8), .ref (ma 9), .ref (ma 10), .ref (ma 11), .ref (ma 12), .ref (ma 13), .ref (ma 14), .ref (ma 15), .ref (ma 16), .ref (ma 17), .ref (ma 18), .ref (ma 19), .int 0, .ref (ma 21), .ref (ma 22), .ref (ma 23), .ref (ma 24), .ref (ma 25), .ref (ma 26), .ref (ma 27), .ref (ma 28), .ref (ma 29), .ref (ma 30), .ref (ma 31), .ref (ma 32), .ref (ma 33), .ref (ma 34), .ref (ma 35), .ref (ma 36), .ref (ma 37), .int 0, .ref (ma 39), .ref (ma 40), .ref (ma 41), .ref (ma 42), .ref (ma 43), .ref (ma 44), .ref (ma 45), .ref (ma 46), .ref (ma 47), .ref (ma 48), .int 0, .int 0, .int 0, .int 0, .int 0, .int 0, .int 0, .long 0, .int 0, .long 0, .long 0, .long 0, .long 0, .int 0, .int 0, .int 0, .int 0, .long 0])), (ma 39, .inl (G.2 0, 6, .inl (fun _ => 0)))]) (wr := [(ma 11, .inl (G.2 4, 96, .inr (.inl (fun _ => 0))))]) (As := [.int 2]) (rest := []) C0 (c_X9_no l G m0 ma 2 (by unfold vp_in; decide +kernel)) ok_X9_no (mW177 : Cond.methodLink RX9 168 yX9_no ∈ wsT) ⟨Nat.le_of_ble_eq_true rfl, Nat.le_of_ble_eq_true rfl⟩ hP hD hS hA hK hN [0, 1] [2] rfl rfl (by decide) (by decide) (by decide) rfl rfl rfl rfl hl.1 rfl (Nat.le_of_ble_eq_true rfl) ⟨Nat.le_of_ble_eq_true rfl, Nat.le_of_ble_eq_true rfl⟩ dX9_together_65 (fun r_171 u_172 H locs hr_171 hP hD hS => ?_)
            have hP : va_P G.1 xcl [(ma 11, .inl (G.2 4, 96, .inr (.inl (fun _ => 0))))] H := hP
            have hD : va_D A [(ma 11, .inl (G.2 4, 96, .inr (.inl (fun _ => 0))))] := hD
            obtain rfl : r_171 = (-1) := hr_171
            refine lv_pop hx hb dX9_together_68 rfl ?_
            refine lv_iconst (v := 0) hx hb dX9_together_69 (by decide) ?_
            have hP9 := hP.sub (ws' := []) [] rfl
            have hD9 := hD.sub (ws' := []) [] (by decide) rfl
            exact W.zret (v := 0) (ty := .boolean) hx hb hr rfl (fun t ht hW => ⟨⟨0, (), rfl, Or.inr ⟨rfl, fun h => h.2 2 (by decide) (by have h := c_23; rw [ez_22, ez_21] at h; exact h)⟩, by rw [ht]; exact hP9, hD9⟩, hS.F ht⟩) hS.2.2 dX9_together_70
        · refine lv_aload_n hx hb dX9_together_43 rfl (lv_at hl 2 rfl) ?_
          refine lv_iload_n hx hb dX9_together_44 rfl (lv_at hl 0 rfl) ?_
          refine xVri (rq := 0) (ci := 9) (wc := [(m0, .inr (9, [.int 0, .int 0, .int 0, .int (-1), .ref (ma 4), .ref (ma 5), .ref (ma 6), .ref (ma 7), .ref (ma 8), .ref (ma 9), .ref (ma 10), .ref (ma 11), .ref (ma 12), .ref (ma 13), .ref (ma 14), .ref (ma 15), .ref (ma 16), .ref (ma 17), .ref (ma 18), .ref (ma 19), .int 0, .ref (ma 21), .ref (ma 22), .ref (ma 23), .ref (ma 24), .ref (ma 25), .ref (ma 26), .ref (ma 27), .ref (ma 28), .ref (ma 29), .ref (ma 30), .ref (ma 31), .ref (ma 32), .ref (ma 33), .ref (ma 34), .ref (ma 35), .ref (ma 36), .ref (ma 37), .int 0, .ref (ma 39), .ref (ma 40), .ref (ma 41), .ref (ma 42), .ref (ma 43), .ref (ma 44), .ref (ma 45), .ref (ma 46), .ref (ma 47), .ref (ma 48), .int 0, .int 0, .int 0, .int 0, .int 0, .int 0, .int 0, .long 0, .int 0, .long 0, .long 0, .long 0, .long 0, .int 0, .int 0, .int 0, .int 0, .long 0])), (ma 11, .inl (G.2 4, 96, .inr (.inl (fun _ => 0))))]) (As := [.int 1]) (rest := []) C0 (c_X9_isOpen l G m0 ma 1) ok_X9_isOpen (mW391 : Cond.methodLink RX9 157 yX9_isOpen ∈ wsT) ⟨Nat.le_of_ble_eq_true rfl, Nat.le_of_ble_eq_true rfl⟩ hP hD hK hN [0, 2] rfl (by decide) rfl rfl rfl rfl hl.1 rfl (Nat.le_of_ble_eq_true rfl) ⟨Nat.le_of_ble_eq_true rfl, Nat.le_of_ble_eq_true rfl⟩ dX9_together_45 (fun r_173 hr_173 => ?_)
          obtain rfl : r_173 = 0 := hr_173
          refine lv_if_ne (tgt := 53) hx hb dX9_together_48 (by decide) (fun c_174 => absurd c_174 (by decide +kernel)) (fun c_174 => ?_)
          refine lv_iconst (v := 2) hx hb dX9_together_51 (by decide) ?_
          refine lv_istore_n (lv' := [(2, .int 2), (3, .int 1), (0, .ref m0), (1, .int p0)]) hx hb dX9_together_52 rfl hl (by decide) rfl (fun ls hl => ?_)
          refine lv_iinc (v := 2) (lv' := [(3, .int 2), (2, .int 2), (0, .ref m0), (1, .int p0)]) hx hb dX9_together_53 hl (k := 1) rfl (by decide +kernel) (by decide) rfl (fun ls hl => ?_)
          refine lv_goto (tgt := 24) hx hb dX9_together_56 (by decide) ?_
          refine lv_iload_n hx hb dX9_together_24 rfl (lv_at hl 1 rfl) ?_
          refine lv_if_ne (tgt := 59) hx hb dX9_together_25 (by decide) (fun c_176 => ?_) (fun c_176 => absurd c_176 (by decide +kernel))
          refine lv_iload_n hx hb dX9_together_59 rfl (lv_at hl 1 rfl) ?_
          refine lv_if_eq (tgt := 71) hx hb dX9_together_60 (by decide) (fun c_177 => absurd c_177 (by decide +kernel)) (fun c_177 => ?_)
          refine lv_aload_n hx hb dX9_together_63 rfl (lv_at hl 2 rfl) ?_
          refine lv_iload_n hx hb dX9_together_64 rfl (lv_at hl 1 rfl) ?_
          refine xVwi (rq := 0) (ci := 9) (wc := [(m0, .inr (9, [.int 0, .int 0, .int 0, .int (-1), .ref (ma 4), .ref (ma 5), .ref (ma 6), .ref (ma 7), .ref (ma 8), .ref (ma 9), .ref (ma 10), .ref (ma 11), .ref (ma 12), .ref (ma 13), .ref (ma 14), .ref (ma 15), .ref (ma 16), .ref (ma 17), .ref (ma 18), .ref (ma 19), .int 0, .ref (ma 21), .ref (ma 22), .ref (ma 23), .ref (ma 24), .ref (ma 25), .ref (ma 26), .ref (ma 27), .ref (ma 28), .ref (ma 29), .ref (ma 30), .ref (ma 31), .ref (ma 32), .ref (ma 33), .ref (ma 34), .ref (ma 35), .ref (ma 36), .ref (ma 37), .int 0, .ref (ma 39), .ref (ma 40), .ref (ma 41), .ref (ma 42), .ref (ma 43), .ref (ma 44), .ref (ma 45), .ref (ma 46), .ref (ma 47), .ref (ma 48), .int 0, .int 0, .int 0, .int 0, .int 0, .int 0, .int 0, .long 0, .int 0, .long 0, .long 0, .long 0, .long 0, .int 0, .int 0, .int 0, .int 0, .long 0])), (ma 39, .inl (G.2 0, 6, .inl (fun _ => 0)))]) (wr := [(ma 11, .inl (G.2 4, 96, .inr (.inl (fun _ => 0))))]) (As := [.int 2]) (rest := []) C0 (c_X9_no l G m0 ma 2 (by unfold vp_in; decide +kernel)) ok_X9_no (mW177 : Cond.methodLink RX9 168 yX9_no ∈ wsT) ⟨Nat.le_of_ble_eq_true rfl, Nat.le_of_ble_eq_true rfl⟩ hP hD hS hA hK hN [0, 1] [2] rfl rfl (by decide) (by decide) (by decide) rfl rfl rfl rfl hl.1 rfl (Nat.le_of_ble_eq_true rfl) ⟨Nat.le_of_ble_eq_true rfl, Nat.le_of_ble_eq_true rfl⟩ dX9_together_65 (fun r_178 u_179 H locs hr_178 hP hD hS => ?_)
          have hP : va_P G.1 xcl [(ma 11, .inl (G.2 4, 96, .inr (.inl (fun _ => 0))))] H := hP
          have hD : va_D A [(ma 11, .inl (G.2 4, 96, .inr (.inl (fun _ => 0))))] := hD
          obtain rfl : r_178 = (-1) := hr_178
          refine lv_pop hx hb dX9_together_68 rfl ?_
          refine lv_iconst (v := 0) hx hb dX9_together_69 (by decide) ?_
          have hP9 := hP.sub (ws' := []) [] rfl
          have hD9 := hD.sub (ws' := []) [] (by decide) rfl
          exact W.zret (v := 0) (ty := .boolean) hx hb hr rfl (fun t ht hW => ⟨⟨0, (), rfl, Or.inr ⟨rfl, fun h => h.2 1 (by decide) (by have h := c_17; rw [ez_16, ez_15] at h; exact h)⟩, by rw [ht]; exact hP9, hD9⟩, hS.F ht⟩) hS.2.2 dX9_together_70
      · refine lv_aload_n hx hb dX9_together_43 rfl (lv_at hl 2 rfl) ?_
        refine lv_iload_n hx hb dX9_together_44 rfl (lv_at hl 0 rfl) ?_
        refine xVri (rq := 0) (ci := 9) (wc := [(m0, .inr (9, [.int 0, .int 0, .int 0, .int (-1), .ref (ma 4), .ref (ma 5), .ref (ma 6), .ref (ma 7), .ref (ma 8), .ref (ma 9), .ref (ma 10), .ref (ma 11), .ref (ma 12), .ref (ma 13), .ref (ma 14), .ref (ma 15), .ref (ma 16), .ref (ma 17), .ref (ma 18), .ref (ma 19), .int 0, .ref (ma 21), .ref (ma 22), .ref (ma 23), .ref (ma 24), .ref (ma 25), .ref (ma 26), .ref (ma 27), .ref (ma 28), .ref (ma 29), .ref (ma 30), .ref (ma 31), .ref (ma 32), .ref (ma 33), .ref (ma 34), .ref (ma 35), .ref (ma 36), .ref (ma 37), .int 0, .ref (ma 39), .ref (ma 40), .ref (ma 41), .ref (ma 42), .ref (ma 43), .ref (ma 44), .ref (ma 45), .ref (ma 46), .ref (ma 47), .ref (ma 48), .int 0, .int 0, .int 0, .int 0, .int 0, .int 0, .int 0, .long 0, .int 0, .long 0, .long 0, .long 0, .long 0, .int 0, .int 0, .int 0, .int 0, .long 0])), (ma 11, .inl (G.2 4, 96, .inr (.inl (fun _ => 0))))]) (As := [.int 0]) (rest := []) C0 (c_X9_isOpen l G m0 ma 0) ok_X9_isOpen (mW391 : Cond.methodLink RX9 157 yX9_isOpen ∈ wsT) ⟨Nat.le_of_ble_eq_true rfl, Nat.le_of_ble_eq_true rfl⟩ hP hD hK hN [0, 2] rfl (by decide) rfl rfl rfl rfl hl.1 rfl (Nat.le_of_ble_eq_true rfl) ⟨Nat.le_of_ble_eq_true rfl, Nat.le_of_ble_eq_true rfl⟩ dX9_together_45 (fun r_180 hr_180 => ?_)
        obtain rfl : r_180 = 0 := hr_180
        refine lv_if_ne (tgt := 53) hx hb dX9_together_48 (by decide) (fun c_181 => absurd c_181 (by decide +kernel)) (fun c_181 => ?_)
        refine lv_iconst (v := 2) hx hb dX9_together_51 (by decide) ?_
        refine lv_istore_n (lv' := [(2, .int 2), (3, .int 0), (0, .ref m0), (1, .int p0)]) hx hb dX9_together_52 rfl hl (by decide) rfl (fun ls hl => ?_)
        refine lv_iinc (v := 1) (lv' := [(3, .int 1), (2, .int 2), (0, .ref m0), (1, .int p0)]) hx hb dX9_together_53 hl (k := 1) rfl (by decide +kernel) (by decide) rfl (fun ls hl => ?_)
        refine lv_goto (tgt := 24) hx hb dX9_together_56 (by decide) ?_
        refine lv_iload_n hx hb dX9_together_24 rfl (lv_at hl 1 rfl) ?_
        refine lv_if_ne (tgt := 59) hx hb dX9_together_25 (by decide) (fun c_183 => ?_) (fun c_183 => absurd c_183 (by decide +kernel))
        refine lv_iload_n hx hb dX9_together_59 rfl (lv_at hl 1 rfl) ?_
        refine lv_if_eq (tgt := 71) hx hb dX9_together_60 (by decide) (fun c_184 => absurd c_184 (by decide +kernel)) (fun c_184 => ?_)
        refine lv_aload_n hx hb dX9_together_63 rfl (lv_at hl 2 rfl) ?_
        refine lv_iload_n hx hb dX9_together_64 rfl (lv_at hl 1 rfl) ?_
        refine xVwi (rq := 0) (ci := 9) (wc := [(m0, .inr (9, [.int 0, .int 0, .int 0, .int (-1), .ref (ma 4), .ref (ma 5), .ref (ma 6), .ref (ma 7), .ref (ma 8), .ref (ma 9), .ref (ma 10), .ref (ma 11), .ref (ma 12), .ref (ma 13), .ref (ma 14), .ref (ma 15), .ref (ma 16), .ref (ma 17), .ref (ma 18), .ref (ma 19), .int 0, .ref (ma 21), .ref (ma 22), .ref (ma 23), .ref (ma 24), .ref (ma 25), .ref (ma 26), .ref (ma 27), .ref (ma 28), .ref (ma 29), .ref (ma 30), .ref (ma 31), .ref (ma 32), .ref (ma 33), .ref (ma 34), .ref (ma 35), .ref (ma 36), .ref (ma 37), .int 0, .ref (ma 39), .ref (ma 40), .ref (ma 41), .ref (ma 42), .ref (ma 43), .ref (ma 44), .ref (ma 45), .ref (ma 46), .ref (ma 47), .ref (ma 48), .int 0, .int 0, .int 0, .int 0, .int 0, .int 0, .int 0, .long 0, .int 0, .long 0, .long 0, .long 0, .long 0, .int 0, .int 0, .int 0, .int 0, .long 0])), (ma 39, .inl (G.2 0, 6, .inl (fun _ => 0)))]) (wr := [(ma 11, .inl (G.2 4, 96, .inr (.inl (fun _ => 0))))]) (As := [.int 2]) (rest := []) C0 (c_X9_no l G m0 ma 2 (by unfold vp_in; decide +kernel)) ok_X9_no (mW177 : Cond.methodLink RX9 168 yX9_no ∈ wsT) ⟨Nat.le_of_ble_eq_true rfl, Nat.le_of_ble_eq_true rfl⟩ hP hD hS hA hK hN [0, 1] [2] rfl rfl (by decide) (by decide) (by decide) rfl rfl rfl rfl hl.1 rfl (Nat.le_of_ble_eq_true rfl) ⟨Nat.le_of_ble_eq_true rfl, Nat.le_of_ble_eq_true rfl⟩ dX9_together_65 (fun r_185 u_186 H locs hr_185 hP hD hS => ?_)
        have hP : va_P G.1 xcl [(ma 11, .inl (G.2 4, 96, .inr (.inl (fun _ => 0))))] H := hP
        have hD : va_D A [(ma 11, .inl (G.2 4, 96, .inr (.inl (fun _ => 0))))] := hD
        obtain rfl : r_185 = (-1) := hr_185
        refine lv_pop hx hb dX9_together_68 rfl ?_
        refine lv_iconst (v := 0) hx hb dX9_together_69 (by decide) ?_
        have hP9 := hP.sub (ws' := []) [] rfl
        have hD9 := hD.sub (ws' := []) [] (by decide) rfl
        exact W.zret (v := 0) (ty := .boolean) hx hb hr rfl (fun t ht hW => ⟨⟨0, (), rfl, Or.inr ⟨rfl, fun h => h.2 0 (by decide) (by have h := c_11; rw [ez_10, ez_9] at h; exact h)⟩, by rw [ht]; exact hP9, hD9⟩, hS.F ht⟩) hS.2.2 dX9_together_70
    · refine lv_iconst (v := 1) hx hb dX9_together_16 (by decide) ?_
      refine lv_goto (tgt := 21) hx hb dX9_together_17 (by decide) ?_
      refine lv_istore_n (lv' := [(2, .int 1), (0, .ref m0), (1, .int p0)]) hx hb dX9_together_21 rfl hl (by decide) rfl (fun ls hl => ?_)
      refine lv_iconst (v := 0) hx hb dX9_together_22 (by decide) ?_
      refine lv_istore_n (lv' := [(3, .int 0), (2, .int 1), (0, .ref m0), (1, .int p0)]) hx hb dX9_together_23 rfl hl (by decide) rfl (fun ls hl => ?_)
      refine lv_iload_n hx hb dX9_together_24 rfl (lv_at hl 1 rfl) ?_
      refine lv_if_ne (tgt := 59) hx hb dX9_together_25 (by decide) (fun c_187 => ?_) (fun c_187 => absurd c_187 (by decide +kernel))
      refine lv_iload_n hx hb dX9_together_59 rfl (lv_at hl 1 rfl) ?_
      refine lv_if_eq (tgt := 71) hx hb dX9_together_60 (by decide) (fun c_188 => absurd c_188 (by decide +kernel)) (fun c_188 => ?_)
      refine lv_aload_n hx hb dX9_together_63 rfl (lv_at hl 2 rfl) ?_
      refine lv_iload_n hx hb dX9_together_64 rfl (lv_at hl 1 rfl) ?_
      refine xVwi (rq := 0) (ci := 9) (wc := [(m0, .inr (9, [.int 0, .int 0, .int 0, .int (-1), .ref (ma 4), .ref (ma 5), .ref (ma 6), .ref (ma 7), .ref (ma 8), .ref (ma 9), .ref (ma 10), .ref (ma 11), .ref (ma 12), .ref (ma 13), .ref (ma 14), .ref (ma 15), .ref (ma 16), .ref (ma 17), .ref (ma 18), .ref (ma 19), .int 0, .ref (ma 21), .ref (ma 22), .ref (ma 23), .ref (ma 24), .ref (ma 25), .ref (ma 26), .ref (ma 27), .ref (ma 28), .ref (ma 29), .ref (ma 30), .ref (ma 31), .ref (ma 32), .ref (ma 33), .ref (ma 34), .ref (ma 35), .ref (ma 36), .ref (ma 37), .int 0, .ref (ma 39), .ref (ma 40), .ref (ma 41), .ref (ma 42), .ref (ma 43), .ref (ma 44), .ref (ma 45), .ref (ma 46), .ref (ma 47), .ref (ma 48), .int 0, .int 0, .int 0, .int 0, .int 0, .int 0, .int 0, .long 0, .int 0, .long 0, .long 0, .long 0, .long 0, .int 0, .int 0, .int 0, .int 0, .long 0])), (ma 39, .inl (G.2 0, 6, .inl (fun _ => 0)))]) (wr := [(ma 11, .inl (G.2 4, 96, .inr (.inl (fun _ => 0))))]) (As := [.int 1]) (rest := []) C0 (c_X9_no l G m0 ma 1 (by unfold vp_in; decide +kernel)) ok_X9_no (mW177 : Cond.methodLink RX9 168 yX9_no ∈ wsT) ⟨Nat.le_of_ble_eq_true rfl, Nat.le_of_ble_eq_true rfl⟩ hP hD hS hA hK hN [0, 1] [2] rfl rfl (by decide) (by decide) (by decide) rfl rfl rfl rfl hl.1 rfl (Nat.le_of_ble_eq_true rfl) ⟨Nat.le_of_ble_eq_true rfl, Nat.le_of_ble_eq_true rfl⟩ dX9_together_65 (fun r_189 u_190 H locs hr_189 hP hD hS => ?_)
      have hP : va_P G.1 xcl [(ma 11, .inl (G.2 4, 96, .inr (.inl (fun _ => 0))))] H := hP
      have hD : va_D A [(ma 11, .inl (G.2 4, 96, .inr (.inl (fun _ => 0))))] := hD
      obtain rfl : r_189 = (-1) := hr_189
      refine lv_pop hx hb dX9_together_68 rfl ?_
      refine lv_iconst (v := 0) hx hb dX9_together_69 (by decide) ?_
      have hP9 := hP.sub (ws' := []) [] rfl
      have hD9 := hD.sub (ws' := []) [] (by decide) rfl
      exact W.zret (v := 0) (ty := .boolean) hx hb hr rfl (fun t ht hW => ⟨⟨0, (), rfl, Or.inr ⟨rfl, fun h => c_6 (Int32.not_lt.mp h.1.2)⟩, by rw [ht]; exact hP9, hD9⟩, hS.F ht⟩) hS.2.2 dX9_together_70
