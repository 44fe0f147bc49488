theorem dX8_refused_0 : decode cX8_refused 0 = .ok (.aload_n 0, 1) := by decide +kernel
theorem dX8_refused_1 : decode cX8_refused 1 = .ok (.iload_n 1, 1) := by decide +kernel
theorem dX8_refused_2 : decode cX8_refused 2 = .ok (.putfield 351, 3) := by decide +kernel
theorem dX8_refused_5 : decode cX8_refused 5 = .ok (.iload_n 1, 1) := by decide +kernel
theorem dX8_refused_6 : decode cX8_refused 6 = .ok (.ifCond .eq 21, 3) := by decide +kernel
theorem dX8_refused_9 : decode cX8_refused 9 = .ok (.aload_n 0, 1) := by decide +kernel
theorem dX8_refused_10 : decode cX8_refused 10 = .ok (.getfield 28, 3) := by decide +kernel
theorem dX8_refused_13 : decode cX8_refused 13 = .ok (.iload_n 1, 1) := by decide +kernel
theorem dX8_refused_14 : decode cX8_refused 14 = .ok (.aload_n 0, 1) := by decide +kernel
theorem dX8_refused_15 : decode cX8_refused 15 = .ok (.getfield 28, 3) := by decide +kernel
theorem dX8_refused_18 : decode cX8_refused 18 = .ok (.iload_n 1, 1) := by decide +kernel
theorem dX8_refused_19 : decode cX8_refused 19 = .ok (.invokestatic 78, 3) := by decide +kernel
theorem dX8_refused_22 : decode cX8_refused 22 = .ok (.iconst 1, 1) := by decide +kernel
theorem dX8_refused_23 : decode cX8_refused 23 = .ok (.iadd, 1) := by decide +kernel
theorem dX8_refused_24 : decode cX8_refused 24 = .ok (.invokestatic 82, 3) := by decide +kernel
theorem dX8_refused_27 : decode cX8_refused 27 = .ok (.iload_n 1, 1) := by decide +kernel
theorem dX8_refused_28 : decode cX8_refused 28 = .ok (.ifCond .eq 7, 3) := by decide +kernel
theorem dX8_refused_31 : decode cX8_refused 31 = .ok (.iconst 1, 1) := by decide +kernel
theorem dX8_refused_32 : decode cX8_refused 32 = .ok (.goto 4, 3) := by decide +kernel
theorem dX8_refused_35 : decode cX8_refused 35 = .ok (.iconst 0, 1) := by decide +kernel
theorem dX8_refused_36 : decode cX8_refused 36 = .ok (.ireturn, 1) := by decide +kernel
set_option maxHeartbeats 4000000 in
set_option maxRecDepth 100000 in
/-- refused(why) -/
theorem c_X8_refused (l : Launch) (G : xG) (q0 : Nat) (qb : Nat) (qk : Nat) (qg : Nat) (qr : Nat) (im : Int32) (rs : Int32) (rf : Nat → Int32) (p0 : Int32)  : xWi l G yX8_refused cX8_refused 2 (some .boolean) 1 22 0 0 [.ref q0, .int p0] [(q0, .inr (8, [.ref qb, .ref qk, .ref qg, .ref qr, .int im, .int rs])), (qr, .inl (G.2 0, 6, .inl rf))] (S := (Nat → Int32)) (fun r u => r = xref p0 ∧ u = xrf rf p0) (fun u => [(q0, .inr (8, [.ref qb, .ref qk, .ref qg, .ref qr, .int im, .int p0])), (qr, .inl (G.2 0, 6, .inl u))]) := by
  intro sz
  refine xstart (by decide) (Nat.le_of_ble_eq_true rfl) (fun p e s m args below meth c ls C0 hr hlocks hin hsz hP hK hD hN hl => ?_)
  obtain ⟨hx, hb, hml, hown, htl⟩ := id C0
  subst hsz
  have hD := hD.self (sz := s.heap.size)
  generalize hAe : va_A [(q0, .inr (8, [.ref qb, .ref qk, .ref qg, .ref qr, .int im, .int rs])), (qr, .inl (G.2 0, 6, .inl rf))] s.heap.size = A at hD ⊢
  have hA : ∀ q : Nat, s.heap.size ≤ q → A q := fun q h => by rw [← hAe]; exact Or.inr h
  have hS : va_S A s.heap s.heap [] := va_S.rf
  have hl : lv_has ls 2 [(0, .ref q0), (1, .int p0)] := hl
  refine lv_aload_n hx hb dX8_refused_0 rfl (lv_at hl 0 rfl) ?_
  refine lv_iload_n hx hb dX8_refused_1 rfl (lv_at hl 1 rfl) ?_
  refine va_put (D := G.1) (ci := 8) (v := .int p0) (ty := .int) (C := RX8) (T := TX8) (N := 6) hx hb htl inlX8 tyX8 tyX8_ok nmX8 hown hK hP hD hS 0 rfl rfl 5 (by decide) (htl (.fieldLink RX8 351 "LaytimeDesk" "reason" "I") mW164) (fun _ h9 => h9) rfl (by decide +kernel) rfl rfl (Nat.le_of_ble_eq_true rfl) dX8_refused_2 (fun H locs hP hD hS => ?_)
  have hP : va_P G.1 xcl [(q0, .inr (8, [.ref qb, .ref qk, .ref qg, .ref qr, .int im, .int p0])), (qr, .inl (G.2 0, 6, .inl rf))] H := hP
  have hD : va_D A [(q0, .inr (8, [.ref qb, .ref qk, .ref qg, .ref qr, .int im, .int p0])), (qr, .inl (G.2 0, 6, .inl rf))] := hD
  refine lv_iload_n hx hb dX8_refused_5 rfl (lv_at hl 1 rfl) ?_
  refine lv_if_eq (tgt := 27) hx hb dX8_refused_6 (by decide) (fun c_1 => ?_) (fun c_1 => ?_)
  · refine lv_iload_n hx hb dX8_refused_27 rfl (lv_at hl 1 rfl) ?_
    refine lv_if_eq (tgt := 35) hx hb dX8_refused_28 (by decide) (fun c_2 => ?_) (fun c_2 => absurd c_1 c_2)
    refine lv_iconst (v := 0) hx hb dX8_refused_35 (by decide) ?_
    have hP9 := hP.sub (ws' := [(q0, .inr (8, [.ref qb, .ref qk, .ref qg, .ref qr, .int im, .int p0])), (qr, .inl (G.2 0, 6, .inl rf))]) [0, 1] rfl
    have hD9 := hD.sub (ws' := [(q0, .inr (8, [.ref qb, .ref qk, .ref qg, .ref qr, .int im, .int p0])), (qr, .inl (G.2 0, 6, .inl rf))]) [0, 1] (by decide) rfl
    exact W.zret (v := 0) (ty := .boolean) hx hb hr rfl (fun t ht hW => ⟨⟨0, rf, rfl, ⟨(if_pos c_1).symm, (if_pos c_1).symm⟩, by rw [ht]; exact hP9, hD9⟩, hS.F ht⟩) hS.2.2 dX8_refused_36
  · refine lv_aload_n hx hb dX8_refused_9 rfl (lv_at hl 0 rfl) ?_
    refine va_get (D := G.1) (ci := 8) (v := .ref qr) (C := RX8) (T := TX8) (N := 6) hx hb htl inlX8 hown hK hP 0 rfl rfl 3 (by decide) (htl (.fieldLink RX8 28 "LaytimeDesk" "refusals" "[I") mW23) (fun _ h9 => h9) rfl dX8_refused_10 ?_
    refine lv_iload_n hx hb dX8_refused_13 rfl (lv_at hl 1 rfl) ?_
    refine lv_aload_n hx hb dX8_refused_14 rfl (lv_at hl 0 rfl) ?_
    refine va_get (D := G.1) (ci := 8) (v := .ref qr) (C := RX8) (T := TX8) (N := 6) hx hb htl inlX8 hown hK hP 0 rfl rfl 3 (by decide) (htl (.fieldLink RX8 28 "LaytimeDesk" "refusals" "[I") mW23) (fun _ h9 => h9) rfl dX8_refused_15 ?_
    refine lv_iload_n hx hb dX8_refused_18 rfl (lv_at hl 1 rfl) ?_
    refine xSri (wc := [(qr, .inl (G.2 0, 6, .inl rf))]) (As := [.ref qr, .int p0]) (rest := [.int p0, .ref qr]) C0 (c_X8_at l G qr 6 rf p0 (by decide)) ok_X8_at (mW165 : Cond.methodLink RX8 78 yX8_at ∈ wsT) ⟨Nat.le_of_ble_eq_true rfl, Nat.le_of_ble_eq_true rfl⟩ hP hD hK hN [1] rfl (by decide) rfl hl.1 rfl (Nat.le_of_ble_eq_true rfl) ⟨Nat.le_of_ble_eq_true rfl, Nat.le_of_ble_eq_true rfl⟩ dX8_refused_19 (fun r_3 hr_3 => ?_)
    refine lv_iconst (v := 1) hx hb dX8_refused_22 (by decide) ?_
    refine lv_iadd hx hb dX8_refused_23 ?_
    refine lv_topi (fun z_4 ez_4 => ?_)
    refine xSwv (wc := [(qr, .inl (G.2 0, 6, .inl rf))]) (wr := [(q0, .inr (8, [.ref qb, .ref qk, .ref qg, .ref qr, .int im, .int p0]))]) (As := [.ref qr, .int p0, .int z_4]) (rest := []) C0 (c_X8_put l G qr 6 rf p0 z_4 (by decide)) ok_X8_put (mW168 : Cond.methodLink RX8 82 yX8_put ∈ wsT) ⟨Nat.le_of_ble_eq_true rfl, Nat.le_of_ble_eq_true rfl⟩ hP hD hS hA hK hN [1] [0] rfl rfl (by decide) (by decide) (by decide) rfl hl.1 rfl (Nat.le_of_ble_eq_true rfl) ⟨Nat.le_of_ble_eq_true rfl, Nat.le_of_ble_eq_true rfl⟩ dX8_refused_24 (fun u_6 H locs hr_5 hP hD hS => ?_)
    have hP : va_P G.1 xcl [(q0, .inr (8, [.ref qb, .ref qk, .ref qg, .ref qr, .int im, .int p0])), (qr, .inl (G.2 0, 6, .inl u_6))] H := hP
    have hD : va_D A [(q0, .inr (8, [.ref qb, .ref qk, .ref qg, .ref qr, .int im, .int p0])), (qr, .inl (G.2 0, 6, .inl u_6))] := hD
    refine lv_iload_n hx hb dX8_refused_27 rfl (lv_at hl 1 rfl) ?_
    refine lv_if_eq (tgt := 35) hx hb dX8_refused_28 (by decide) (fun c_7 => absurd c_7 c_1) (fun c_7 => ?_)
    refine lv_iconst (v := 1) hx hb dX8_refused_31 (by decide) ?_
    refine lv_goto (tgt := 36) hx hb dX8_refused_32 (by decide) ?_
    have hP9 := hP.sub (ws' := [(q0, .inr (8, [.ref qb, .ref qk, .ref qg, .ref qr, .int im, .int p0])), (qr, .inl (G.2 0, 6, .inl u_6))]) [0, 1] rfl
    have hD9 := hD.sub (ws' := [(q0, .inr (8, [.ref qb, .ref qk, .ref qg, .ref qr, .int im, .int p0])), (qr, .inl (G.2 0, 6, .inl u_6))]) [0, 1] (by decide) rfl
    exact W.zret (v := 1) (ty := .boolean) hx hb hr rfl (fun t ht hW => ⟨⟨1, u_6, rfl, ⟨(if_neg c_1).symm, by rw [hr_5, ez_4, hr_3]; exact (if_neg c_1).symm⟩, by rw [ht]; exact hP9, hD9⟩, hS.F ht⟩) hS.2.2 dX8_refused_36
theorem dX8_contractReason_0 : decode cX8_contractReason 0 = .ok (.iload_n 1, 1) := by decide +kernel
theorem dX8_contractReason_1 : decode cX8_contractReason 1 = .ok (.iconst 0, 1) := by decide +kernel
theorem dX8_contractReason_2 : decode cX8_contractReason 2 = .ok (.bipush 39, 2) := by decide +kernel
theorem dX8_contractReason_4 : decode cX8_contractReason 4 = .ok (.invokestatic 71, 3) := by decide +kernel
theorem dX8_contractReason_7 : decode cX8_contractReason 7 = .ok (.ifCond .ne 5, 3) := by decide +kernel
theorem dX8_contractReason_10 : decode cX8_contractReason 10 = .ok (.iconst 1, 1) := by decide +kernel
theorem dX8_contractReason_11 : decode cX8_contractReason 11 = .ok (.ireturn, 1) := by decide +kernel
theorem dX8_contractReason_12 : decode cX8_contractReason 12 = .ok (.iload_n 1, 1) := by decide +kernel
theorem dX8_contractReason_13 : decode cX8_contractReason 13 = .ok (.aload_n 0, 1) := by decide +kernel
theorem dX8_contractReason_14 : decode cX8_contractReason 14 = .ok (.getfield 12, 3) := by decide +kernel
theorem dX8_contractReason_17 : decode cX8_contractReason 17 = .ok (.getfield 32, 3) := by decide +kernel
theorem dX8_contractReason_20 : decode cX8_contractReason 20 = .ok (.getfield 36, 3) := by decide +kernel
theorem dX8_contractReason_23 : decode cX8_contractReason 23 = .ok (.if_icmp .ge 7, 3) := by decide +kernel
theorem dX8_contractReason_30 : decode cX8_contractReason 30 = .ok (.iconst 2, 1) := by decide +kernel
theorem dX8_contractReason_31 : decode cX8_contractReason 31 = .ok (.ireturn, 1) := by decide +kernel
set_option maxHeartbeats 4000000 in
set_option maxRecDepth 100000 in
/-- contractReason(c) where no CONTRACT is made: 1 or 2 -/
theorem c_X8_contractReason (l : Launch) (G : xG) (q0 : Nat) (qb : Nat) (qk : Nat) (qg : Nat) (qr : Nat) (b : Nat → Nat) (p0 : Int32)  : xRi l G yX8_contractReason cX8_contractReason 2 (some .int) 1 22 [.ref q0, .int p0] [(q0, .inr (8, [.ref qb, .ref qk, .ref qg, .ref qr, .int 0, .int 0])), (qb, .inr (0, [.ref (b 0), .ref (b 1), .ref (b 2), .ref (b 3), .ref (b 4), .int 0])), (b 0, .inr (6, [.ref (b 5), .ref (b 6), .ref (b 7), .ref (b 8), .ref (b 9), .ref (b 10), .int 0]))] (fun r => x2 r) := by
  intro sz
  refine xstart (by decide) (Nat.le_of_ble_eq_true rfl) (fun p e s m args below meth c ls C0 hr hlocks hin hsz hP hK hD hN hl => ?_)
  obtain ⟨hx, hb, hml, hown, htl⟩ := id C0
  have hl : lv_has ls 2 [(0, .ref q0), (1, .int p0)] := hl
  refine lv_iload_n hx hb dX8_contractReason_0 rfl (lv_at hl 1 rfl) ?_
  refine lv_iconst (v := 0) hx hb dX8_contractReason_1 (by decide) ?_
  refine lv_bipush (v := 39) hx hb dX8_contractReason_2 (by decide) ?_
  refine xSri (wc := []) (As := [.int p0, .int 0, .int 39]) (rest := []) C0 (c_X8_within l G p0 0 39) ok_X8_within (mW193 : Cond.methodLink RX8 71 yX8_within ∈ wsT) ⟨Nat.le_of_ble_eq_true rfl, Nat.le_of_ble_eq_true rfl⟩ hP hD hK hN [] rfl (by decide) rfl hl.1 rfl (Nat.le_of_ble_eq_true rfl) ⟨Nat.le_of_ble_eq_true rfl, Nat.le_of_ble_eq_true rfl⟩ dX8_contractReason_4 (fun r_1 hr_1 => ?_)
  refine lv_if_ne (tgt := 12) hx hb dX8_contractReason_7 (by decide) (fun c_2 => ?_) (fun c_2 => ?_)
  · refine lv_iload_n hx hb dX8_contractReason_12 rfl (lv_at hl 1 rfl) ?_
    refine lv_aload_n hx hb dX8_contractReason_13 rfl (lv_at hl 0 rfl) ?_
    refine va_get (D := G.1) (ci := 8) (v := .ref qb) (C := RX8) (T := TX8) (N := 6) hx hb htl inlX8 hown hK hP 0 rfl rfl 0 (by decide) (htl (.fieldLink RX8 12 "LaytimeDesk" "now" "LLaytimeDesk$Book;") mW16) (fun _ h9 => h9) rfl dX8_contractReason_14 ?_
    refine va_get (D := G.1) (ci := 0) (v := .ref (b 0)) (C := RX0) (T := TX0) (N := 6) hx hb htl inlX0 hown hK hP 1 rfl rfl 0 (by decide) (htl (.fieldLink RX8 32 "LaytimeDesk$Book" "terms" "LLaytimeDesk$Terms;") mW158) (fun _ h9 => h9) rfl dX8_contractReason_17 ?_
    refine va_get (D := G.1) (ci := 6) (v := .int 0) (C := RX6) (T := TX6) (N := 7) hx hb htl inlX6 hown hK hP 2 rfl rfl 6 (by decide) (htl (.fieldLink RX8 36 "LaytimeDesk$Terms" "contracts" "I") mW159) (fun _ h9 => h9) rfl dX8_contractReason_20 ?_
    refine lv_icmp_ge (tgt := 30) hx hb dX8_contractReason_23 (by decide) (fun c_3 => ?_) (fun c_3 => (by rcases hr_1 with ⟨_, h, _⟩ | ⟨h, _⟩; exact absurd (Int32.not_lt.mp h) c_3; exact absurd h c_2))
    refine lv_iconst (v := 2) hx hb dX8_contractReason_30 (by decide) ?_
    exact W.iret (v := 2) hx hb hr (fun t ht hW => ⟨2, rfl, (Or.inr rfl : x2 2), ht⟩) (fun q hq => by cases hq) dX8_contractReason_31
  · refine lv_iconst (v := 1) hx hb dX8_contractReason_10 (by decide) ?_
    exact W.iret (v := 1) hx hb hr (fun t ht hW => ⟨1, rfl, (Or.inl rfl : x2 1), ht⟩) (fun q hq => by cases hq) dX8_contractReason_11
theorem dX8_placeReason_0 : decode cX8_placeReason 0 = .ok (.aload_n 0, 1) := by decide +kernel
theorem dX8_placeReason_1 : decode cX8_placeReason 1 = .ok (.iload_n 1, 1) := by decide +kernel
theorem dX8_placeReason_2 : decode cX8_placeReason 2 = .ok (.invokevirtual 106, 3) := by decide +kernel
theorem dX8_placeReason_5 : decode cX8_placeReason 5 = .ok (.iload_n 2, 1) := by decide +kernel
theorem dX8_placeReason_6 : decode cX8_placeReason 6 = .ok (.iconst 0, 1) := by decide +kernel
theorem dX8_placeReason_7 : decode cX8_placeReason 7 = .ok (.bipush 59, 2) := by decide +kernel
theorem dX8_placeReason_9 : decode cX8_placeReason 9 = .ok (.invokestatic 71, 3) := by decide +kernel
theorem dX8_placeReason_12 : decode cX8_placeReason 12 = .ok (.invokestatic 54, 3) := by decide +kernel
theorem dX8_placeReason_15 : decode cX8_placeReason 15 = .ok (.invokestatic 58, 3) := by decide +kernel
theorem dX8_placeReason_18 : decode cX8_placeReason 18 = .ok (.ireturn, 1) := by decide +kernel
set_option maxHeartbeats 4000000 in
set_option maxRecDepth 100000 in
theorem c_X8_placeReason (l : Launch) (G : xG) (q0 : Nat) (qb : Nat) (qk : Nat) (qg : Nat) (qr : Nat) (b : Nat → Nat) (p0 : Int32) (p1 : Int32)  : xRi l G yX8_placeReason cX8_placeReason 3 (some .int) 2 43 [.ref q0, .int p0, .int p1] [(q0, .inr (8, [.ref qb, .ref qk, .ref qg, .ref qr, .int 0, .int 0])), (qb, .inr (0, [.ref (b 0), .ref (b 1), .ref (b 2), .ref (b 3), .ref (b 4), .int 0])), (b 0, .inr (6, [.ref (b 5), .ref (b 6), .ref (b 7), .ref (b 8), .ref (b 9), .ref (b 10), .int 0]))] (fun r => x2 r) := by
  intro sz
  refine xstart (by decide) (Nat.le_of_ble_eq_true rfl) (fun p e s m args below meth c ls C0 hr hlocks hin hsz hP hK hD hN hl => ?_)
  obtain ⟨hx, hb, hml, hown, htl⟩ := id C0
  have hl : lv_has ls 3 [(0, .ref q0), (1, .int p0), (2, .int p1)] := hl
  refine lv_aload_n hx hb dX8_placeReason_0 rfl (lv_at hl 0 rfl) ?_
  refine lv_iload_n hx hb dX8_placeReason_1 rfl (lv_at hl 1 rfl) ?_
  refine xVri (rq := 0) (ci := 8) (wc := [(q0, .inr (8, [.ref qb, .ref qk, .ref qg, .ref qr, .int 0, .int 0])), (qb, .inr (0, [.ref (b 0), .ref (b 1), .ref (b 2), .ref (b 3), .ref (b 4), .int 0])), (b 0, .inr (6, [.ref (b 5), .ref (b 6), .ref (b 7), .ref (b 8), .ref (b 9), .ref (b 10), .int 0]))]) (As := [.int p0]) (rest := []) C0 (c_X8_contractReason l G q0 qb qk qg qr b p0) ok_X8_contractReason (mW189 : Cond.methodLink RX8 106 yX8_contractReason ∈ wsT) ⟨Nat.le_of_ble_eq_true rfl, Nat.le_of_ble_eq_true rfl⟩ hP hD hK hN [0, 1, 2] rfl (by decide) rfl rfl rfl rfl hl.1 rfl (Nat.le_of_ble_eq_true rfl) ⟨Nat.le_of_ble_eq_true rfl, Nat.le_of_ble_eq_true rfl⟩ dX8_placeReason_2 (fun r_1 hr_1 => ?_)
  refine lv_iload_n hx hb dX8_placeReason_5 rfl (lv_at hl 2 rfl) ?_
  refine lv_iconst (v := 0) hx hb dX8_placeReason_6 (by decide) ?_
  refine lv_bipush (v := 59) hx hb dX8_placeReason_7 (by decide) ?_
  refine xSri (wc := []) (As := [.int p1, .int 0, .int 59]) (rest := [.int r_1]) C0 (c_X8_within l G p1 0 59) ok_X8_within (mW193 : Cond.methodLink RX8 71 yX8_within ∈ wsT) ⟨Nat.le_of_ble_eq_true rfl, Nat.le_of_ble_eq_true rfl⟩ hP hD hK hN [] rfl (by decide) rfl hl.1 rfl (Nat.le_of_ble_eq_true rfl) ⟨Nat.le_of_ble_eq_true rfl, Nat.le_of_ble_eq_true rfl⟩ dX8_placeReason_9 (fun r_2 hr_2 => ?_)
  refine xSri (wc := []) (As := [.int r_2]) (rest := [.int r_1]) C0 (c_X8_number l G r_2) ok_X8_number (mW196 : Cond.methodLink RX8 54 yX8_number ∈ wsT) ⟨Nat.le_of_ble_eq_true rfl, Nat.le_of_ble_eq_true rfl⟩ hP hD hK hN [] rfl (by decide) rfl hl.1 rfl (Nat.le_of_ble_eq_true rfl) ⟨Nat.le_of_ble_eq_true rfl, Nat.le_of_ble_eq_true rfl⟩ dX8_placeReason_12 (fun r_3 hr_3 => ?_)
  have fr_3 : x3 r_3 := by rw [hr_3]; exact x3num _
  refine xSri (wc := []) (As := [.int r_1, .int r_3]) (rest := []) C0 (c_X8_least l G r_1 r_3) ok_X8_least (mW199 : Cond.methodLink RX8 58 yX8_least ∈ wsT) ⟨Nat.le_of_ble_eq_true rfl, Nat.le_of_ble_eq_true rfl⟩ hP hD hK hN [] rfl (by decide) rfl hl.1 rfl (Nat.le_of_ble_eq_true rfl) ⟨Nat.le_of_ble_eq_true rfl, Nat.le_of_ble_eq_true rfl⟩ dX8_placeReason_15 (fun r_4 hr_4 => ?_)
  have fr_4 : x2 r_4 := by rw [hr_4]; exact x2l hr_1 fr_3
  exact W.iret (v := r_4) hx hb hr (fun t ht hW => ⟨r_4, rfl, fr_4, ht⟩) (fun q hq => by cases hq) dX8_placeReason_18
theorem dX8_thingReason_0 : decode cX8_thingReason 0 = .ok (.aload_n 0, 1) := by decide +kernel
theorem dX8_thingReason_1 : decode cX8_thingReason 1 = .ok (.iload_n 1, 1) := by decide +kernel
theorem dX8_thingReason_2 : decode cX8_thingReason 2 = .ok (.iload_n 2, 1) := by decide +kernel
theorem dX8_thingReason_3 : decode cX8_thingReason 3 = .ok (.invokevirtual 46, 3) := by decide +kernel
theorem dX8_thingReason_6 : decode cX8_thingReason 6 = .ok (.istore_n 3, 1) := by decide +kernel
theorem dX8_thingReason_7 : decode cX8_thingReason 7 = .ok (.iload_n 3, 1) := by decide +kernel
theorem dX8_thingReason_8 : decode cX8_thingReason 8 = .ok (.ifCond .ne 28, 3) := by decide +kernel
theorem dX8_thingReason_36 : decode cX8_thingReason 36 = .ok (.iload_n 3, 1) := by decide +kernel
theorem dX8_thingReason_37 : decode cX8_thingReason 37 = .ok (.ireturn, 1) := by decide +kernel
set_option maxHeartbeats 4000000 in
set_option maxRecDepth 100000 in
theorem c_X8_thingReason (l : Launch) (G : xG) (q0 : Nat) (qb : Nat) (qk : Nat) (qg : Nat) (qr : Nat) (b : Nat → Nat) (p0 : Int32) (p1 : Int32)  : xRi l G yX8_thingReason cX8_thingReason 4 (some .int) 3 65 [.ref q0, .int p0, .int p1] [(q0, .inr (8, [.ref qb, .ref qk, .ref qg, .ref qr, .int 0, .int 0])), (qb, .inr (0, [.ref (b 0), .ref (b 1), .ref (b 2), .ref (b 3), .ref (b 4), .int 0])), (b 0, .inr (6, [.ref (b 5), .ref (b 6), .ref (b 7), .ref (b 8), .ref (b 9), .ref (b 10), .int 0]))] (fun r => x2 r) := by
  intro sz
  refine xstart (by decide) (Nat.le_of_ble_eq_true rfl) (fun p e s m args below meth c ls C0 hr hlocks hin hsz hP hK hD hN hl => ?_)
  obtain ⟨hx, hb, hml, hown, htl⟩ := id C0
  have hl : lv_has ls 4 [(0, .ref q0), (1, .int p0), (2, .int p1)] := hl
  refine lv_aload_n hx hb dX8_thingReason_0 rfl (lv_at hl 0 rfl) ?_
  refine lv_iload_n hx hb dX8_thingReason_1 rfl (lv_at hl 1 rfl) ?_
  refine lv_iload_n hx hb dX8_thingReason_2 rfl (lv_at hl 2 rfl) ?_
  refine xVri (rq := 0) (ci := 8) (wc := [(q0, .inr (8, [.ref qb, .ref qk, .ref qg, .ref qr, .int 0, .int 0])), (qb, .inr (0, [.ref (b 0), .ref (b 1), .ref (b 2), .ref (b 3), .ref (b 4), .int 0])), (b 0, .inr (6, [.ref (b 5), .ref (b 6), .ref (b 7), .ref (b 8), .ref (b 9), .ref (b 10), .int 0]))]) (As := [.int p0, .int p1]) (rest := []) C0 (c_X8_placeReason l G q0 qb qk qg qr b p0 p1) ok_X8_placeReason (mW185 : Cond.methodLink RX8 46 yX8_placeReason ∈ wsT) ⟨Nat.le_of_ble_eq_true rfl, Nat.le_of_ble_eq_true rfl⟩ hP hD hK hN [0, 1, 2] rfl (by decide) rfl rfl rfl rfl hl.1 rfl (Nat.le_of_ble_eq_true rfl) ⟨Nat.le_of_ble_eq_true rfl, Nat.le_of_ble_eq_true rfl⟩ dX8_thingReason_3 (fun r_1 hr_1 => ?_)
  refine lv_istore_n (lv' := [(3, .int r_1), (0, .ref q0), (1, .int p0), (2, .int p1)]) hx hb dX8_thingReason_6 rfl hl (by decide) rfl (fun ls hl => ?_)
  refine lv_iload_n hx hb dX8_thingReason_7 rfl (lv_at hl 0 rfl) ?_
  refine lv_if_ne (tgt := 36) hx hb dX8_thingReason_8 (by decide) (fun c_2 => ?_) (fun c_2 => absurd c_2 (xn0 hr_1))
  refine lv_iload_n hx hb dX8_thingReason_36 rfl (lv_at hl 0 rfl) ?_
  exact W.iret (v := r_1) hx hb hr (fun t ht hW => ⟨r_1, rfl, hr_1, ht⟩) (fun q hq => by cases hq) dX8_thingReason_37
theorem dX8_termReason_0 : decode cX8_termReason 0 = .ok (.aload_n 0, 1) := by decide +kernel
theorem dX8_termReason_1 : decode cX8_termReason 1 = .ok (.iload_n 1, 1) := by decide +kernel
theorem dX8_termReason_2 : decode cX8_termReason 2 = .ok (.iload_n 2, 1) := by decide +kernel
theorem dX8_termReason_3 : decode cX8_termReason 3 = .ok (.invokevirtual 91, 3) := by decide +kernel
theorem dX8_termReason_6 : decode cX8_termReason 6 = .ok (.istore_n 3, 1) := by decide +kernel
theorem dX8_termReason_7 : decode cX8_termReason 7 = .ok (.iload_n 3, 1) := by decide +kernel
theorem dX8_termReason_8 : decode cX8_termReason 8 = .ok (.ifCond .ne 27, 3) := by decide +kernel
theorem dX8_termReason_35 : decode cX8_termReason 35 = .ok (.iload_n 3, 1) := by decide +kernel
theorem dX8_termReason_36 : decode cX8_termReason 36 = .ok (.ireturn, 1) := by decide +kernel
set_option maxHeartbeats 4000000 in
set_option maxRecDepth 100000 in
theorem c_X8_termReason (l : Launch) (G : xG) (q0 : Nat) (qb : Nat) (qk : Nat) (qg : Nat) (qr : Nat) (b : Nat → Nat) (p0 : Int32) (p1 : Int32)  : xRi l G yX8_termReason cX8_termReason 4 (some .int) 4 88 [.ref q0, .int p0, .int p1] [(q0, .inr (8, [.ref qb, .ref qk, .ref qg, .ref qr, .int 0, .int 0])), (qb, .inr (0, [.ref (b 0), .ref (b 1), .ref (b 2), .ref (b 3), .ref (b 4), .int 0])), (b 0, .inr (6, [.ref (b 5), .ref (b 6), .ref (b 7), .ref (b 8), .ref (b 9), .ref (b 10), .int 0]))] (fun r => x2 r) := by
  intro sz
  refine xstart (by decide) (Nat.le_of_ble_eq_true rfl) (fun p e s m args below meth c ls C0 hr hlocks hin hsz hP hK hD hN hl => ?_)
  obtain ⟨hx, hb, hml, hown, htl⟩ := id C0
  have hl : lv_has ls 4 [(0, .ref q0), (1, .int p0), (2, .int p1)] := hl
  refine lv_aload_n hx hb dX8_termReason_0 rfl (lv_at hl 0 rfl) ?_
  refine lv_iload_n hx hb dX8_termReason_1 rfl (lv_at hl 1 rfl) ?_
  refine lv_iload_n hx hb dX8_termReason_2 rfl (lv_at hl 2 rfl) ?_
  refine xVri (rq := 0) (ci := 8) (wc := [(q0, .inr (8, [.ref qb, .ref qk, .ref qg, .ref qr, .int 0, .int 0])), (qb, .inr (0, [.ref (b 0), .ref (b 1), .ref (b 2), .ref (b 3), .ref (b 4), .int 0])), (b 0, .inr (6, [.ref (b 5), .ref (b 6), .ref (b 7), .ref (b 8), .ref (b 9), .ref (b 10), .int 0]))]) (As := [.int p0, .int p1]) (rest := []) C0 (c_X8_thingReason l G q0 qb qk qg qr b p0 p1) ok_X8_thingReason (mW240 : Cond.methodLink RX8 91 yX8_thingReason ∈ wsT) ⟨Nat.le_of_ble_eq_true rfl, Nat.le_of_ble_eq_true rfl⟩ hP hD hK hN [0, 1, 2] rfl (by decide) rfl rfl rfl rfl hl.1 rfl (Nat.le_of_ble_eq_true rfl) ⟨Nat.le_of_ble_eq_true rfl, Nat.le_of_ble_eq_true rfl⟩ dX8_termReason_3 (fun r_1 hr_1 => ?_)
  refine lv_istore_n (lv' := [(3, .int r_1), (0, .ref q0), (1, .int p0), (2, .int p1)]) hx hb dX8_termReason_6 rfl hl (by decide) rfl (fun ls hl => ?_)
  refine lv_iload_n hx hb dX8_termReason_7 rfl (lv_at hl 0 rfl) ?_
  refine lv_if_ne (tgt := 35) hx hb dX8_termReason_8 (by decide) (fun c_2 => ?_) (fun c_2 => absurd c_2 (xn0 hr_1))
  refine lv_iload_n hx hb dX8_termReason_35 rfl (lv_at hl 0 rfl) ?_
  exact W.iret (v := r_1) hx hb hr (fun t ht hW => ⟨r_1, rfl, hr_1, ht⟩) (fun q hq => by cases hq) dX8_termReason_36
theorem dX0_portAt_0 : decode cX0_portAt 0 = .ok (.iload_n 1, 1) := by decide +kernel
theorem dX0_portAt_1 : decode cX0_portAt 1 = .ok (.ifCond .lt 21, 3) := by decide +kernel
theorem dX0_portAt_4 : decode cX0_portAt 4 = .ok (.iload_n 1, 1) := by decide +kernel
theorem dX0_portAt_5 : decode cX0_portAt 5 = .ok (.aload_n 0, 1) := by decide +kernel
theorem dX0_portAt_6 : decode cX0_portAt 6 = .ok (.getfield 34, 3) := by decide +kernel
theorem dX0_portAt_9 : decode cX0_portAt 9 = .ok (.arraylength, 1) := by decide +kernel
theorem dX0_portAt_10 : decode cX0_portAt 10 = .ok (.if_icmp .ge 12, 3) := by decide +kernel
theorem dX0_portAt_13 : decode cX0_portAt 13 = .ok (.aload_n 0, 1) := by decide +kernel
theorem dX0_portAt_14 : decode cX0_portAt 14 = .ok (.getfield 34, 3) := by decide +kernel
theorem dX0_portAt_17 : decode cX0_portAt 17 = .ok (.iload_n 1, 1) := by decide +kernel
theorem dX0_portAt_18 : decode cX0_portAt 18 = .ok (.aaload, 1) := by decide +kernel
theorem dX0_portAt_19 : decode cX0_portAt 19 = .ok (.goto 7, 3) := by decide +kernel
theorem dX0_portAt_22 : decode cX0_portAt 22 = .ok (.aload_n 0, 1) := by decide +kernel
theorem dX0_portAt_23 : decode cX0_portAt 23 = .ok (.getfield 39, 3) := by decide +kernel
theorem dX0_portAt_26 : decode cX0_portAt 26 = .ok (.areturn, 1) := by decide +kernel
set_option maxHeartbeats 4000000 in
set_option maxRecDepth 100000 in
/-- Book.portAt(p) -/
theorem c_X0_portAt (l : Launch) (G : xG) (qb : Nat) (b : Nat → Nat) (pf : Nat → Option Nat) (p0 : Int32) (hpf : ∀ k, k < 8 → pf k = some (b (16 + k))) : xRr l G yX0_portAt cX0_portAt 2 (some (.object "LaytimeDesk$Port")) 0 0 [.ref qb, .int p0] [(qb, .inr (0, [.ref (b 0), .ref (b 1), .ref (b 2), .ref (b 3), .ref (b 4), .int 0])), (b 3, .inl (G.2 5, 8, .inr (.inr (.inr (.inr pf)))))] (fun r => (∃ k, k < 8 ∧ p0 = nI k ∧ r = b (16 + k)) ∨ ((p0 < 0 ∨ nI 8 ≤ p0) ∧ r = b 4)) := by
  intro sz
  refine xstart (by decide) (Nat.le_of_ble_eq_true rfl) (fun p e s m args below meth c ls C0 hr hlocks hin hsz hP hK hD hN hl => ?_)
  obtain ⟨hx, hb, hml, hown, htl⟩ := id C0
  have hl : lv_has ls 2 [(0, .ref qb), (1, .int p0)] := hl
  refine lv_iload_n hx hb dX0_portAt_0 rfl (lv_at hl 1 rfl) ?_
  refine lv_if_lt (tgt := 22) hx hb dX0_portAt_1 (by decide) (fun c_1 => ?_) (fun c_1 => ?_)
  · refine lv_aload_n hx hb dX0_portAt_22 rfl (lv_at hl 0 rfl) ?_
    refine va_get (D := G.1) (ci := 0) (v := .ref (b 4)) (C := RX0) (T := TX0) (N := 6) hx hb htl inlX0 hown hK hP 0 rfl rfl 4 (by decide) (htl (.fieldLink RX0 39 "LaytimeDesk$Book" "nowhere" "LLaytimeDesk$Port;") mW44) (fun _ h9 => h9) rfl dX0_portAt_23 ?_
    exact W.aret (v := .ref (b 4)) hx hb hr (Or.inl ⟨_, rfl⟩) (Or.inr ⟨_, rfl⟩) (fun t ht hW => ⟨b 4, rfl, Or.inr ⟨Or.inl c_1, rfl⟩, ht⟩) (fun q hq => by cases hq) dX0_portAt_26
  · refine lv_iload_n hx hb dX0_portAt_4 rfl (lv_at hl 1 rfl) ?_
    refine lv_aload_n hx hb dX0_portAt_5 rfl (lv_at hl 0 rfl) ?_
    refine va_get (D := G.1) (ci := 0) (v := .ref (b 3)) (C := RX0) (T := TX0) (N := 6) hx hb htl inlX0 hown hK hP 0 rfl rfl 3 (by decide) (htl (.fieldLink RX0 34 "LaytimeDesk$Book" "ports" "[LLaytimeDesk$Port;") mW41) (fun _ h9 => h9) rfl dX0_portAt_6 ?_
    refine va_alen (v := 8) hx hb hK hP 1 5 rfl rfl (show Int32.ofNat 8 = 8 by decide +kernel) dX0_portAt_9 ?_
    refine lv_icmp_ge (tgt := 22) hx hb dX0_portAt_10 (by decide) (fun c_2 => ?_) (fun c_2 => ?_)
    · refine lv_aload_n hx hb dX0_portAt_22 rfl (lv_at hl 0 rfl) ?_
      refine va_get (D := G.1) (ci := 0) (v := .ref (b 4)) (C := RX0) (T := TX0) (N := 6) hx hb htl inlX0 hown hK hP 0 rfl rfl 4 (by decide) (htl (.fieldLink RX0 39 "LaytimeDesk$Book" "nowhere" "LLaytimeDesk$Port;") mW44) (fun _ h9 => h9) rfl dX0_portAt_23 ?_
      exact W.aret (v := .ref (b 4)) hx hb hr (Or.inl ⟨_, rfl⟩) (Or.inr ⟨_, rfl⟩) (fun t ht hW => ⟨b 4, rfl, Or.inr ⟨Or.inr c_2, rfl⟩, ht⟩) (fun q hq => by cases hq) dX0_portAt_26
    · refine lv_aload_n hx hb dX0_portAt_13 rfl (lv_at hl 0 rfl) ?_
      refine va_get (D := G.1) (ci := 0) (v := .ref (b 3)) (C := RX0) (T := TX0) (N := 6) hx hb htl inlX0 hown hK hP 0 rfl rfl 3 (by decide) (htl (.fieldLink RX0 34 "LaytimeDesk$Book" "ports" "[LLaytimeDesk$Port;") mW41) (fun _ h9 => h9) rfl dX0_portAt_14 ?_
      refine lv_iload_n hx hb dX0_portAt_17 rfl (lv_at hl 1 rfl) ?_
      refine va_aldq hx hb hK hP 1 5 rfl rfl (xin (n := 8) c_1 c_2 (by decide)) dX0_portAt_18 ?_
      obtain ⟨k_3, hk_3, ek_3⟩ := xnI (n := 8) c_1 c_2 (by decide)
      subst ek_3
      rw [nI_clamp (by omega), hpf k_3 hk_3]
      refine W.eq (g2 := F0 m 19 ls [.ref (b (16 + k_3))]) rfl ?_
      refine lv_goto (tgt := 26) hx hb dX0_portAt_19 (by decide) ?_
      exact W.aret (v := .ref (b (16 + k_3))) hx hb hr (Or.inl ⟨_, rfl⟩) (Or.inr ⟨_, rfl⟩) (fun t ht hW => ⟨b (16 + k_3), rfl, Or.inl ⟨k_3, hk_3, rfl, rfl⟩, ht⟩) (fun q hq => by cases hq) dX0_portAt_26
theorem dX8_portReason_0 : decode cX8_portReason 0 = .ok (.iload_n 1, 1) := by decide +kernel
theorem dX8_portReason_1 : decode cX8_portReason 1 = .ok (.iconst 0, 1) := by decide +kernel
theorem dX8_portReason_2 : decode cX8_portReason 2 = .ok (.bipush 7, 2) := by decide +kernel
theorem dX8_portReason_4 : decode cX8_portReason 4 = .ok (.invokestatic 71, 3) := by decide +kernel
theorem dX8_portReason_7 : decode cX8_portReason 7 = .ok (.ifCond .ne 5, 3) := by decide +kernel
theorem dX8_portReason_10 : decode cX8_portReason 10 = .ok (.iconst 1, 1) := by decide +kernel
theorem dX8_portReason_11 : decode cX8_portReason 11 = .ok (.ireturn, 1) := by decide +kernel
theorem dX8_portReason_12 : decode cX8_portReason 12 = .ok (.aload_n 0, 1) := by decide +kernel
theorem dX8_portReason_13 : decode cX8_portReason 13 = .ok (.getfield 12, 3) := by decide +kernel
theorem dX8_portReason_16 : decode cX8_portReason 16 = .ok (.iload_n 1, 1) := by decide +kernel
theorem dX8_portReason_17 : decode cX8_portReason 17 = .ok (.invokevirtual 114, 3) := by decide +kernel
theorem dX8_portReason_20 : decode cX8_portReason 20 = .ok (.getfield 167, 3) := by decide +kernel
theorem dX8_portReason_23 : decode cX8_portReason 23 = .ok (.ifCond .le 7, 3) := by decide +kernel
theorem dX8_portReason_30 : decode cX8_portReason 30 = .ok (.iconst 2, 1) := by decide +kernel
theorem dX8_portReason_31 : decode cX8_portReason 31 = .ok (.ireturn, 1) := by decide +kernel
set_option maxHeartbeats 4000000 in
set_option maxRecDepth 100000 in
/-- portReason(p) where no PORT is open -/
theorem c_X8_portReason (l : Launch) (G : xG) (q0 : Nat) (qb : Nat) (qk : Nat) (qg : Nat) (qr : Nat) (b : Nat → Nat) (pf : Nat → Option Nat) (p0 : Int32) (hpf : ∀ k, k < 8 → pf k = some (b (16 + k))) : xRi l G yX8_portReason cX8_portReason 2 (some .int) 1 22 [.ref q0, .int p0] [(q0, .inr (8, [.ref qb, .ref qk, .ref qg, .ref qr, .int 0, .int 0])), (qb, .inr (0, [.ref (b 0), .ref (b 1), .ref (b 2), .ref (b 3), .ref (b 4), .int 0])), (b 3, .inl (G.2 5, 8, .inr (.inr (.inr (.inr pf))))), (b 16, .inr (4, [.ref (b 24), .ref (b 32), .int 0, .int 0, .int 0, .int 0, .int 0, .int 0, .long 0, .long 0, .long 0])), (b 17, .inr (4, [.ref (b 25), .ref (b 33), .int 0, .int 0, .int 0, .int 0, .int 0, .int 0, .long 0, .long 0, .long 0])), (b 18, .inr (4, [.ref (b 26), .ref (b 34), .int 0, .int 0, .int 0, .int 0, .int 0, .int 0, .long 0, .long 0, .long 0])), (b 19, .inr (4, [.ref (b 27), .ref (b 35), .int 0, .int 0, .int 0, .int 0, .int 0, .int 0, .long 0, .long 0, .long 0])), (b 20, .inr (4, [.ref (b 28), .ref (b 36), .int 0, .int 0, .int 0, .int 0, .int 0, .int 0, .long 0, .long 0, .long 0])), (b 21, .inr (4, [.ref (b 29), .ref (b 37), .int 0, .int 0, .int 0, .int 0, .int 0, .int 0, .long 0, .long 0, .long 0])), (b 22, .inr (4, [.ref (b 30), .ref (b 38), .int 0, .int 0, .int 0, .int 0, .int 0, .int 0, .long 0, .long 0, .long 0])), (b 23, .inr (4, [.ref (b 31), .ref (b 39), .int 0, .int 0, .int 0, .int 0, .int 0, .int 0, .long 0, .long 0, .long 0]))] (fun r => x2 r) := by
  intro sz
  refine xstart (by decide) (Nat.le_of_ble_eq_true rfl) (fun p e s m args below meth c ls C0 hr hlocks hin hsz hP hK hD hN hl => ?_)
  obtain ⟨hx, hb, hml, hown, htl⟩ := id C0
  have hl : lv_has ls 2 [(0, .ref q0), (1, .int p0)] := hl
  refine lv_iload_n hx hb dX8_portReason_0 rfl (lv_at hl 1 rfl) ?_
  refine lv_iconst (v := 0) hx hb dX8_portReason_1 (by decide) ?_
  refine lv_bipush (v := 7) hx hb dX8_portReason_2 (by decide) ?_
  refine xSri (wc := []) (As := [.int p0, .int 0, .int 7]) (rest := []) C0 (c_X8_within l G p0 0 7) ok_X8_within (mW193 : Cond.methodLink RX8 71 yX8_within ∈ wsT) ⟨Nat.le_of_ble_eq_true rfl, Nat.le_of_ble_eq_true rfl⟩ hP hD hK hN [] rfl (by decide) rfl hl.1 rfl (Nat.le_of_ble_eq_true rfl) ⟨Nat.le_of_ble_eq_true rfl, Nat.le_of_ble_eq_true rfl⟩ dX8_portReason_4 (fun r_1 hr_1 => ?_)
  refine lv_if_ne (tgt := 12) hx hb dX8_portReason_7 (by decide) (fun c_2 => ?_) (fun c_2 => ?_)
  · refine lv_aload_n hx hb dX8_portReason_12 rfl (lv_at hl 0 rfl) ?_
    refine va_get (D := G.1) (ci := 8) (v := .ref qb) (C := RX8) (T := TX8) (N := 6) hx hb htl inlX8 hown hK hP 0 rfl rfl 0 (by decide) (htl (.fieldLink RX8 12 "LaytimeDesk" "now" "LLaytimeDesk$Book;") mW16) (fun _ h9 => h9) rfl dX8_portReason_13 ?_
    refine lv_iload_n hx hb dX8_portReason_16 rfl (lv_at hl 1 rfl) ?_
    refine xVrr (rq := 1) (ci := 0) (wc := [(qb, .inr (0, [.ref (b 0), .ref (b 1), .ref (b 2), .ref (b 3), .ref (b 4), .int 0])), (b 3, .inl (G.2 5, 8, .inr (.inr (.inr (.inr pf)))))]) (As := [.int p0]) (rest := []) C0 (c_X0_portAt l G qb b pf p0 hpf) ok_X0_portAt (mW337 : Cond.methodLink RX8 114 yX0_portAt ∈ wsT) ⟨Nat.le_of_ble_eq_true rfl, Nat.le_of_ble_eq_true rfl⟩ hP hD hK hN [1, 2] rfl (by decide) rfl rfl rfl rfl hl.1 rfl (Nat.le_of_ble_eq_true rfl) ⟨Nat.le_of_ble_eq_true rfl, Nat.le_of_ble_eq_true rfl⟩ dX8_portReason_17 (fun r_3 hr_3 => ?_)
    obtain ⟨k_4, hk_4, hr_3⟩ := xport hr_3 (show ¬ p0 < 0 ∧ ¬ 7 < p0 by rcases hr_1 with ⟨_, h⟩ | ⟨h, _⟩; exact h; exact absurd h c_2)
    obtain rfl | rfl | rfl | rfl | rfl | rfl | rfl | rfl : k_4 = 0 ∨ k_4 = 1 ∨ k_4 = 2 ∨ k_4 = 3 ∨ k_4 = 4 ∨ k_4 = 5 ∨ k_4 = 6 ∨ k_4 = 7 := by omega
    · obtain rfl : r_3 = b 16 := hr_3
      refine va_get (D := G.1) (ci := 4) (v := .int 0) (C := RX4) (T := TX4) (N := 11) hx hb htl inlX4 hown hK hP 3 rfl rfl 2 (by decide) (htl (.fieldLink RX8 167 "LaytimeDesk$Port" "days" "I") mW378) (fun _ h9 => h9) rfl dX8_portReason_20 ?_
      refine lv_if_le (tgt := 30) hx hb dX8_portReason_23 (by decide) (fun c_5 => ?_) (fun c_5 => absurd c_5 (by decide +kernel))
      refine lv_iconst (v := 2) hx hb dX8_portReason_30 (by decide) ?_
      exact W.iret (v := 2) hx hb hr (fun t ht hW => ⟨2, rfl, (Or.inr rfl : x2 2), ht⟩) (fun q hq => by cases hq) dX8_portReason_31
    · obtain rfl : r_3 = b 17 := hr_3
      refine va_get (D := G.1) (ci := 4) (v := .int 0) (C := RX4) (T := TX4) (N := 11) hx hb htl inlX4 hown hK hP 4 rfl rfl 2 (by decide) (htl (.fieldLink RX8 167 "LaytimeDesk$Port" "days" "I") mW378) (fun _ h9 => h9) rfl dX8_portReason_20 ?_
      refine lv_if_le (tgt := 30) hx hb dX8_portReason_23 (by decide) (fun c_6 => ?_) (fun c_6 => absurd c_6 (by decide +kernel))
      refine lv_iconst (v := 2) hx hb dX8_portReason_30 (by decide) ?_
      exact W.iret (v := 2) hx hb hr (fun t ht hW => ⟨2, rfl, (Or.inr rfl : x2 2), ht⟩) (fun q hq => by cases hq) dX8_portReason_31
    · obtain rfl : r_3 = b 18 := hr_3
      refine va_get (D := G.1) (ci := 4) (v := .int 0) (C := RX4) (T := TX4) (N := 11) hx hb htl inlX4 hown hK hP 5 rfl rfl 2 (by decide) (htl (.fieldLink RX8 167 "LaytimeDesk$Port" "days" "I") mW378) (fun _ h9 => h9) rfl dX8_portReason_20 ?_
      refine lv_if_le (tgt := 30) hx hb dX8_portReason_23 (by decide) (fun c_7 => ?_) (fun c_7 => absurd c_7 (by decide +kernel))
      refine lv_iconst (v := 2) hx hb dX8_portReason_30 (by decide) ?_
      exact W.iret (v := 2) hx hb hr (fun t ht hW => ⟨2, rfl, (Or.inr rfl : x2 2), ht⟩) (fun q hq => by cases hq) dX8_portReason_31
    · obtain rfl : r_3 = b 19 := hr_3
      refine va_get (D := G.1) (ci := 4) (v := .int 0) (C := RX4) (T := TX4) (N := 11) hx hb htl inlX4 hown hK hP 6 rfl rfl 2 (by decide) (htl (.fieldLink RX8 167 "LaytimeDesk$Port" "days" "I") mW378) (fun _ h9 => h9) rfl dX8_portReason_20 ?_
      refine lv_if_le (tgt := 30) hx hb dX8_portReason_23 (by decide) (fun c_8 => ?_) (fun c_8 => absurd c_8 (by decide +kernel))
      refine lv_iconst (v := 2) hx hb dX8_portReason_30 (by decide) ?_
      exact W.iret (v := 2) hx hb hr (fun t ht hW => ⟨2, rfl, (Or.inr rfl : x2 2), ht⟩) (fun q hq => by cases hq) dX8_portReason_31
    · obtain rfl : r_3 = b 20 := hr_3
      refine va_get (D := G.1) (ci := 4) (v := .int 0) (C := RX4) (T := TX4) (N := 11) hx hb htl inlX4 hown hK hP 7 rfl rfl 2 (by decide) (htl (.fieldLink RX8 167 "LaytimeDesk$Port" "days" "I") mW378) (fun _ h9 => h9) rfl dX8_portReason_20 ?_
      refine lv_if_le (tgt := 30) hx hb dX8_portReason_23 (by decide) (fun c_9 => ?_) (fun c_9 => absurd c_9 (by decide +kernel))
      refine lv_iconst (v := 2) hx hb dX8_portReason_30 (by decide) ?_
      exact W.iret (v := 2) hx hb hr (fun t ht hW => ⟨2, rfl, (Or.inr rfl : x2 2), ht⟩) (fun q hq => by cases hq) dX8_portReason_31
    · obtain rfl : r_3 = b 21 := hr_3
      refine va_get (D := G.1) (ci := 4) (v := .int 0) (C := RX4) (T := TX4) (N := 11) hx hb htl inlX4 hown hK hP 8 rfl rfl 2 (by decide) (htl (.fieldLink RX8 167 "LaytimeDesk$Port" "days" "I") mW378) (fun _ h9 => h9) rfl dX8_portReason_20 ?_
      refine lv_if_le (tgt := 30) hx hb dX8_portReason_23 (by decide) (fun c_10 => ?_) (fun c_10 => absurd c_10 (by decide +kernel))
      refine lv_iconst (v := 2) hx hb dX8_portReason_30 (by decide) ?_
      exact W.iret (v := 2) hx hb hr (fun t ht hW => ⟨2, rfl, (Or.inr rfl : x2 2), ht⟩) (fun q hq => by cases hq) dX8_portReason_31
    · obtain rfl : r_3 = b 22 := hr_3
      refine va_get (D := G.1) (ci := 4) (v := .int 0) (C := RX4) (T := TX4) (N := 11) hx hb htl inlX4 hown hK hP 9 rfl rfl 2 (by decide) (htl (.fieldLink RX8 167 "LaytimeDesk$Port" "days" "I") mW378) (fun _ h9 => h9) rfl dX8_portReason_20 ?_
      refine lv_if_le (tgt := 30) hx hb dX8_portReason_23 (by decide) (fun c_11 => ?_) (fun c_11 => absurd c_11 (by decide +kernel))
      refine lv_iconst (v := 2) hx hb dX8_portReason_30 (by decide) ?_
      exact W.iret (v := 2) hx hb hr (fun t ht hW => ⟨2, rfl, (Or.inr rfl : x2 2), ht⟩) (fun q hq => by cases hq) dX8_portReason_31
    · obtain rfl : r_3 = b 23 := hr_3
      refine va_get (D := G.1) (ci := 4) (v := .int 0) (C := RX4) (T := TX4) (N := 11) hx hb htl inlX4 hown hK hP 10 rfl rfl 2 (by decide) (htl (.fieldLink RX8 167 "LaytimeDesk$Port" "days" "I") mW378) (fun _ h9 => h9) rfl dX8_portReason_20 ?_
      refine lv_if_le (tgt := 30) hx hb dX8_portReason_23 (by decide) (fun c_12 => ?_) (fun c_12 => absurd c_12 (by decide +kernel))
      refine lv_iconst (v := 2) hx hb dX8_portReason_30 (by decide) ?_
      exact W.iret (v := 2) hx hb hr (fun t ht hW => ⟨2, rfl, (Or.inr rfl : x2 2), ht⟩) (fun q hq => by cases hq) dX8_portReason_31
  · refine lv_iconst (v := 1) hx hb dX8_portReason_10 (by decide) ?_
    exact W.iret (v := 1) hx hb hr (fun t ht hW => ⟨1, rfl, (Or.inl rfl : x2 1), ht⟩) (fun q hq => by cases hq) dX8_portReason_11
theorem dX8_dayReason_0 : decode cX8_dayReason 0 = .ok (.aload_n 0, 1) := by decide +kernel
theorem dX8_dayReason_1 : decode cX8_dayReason 1 = .ok (.iload_n 1, 1) := by decide +kernel
theorem dX8_dayReason_2 : decode cX8_dayReason 2 = .ok (.invokevirtual 124, 3) := by decide +kernel
theorem dX8_dayReason_5 : decode cX8_dayReason 5 = .ok (.iload_n 2, 1) := by decide +kernel
theorem dX8_dayReason_6 : decode cX8_dayReason 6 = .ok (.iconst 0, 1) := by decide +kernel
theorem dX8_dayReason_7 : decode cX8_dayReason 7 = .ok (.bipush 89, 2) := by decide +kernel
theorem dX8_dayReason_9 : decode cX8_dayReason 9 = .ok (.invokestatic 71, 3) := by decide +kernel
theorem dX8_dayReason_12 : decode cX8_dayReason 12 = .ok (.invokestatic 54, 3) := by decide +kernel
theorem dX8_dayReason_15 : decode cX8_dayReason 15 = .ok (.invokestatic 58, 3) := by decide +kernel
theorem dX8_dayReason_18 : decode cX8_dayReason 18 = .ok (.istore_n 3, 1) := by decide +kernel
theorem dX8_dayReason_19 : decode cX8_dayReason 19 = .ok (.iload_n 3, 1) := by decide +kernel
theorem dX8_dayReason_20 : decode cX8_dayReason 20 = .ok (.ifCond .ne 20, 3) := by decide +kernel
theorem dX8_dayReason_40 : decode cX8_dayReason 40 = .ok (.iload_n 3, 1) := by decide +kernel
theorem dX8_dayReason_41 : decode cX8_dayReason 41 = .ok (.ireturn, 1) := by decide +kernel
set_option maxHeartbeats 4000000 in
set_option maxRecDepth 100000 in
theorem c_X8_dayReason (l : Launch) (G : xG) (q0 : Nat) (qb : Nat) (qk : Nat) (qg : Nat) (qr : Nat) (b : Nat → Nat) (pf : Nat → Option Nat) (p0 : Int32) (p1 : Int32) (hpf : ∀ k, k < 8 → pf k = some (b (16 + k))) : xRi l G yX8_dayReason cX8_dayReason 4 (some .int) 2 43 [.ref q0, .int p0, .int p1] [(q0, .inr (8, [.ref qb, .ref qk, .ref qg, .ref qr, .int 0, .int 0])), (qb, .inr (0, [.ref (b 0), .ref (b 1), .ref (b 2), .ref (b 3), .ref (b 4), .int 0])), (b 3, .inl (G.2 5, 8, .inr (.inr (.inr (.inr pf))))), (b 16, .inr (4, [.ref (b 24), .ref (b 32), .int 0, .int 0, .int 0, .int 0, .int 0, .int 0, .long 0, .long 0, .long 0])), (b 17, .inr (4, [.ref (b 25), .ref (b 33), .int 0, .int 0, .int 0, .int 0, .int 0, .int 0, .long 0, .long 0, .long 0])), (b 18, .inr (4, [.ref (b 26), .ref (b 34), .int 0, .int 0, .int 0, .int 0, .int 0, .int 0, .long 0, .long 0, .long 0])), (b 19, .inr (4, [.ref (b 27), .ref (b 35), .int 0, .int 0, .int 0, .int 0, .int 0, .int 0, .long 0, .long 0, .long 0])), (b 20, .inr (4, [.ref (b 28), .ref (b 36), .int 0, .int 0, .int 0, .int 0, .int 0, .int 0, .long 0, .long 0, .long 0])), (b 21, .inr (4, [.ref (b 29), .ref (b 37), .int 0, .int 0, .int 0, .int 0, .int 0, .int 0, .long 0, .long 0, .long 0])), (b 22, .inr (4, [.ref (b 30), .ref (b 38), .int 0, .int 0, .int 0, .int 0, .int 0, .int 0, .long 0, .long 0, .long 0])), (b 23, .inr (4, [.ref (b 31), .ref (b 39), .int 0, .int 0, .int 0, .int 0, .int 0, .int 0, .long 0, .long 0, .long 0]))] (fun r => x2 r) := by
  intro sz
  refine xstart (by decide) (Nat.le_of_ble_eq_true rfl) (fun p e s m args below meth c ls C0 hr hlocks hin hsz hP hK hD hN hl => ?_)
  obtain ⟨hx, hb, hml, hown, htl⟩ := id C0
  have hl : lv_has ls 4 [(0, .ref q0), (1, .int p0), (2, .int p1)] := hl
  refine lv_aload_n hx hb dX8_dayReason_0 rfl (lv_at hl 0 rfl) ?_
  refine lv_iload_n hx hb dX8_dayReason_1 rfl (lv_at hl 1 rfl) ?_
  refine xVri (rq := 0) (ci := 8) (wc := [(q0, .inr (8, [.ref qb, .ref qk, .ref qg, .ref qr, .int 0, .int 0])), (qb, .inr (0, [.ref (b 0), .ref (b 1), .ref (b 2), .ref (b 3), .ref (b 4), .int 0])), (b 3, .inl (G.2 5, 8, .inr (.inr (.inr (.inr pf))))), (b 16, .inr (4, [.ref (b 24), .ref (b 32), .int 0, .int 0, .int 0, .int 0, .int 0, .int 0, .long 0, .long 0, .long 0])), (b 17, .inr (4, [.ref (b 25), .ref (b 33), .int 0, .int 0, .int 0, .int 0, .int 0, .int 0, .long 0, .long 0, .long 0])), (b 18, .inr (4, [.ref (b 26), .ref (b 34), .int 0, .int 0, .int 0, .int 0, .int 0, .int 0, .long 0, .long 0, .long 0])), (b 19, .inr (4, [.ref (b 27), .ref (b 35), .int 0, .int 0, .int 0, .int 0, .int 0, .int 0, .long 0, .long 0, .long 0])), (b 20, .inr (4, [.ref (b 28), .ref (b 36), .int 0, .int 0, .int 0, .int 0, .int 0, .int 0, .long 0, .long 0, .long 0])), (b 21, .inr (4, [.ref (b 29), .ref (b 37), .int 0, .int 0, .int 0, .int 0, .int 0, .int 0, .long 0, .long 0, .long 0])), (b 22, .inr (4, [.ref (b 30), .ref (b 38), .int 0, .int 0, .int 0, .int 0, .int 0, .int 0, .long 0, .long 0, .long 0])), (b 23, .inr (4, [.ref (b 31), .ref (b 39), .int 0, .int 0, .int 0, .int 0, .int 0, .int 0, .long 0, .long 0, .long 0]))]) (As := [.int p0]) (rest := []) C0 (c_X8_portReason l G q0 qb qk qg qr b pf p0 hpf) ok_X8_portReason (mW374 : Cond.methodLink RX8 124 yX8_portReason ∈ wsT) ⟨Nat.le_of_ble_eq_true rfl, Nat.le_of_ble_eq_true rfl⟩ hP hD hK hN [0, 1, 2, 3, 4, 5, 6, 7, 8, 9, 10] rfl (by decide) rfl rfl rfl rfl hl.1 rfl (Nat.le_of_ble_eq_true rfl) ⟨Nat.le_of_ble_eq_true rfl, Nat.le_of_ble_eq_true rfl⟩ dX8_dayReason_2 (fun r_1 hr_1 => ?_)
  refine lv_iload_n hx hb dX8_dayReason_5 rfl (lv_at hl 2 rfl) ?_
  refine lv_iconst (v := 0) hx hb dX8_dayReason_6 (by decide) ?_
  refine lv_bipush (v := 89) hx hb dX8_dayReason_7 (by decide) ?_
  refine xSri (wc := []) (As := [.int p1, .int 0, .int 89]) (rest := [.int r_1]) C0 (c_X8_within l G p1 0 89) ok_X8_within (mW193 : Cond.methodLink RX8 71 yX8_within ∈ wsT) ⟨Nat.le_of_ble_eq_true rfl, Nat.le_of_ble_eq_true rfl⟩ hP hD hK hN [] rfl (by decide) rfl hl.1 rfl (Nat.le_of_ble_eq_true rfl) ⟨Nat.le_of_ble_eq_true rfl, Nat.le_of_ble_eq_true rfl⟩ dX8_dayReason_9 (fun r_2 hr_2 => ?_)
  refine xSri (wc := []) (As := [.int r_2]) (rest := [.int r_1]) C0 (c_X8_number l G r_2) ok_X8_number (mW196 : Cond.methodLink RX8 54 yX8_number ∈ wsT) ⟨Nat.le_of_ble_eq_true rfl, Nat.le_of_ble_eq_true rfl⟩ hP hD hK hN [] rfl (by decide) rfl hl.1 rfl (Nat.le_of_ble_eq_true rfl) ⟨Nat.le_of_ble_eq_true rfl, Nat.le_of_ble_eq_true rfl⟩ dX8_dayReason_12 (fun r_3 hr_3 => ?_)
  have fr_3 : x3 r_3 := by rw [hr_3]; exact x3num _
  refine xSri (wc := []) (As := [.int r_1, .int r_3]) (rest := []) C0 (c_X8_least l G r_1 r_3) ok_X8_least (mW199 : Cond.methodLink RX8 58 yX8_least ∈ wsT) ⟨Nat.le_of_ble_eq_true rfl, Nat.le_of_ble_eq_true rfl⟩ hP hD hK hN [] rfl (by decide) rfl hl.1 rfl (Nat.le_of_ble_eq_true rfl) ⟨Nat.le_of_ble_eq_true rfl, Nat.le_of_ble_eq_true rfl⟩ dX8_dayReason_15 (fun r_4 hr_4 => ?_)
  have fr_4 : x2 r_4 := by rw [hr_4]; exact x2l hr_1 fr_3
  refine lv_istore_n (lv' := [(3, .int r_4), (0, .ref q0), (1, .int p0), (2, .int p1)]) hx hb dX8_dayReason_18 rfl hl (by decide) rfl (fun ls hl => ?_)
  refine lv_iload_n hx hb dX8_dayReason_19 rfl (lv_at hl 0 rfl) ?_
  refine lv_if_ne (tgt := 40) hx hb dX8_dayReason_20 (by decide) (fun c_5 => ?_) (fun c_5 => absurd c_5 (xn0 fr_4))
  refine lv_iload_n hx hb dX8_dayReason_40 rfl (lv_at hl 0 rfl) ?_
  exact W.iret (v := r_4) hx hb hr (fun t ht hW => ⟨r_4, rfl, fr_4, ht⟩) (fun q hq => by cases hq) dX8_dayReason_41
theorem dX8_thereReason_0 : decode cX8_thereReason 0 = .ok (.aload_n 0, 1) := by decide +kernel
theorem dX8_thereReason_1 : decode cX8_thereReason 1 = .ok (.iload_n 1, 1) := by decide +kernel
theorem dX8_thereReason_2 : decode cX8_thereReason 2 = .ok (.iload_n 2, 1) := by decide +kernel
theorem dX8_thereReason_3 : decode cX8_thereReason 3 = .ok (.invokevirtual 149, 3) := by decide +kernel
theorem dX8_thereReason_6 : decode cX8_thereReason 6 = .ok (.istore_n 3, 1) := by decide +kernel
theorem dX8_thereReason_7 : decode cX8_thereReason 7 = .ok (.iload_n 3, 1) := by decide +kernel
theorem dX8_thereReason_8 : decode cX8_thereReason 8 = .ok (.ifCond .ne 24, 3) := by decide +kernel
theorem dX8_thereReason_32 : decode cX8_thereReason 32 = .ok (.iload_n 3, 1) := by decide +kernel
theorem dX8_thereReason_33 : decode cX8_thereReason 33 = .ok (.ireturn, 1) := by decide +kernel
set_option maxHeartbeats 4000000 in
set_option maxRecDepth 100000 in
theorem c_X8_thereReason (l : Launch) (G : xG) (q0 : Nat) (qb : Nat) (qk : Nat) (qg : Nat) (qr : Nat) (b : Nat → Nat) (pf : Nat → Option Nat) (p0 : Int32) (p1 : Int32) (hpf : ∀ k, k < 8 → pf k = some (b (16 + k))) : xRi l G yX8_thereReason cX8_thereReason 4 (some .int) 3 66 [.ref q0, .int p0, .int p1] [(q0, .inr (8, [.ref qb, .ref qk, .ref qg, .ref qr, .int 0, .int 0])), (qb, .inr (0, [.ref (b 0), .ref (b 1), .ref (b 2), .ref (b 3), .ref (b 4), .int 0])), (b 3, .inl (G.2 5, 8, .inr (.inr (.inr (.inr pf))))), (b 16, .inr (4, [.ref (b 24), .ref (b 32), .int 0, .int 0, .int 0, .int 0, .int 0, .int 0, .long 0, .long 0, .long 0])), (b 17, .inr (4, [.ref (b 25), .ref (b 33), .int 0, .int 0, .int 0, .int 0, .int 0, .int 0, .long 0, .long 0, .long 0])), (b 18, .inr (4, [.ref (b 26), .ref (b 34), .int 0, .int 0, .int 0, .int 0, .int 0, .int 0, .long 0, .long 0, .long 0])), (b 19, .inr (4, [.ref (b 27), .ref (b 35), .int 0, .int 0, .int 0, .int 0, .int 0, .int 0, .long 0, .long 0, .long 0])), (b 20, .inr (4, [.ref (b 28), .ref (b 36), .int 0, .int 0, .int 0, .int 0, .int 0, .int 0, .long 0, .long 0, .long 0])), (b 21, .inr (4, [.ref (b 29), .ref (b 37), .int 0, .int 0, .int 0, .int 0, .int 0, .int 0, .long 0, .long 0, .long 0])), (b 22, .inr (4, [.ref (b 30), .ref (b 38), .int 0, .int 0, .int 0, .int 0, .int 0, .int 0, .long 0, .long 0, .long 0])), (b 23, .inr (4, [.ref (b 31), .ref (b 39), .int 0, .int 0, .int 0, .int 0, .int 0, .int 0, .long 0, .long 0, .long 0]))] (fun r => x2 r) := by
  intro sz
  refine xstart (by decide) (Nat.le_of_ble_eq_true rfl) (fun p e s m args below meth c ls C0 hr hlocks hin hsz hP hK hD hN hl => ?_)
  obtain ⟨hx, hb, hml, hown, htl⟩ := id C0
  have hl : lv_has ls 4 [(0, .ref q0), (1, .int p0), (2, .int p1)] := hl
  refine lv_aload_n hx hb dX8_thereReason_0 rfl (lv_at hl 0 rfl) ?_
  refine lv_iload_n hx hb dX8_thereReason_1 rfl (lv_at hl 1 rfl) ?_
  refine lv_iload_n hx hb dX8_thereReason_2 rfl (lv_at hl 2 rfl) ?_
  refine xVri (rq := 0) (ci := 8) (wc := [(q0, .inr (8, [.ref qb, .ref qk, .ref qg, .ref qr, .int 0, .int 0])), (qb, .inr (0, [.ref (b 0), .ref (b 1), .ref (b 2), .ref (b 3), .ref (b 4), .int 0])), (b 3, .inl (G.2 5, 8, .inr (.inr (.inr (.inr pf))))), (b 16, .inr (4, [.ref (b 24), .ref (b 32), .int 0, .int 0, .int 0, .int 0, .int 0, .int 0, .long 0, .long 0, .long 0])), (b 17, .inr (4, [.ref (b 25), .ref (b 33), .int 0, .int 0, .int 0, .int 0, .int 0, .int 0, .long 0, .long 0, .long 0])), (b 18, .inr (4, [.ref (b 26), .ref (b 34), .int 0, .int 0, .int 0, .int 0, .int 0, .int 0, .long 0, .long 0, .long 0])), (b 19, .inr (4, [.ref (b 27), .ref (b 35), .int 0, .int 0, .int 0, .int 0, .int 0, .int 0, .long 0, .long 0, .long 0])), (b 20, .inr (4, [.ref (b 28), .ref (b 36), .int 0, .int 0, .int 0, .int 0, .int 0, .int 0, .long 0, .long 0, .long 0])), (b 21, .inr (4, [.ref (b 29), .ref (b 37), .int 0, .int 0, .int 0, .int 0, .int 0, .int 0, .long 0, .long 0, .long 0])), (b 22, .inr (4, [.ref (b 30), .ref (b 38), .int 0, .int 0, .int 0, .int 0, .int 0, .int 0, .long 0, .long 0, .long 0])), (b 23, .inr (4, [.ref (b 31), .ref (b 39), .int 0, .int 0, .int 0, .int 0, .int 0, .int 0, .long 0, .long 0, .long 0]))]) (As := [.int p0, .int p1]) (rest := []) C0 (c_X8_dayReason l G q0 qb qk qg qr b pf p0 p1 hpf) ok_X8_dayReason (mW442 : Cond.methodLink RX8 149 yX8_dayReason ∈ wsT) ⟨Nat.le_of_ble_eq_true rfl, Nat.le_of_ble_eq_true rfl⟩ hP hD hK hN [0, 1, 2, 3, 4, 5, 6, 7, 8, 9, 10] rfl (by decide) rfl rfl rfl rfl hl.1 rfl (Nat.le_of_ble_eq_true rfl) ⟨Nat.le_of_ble_eq_true rfl, Nat.le_of_ble_eq_true rfl⟩ dX8_thereReason_3 (fun r_1 hr_1 => ?_)
  refine lv_istore_n (lv' := [(3, .int r_1), (0, .ref q0), (1, .int p0), (2, .int p1)]) hx hb dX8_thereReason_6 rfl hl (by decide) rfl (fun ls hl => ?_)
  refine lv_iload_n hx hb dX8_thereReason_7 rfl (lv_at hl 0 rfl) ?_
  refine lv_if_ne (tgt := 32) hx hb dX8_thereReason_8 (by decide) (fun c_2 => ?_) (fun c_2 => absurd c_2 (xn0 hr_1))
  refine lv_iload_n hx hb dX8_thereReason_32 rfl (lv_at hl 0 rfl) ?_
  exact W.iret (v := r_1) hx hb hr (fun t ht hW => ⟨r_1, rfl, hr_1, ht⟩) (fun q hq => by cases hq) dX8_thereReason_33
theorem dX8_minuteReason_0 : decode cX8_minuteReason 0 = .ok (.aload_n 0, 1) := by decide +kernel
theorem dX8_minuteReason_1 : decode cX8_minuteReason 1 = .ok (.iload_n 1, 1) := by decide +kernel
theorem dX8_minuteReason_2 : decode cX8_minuteReason 2 = .ok (.invokevirtual 124, 3) := by decide +kernel
theorem dX8_minuteReason_5 : decode cX8_minuteReason 5 = .ok (.iload_n 2, 1) := by decide +kernel
theorem dX8_minuteReason_6 : decode cX8_minuteReason 6 = .ok (.iconst 0, 1) := by decide +kernel
theorem dX8_minuteReason_7 : decode cX8_minuteReason 7 = .ok (.ldc_w 354, 3) := by decide +kernel
theorem dX8_minuteReason_10 : decode cX8_minuteReason 10 = .ok (.invokestatic 71, 3) := by decide +kernel
theorem dX8_minuteReason_13 : decode cX8_minuteReason 13 = .ok (.invokestatic 54, 3) := by decide +kernel
theorem dX8_minuteReason_16 : decode cX8_minuteReason 16 = .ok (.invokestatic 58, 3) := by decide +kernel
theorem dX8_minuteReason_19 : decode cX8_minuteReason 19 = .ok (.istore_n 3, 1) := by decide +kernel
theorem dX8_minuteReason_20 : decode cX8_minuteReason 20 = .ok (.iload_n 3, 1) := by decide +kernel
theorem dX8_minuteReason_21 : decode cX8_minuteReason 21 = .ok (.ifCond .ne 20, 3) := by decide +kernel
theorem dX8_minuteReason_41 : decode cX8_minuteReason 41 = .ok (.iload_n 3, 1) := by decide +kernel
theorem dX8_minuteReason_42 : decode cX8_minuteReason 42 = .ok (.ireturn, 1) := by decide +kernel
set_option maxHeartbeats 4000000 in
set_option maxRecDepth 100000 in
theorem c_X8_minuteReason (l : Launch) (G : xG) (q0 : Nat) (qb : Nat) (qk : Nat) (qg : Nat) (qr : Nat) (b : Nat → Nat) (pf : Nat → Option Nat) (p0 : Int32) (p1 : Int32) (hpf : ∀ k, k < 8 → pf k = some (b (16 + k))) : xRi l G yX8_minuteReason cX8_minuteReason 4 (some .int) 2 43 [.ref q0, .int p0, .int p1] [(q0, .inr (8, [.ref qb, .ref qk, .ref qg, .ref qr, .int 0, .int 0])), (qb, .inr (0, [.ref (b 0), .ref (b 1), .ref (b 2), .ref (b 3), .ref (b 4), .int 0])), (b 3, .inl (G.2 5, 8, .inr (.inr (.inr (.inr pf))))), (b 16, .inr (4, [.ref (b 24), .ref (b 32), .int 0, .int 0, .int 0, .int 0, .int 0, .int 0, .long 0, .long 0, .long 0])), (b 17, .inr (4, [.ref (b 25), .ref (b 33), .int 0, .int 0, .int 0, .int 0, .int 0, .int 0, .long 0, .long 0, .long 0])), (b 18, .inr (4, [.ref (b 26), .ref (b 34), .int 0, .int 0, .int 0, .int 0, .int 0, .int 0, .long 0, .long 0, .long 0])), (b 19, .inr (4, [.ref (b 27), .ref (b 35), .int 0, .int 0, .int 0, .int 0, .int 0, .int 0, .long 0, .long 0, .long 0])), (b 20, .inr (4, [.ref (b 28), .ref (b 36), .int 0, .int 0, .int 0, .int 0, .int 0, .int 0, .long 0, .long 0, .long 0])), (b 21, .inr (4, [.ref (b 29), .ref (b 37), .int 0, .int 0, .int 0, .int 0, .int 0, .int 0, .long 0, .long 0, .long 0])), (b 22, .inr (4, [.ref (b 30), .ref (b 38), .int 0, .int 0, .int 0, .int 0, .int 0, .int 0, .long 0, .long 0, .long 0])), (b 23, .inr (4, [.ref (b 31), .ref (b 39), .int 0, .int 0, .int 0, .int 0, .int 0, .int 0, .long 0, .long 0, .long 0]))] (fun r => x2 r) := by
  intro sz
  refine xstart (by decide) (Nat.le_of_ble_eq_true rfl) (fun p e s m args below meth c ls C0 hr hlocks hin hsz hP hK hD hN hl => ?_)
  obtain ⟨hx, hb, hml, hown, htl⟩ := id C0
  have hl : lv_has ls 4 [(0, .ref q0), (1, .int p0), (2, .int p1)] := hl
  refine lv_aload_n hx hb dX8_minuteReason_0 rfl (lv_at hl 0 rfl) ?_
  refine lv_iload_n hx hb dX8_minuteReason_1 rfl (lv_at hl 1 rfl) ?_
  refine xVri (rq := 0) (ci := 8) (wc := [(q0, .inr (8, [.ref qb, .ref qk, .ref qg, .ref qr, .int 0, .int 0])), (qb, .inr (0, [.ref (b 0), .ref (b 1), .ref (b 2), .ref (b 3), .ref (b 4), .int 0])), (b 3, .inl (G.2 5, 8, .inr (.inr (.inr (.inr pf))))), (b 16, .inr (4, [.ref (b 24), .ref (b 32), .int 0, .int 0, .int 0, .int 0, .int 0, .int 0, .long 0, .long 0, .long 0])), (b 17, .inr (4, [.ref (b 25), .ref (b 33), .int 0, .int 0, .int 0, .int 0, .int 0, .int 0, .long 0, .long 0, .long 0])), (b 18, .inr (4, [.ref (b 26), .ref (b 34), .int 0, .int 0, .int 0, .int 0, .int 0, .int 0, .long 0, .long 0, .long 0])), (b 19, .inr (4, [.ref (b 27), .ref (b 35), .int 0, .int 0, .int 0, .int 0, .int 0, .int 0, .long 0, .long 0, .long 0])), (b 20, .inr (4, [.ref (b 28), .ref (b 36), .int 0, .int 0, .int 0, .int 0, .int 0, .int 0, .long 0, .long 0, .long 0])), (b 21, .inr (4, [.ref (b 29), .ref (b 37), .int 0, .int 0, .int 0, .int 0, .int 0, .int 0, .long 0, .long 0, .long 0])), (b 22, .inr (4, [.ref (b 30), .ref (b 38), .int 0, .int 0, .int 0, .int 0, .int 0, .int 0, .long 0, .long 0, .long 0])), (b 23, .inr (4, [.ref (b 31), .ref (b 39), .int 0, .int 0, .int 0, .int 0, .int 0, .int 0, .long 0, .long 0, .long 0]))]) (As := [.int p0]) (rest := []) C0 (c_X8_portReason l G q0 qb qk qg qr b pf p0 hpf) ok_X8_portReason (mW374 : Cond.methodLink RX8 124 yX8_portReason ∈ wsT) ⟨Nat.le_of_ble_eq_true rfl, Nat.le_of_ble_eq_true rfl⟩ hP hD hK hN [0, 1, 2, 3, 4, 5, 6, 7, 8, 9, 10] rfl (by decide) rfl rfl rfl rfl hl.1 rfl (Nat.le_of_ble_eq_true rfl) ⟨Nat.le_of_ble_eq_true rfl, Nat.le_of_ble_eq_true rfl⟩ dX8_minuteReason_2 (fun r_1 hr_1 => ?_)
  refine lv_iload_n hx hb dX8_minuteReason_5 rfl (lv_at hl 2 rfl) ?_
  refine lv_iconst (v := 0) hx hb dX8_minuteReason_6 (by decide) ?_
  refine lv_ldcw (v := 129599) hx hb hown (htl (.constant RX8 354 (129599)) mW404) dX8_minuteReason_7 ?_
  refine xSri (wc := []) (As := [.int p1, .int 0, .int 129599]) (rest := [.int r_1]) C0 (c_X8_within l G p1 0 129599) ok_X8_within (mW193 : Cond.methodLink RX8 71 yX8_within ∈ wsT) ⟨Nat.le_of_ble_eq_true rfl, Nat.le_of_ble_eq_true rfl⟩ hP hD hK hN [] rfl (by decide) rfl hl.1 rfl (Nat.le_of_ble_eq_true rfl) ⟨Nat.le_of_ble_eq_true rfl, Nat.le_of_ble_eq_true rfl⟩ dX8_minuteReason_10 (fun r_2 hr_2 => ?_)
  refine xSri (wc := []) (As := [.int r_2]) (rest := [.int r_1]) C0 (c_X8_number l G r_2) ok_X8_number (mW196 : Cond.methodLink RX8 54 yX8_number ∈ wsT) ⟨Nat.le_of_ble_eq_true rfl, Nat.le_of_ble_eq_true rfl⟩ hP hD hK hN [] rfl (by decide) rfl hl.1 rfl (Nat.le_of_ble_eq_true rfl) ⟨Nat.le_of_ble_eq_true rfl, Nat.le_of_ble_eq_true rfl⟩ dX8_minuteReason_13 (fun r_3 hr_3 => ?_)
  have fr_3 : x3 r_3 := by rw [hr_3]; exact x3num _
  refine xSri (wc := []) (As := [.int r_1, .int r_3]) (rest := []) C0 (c_X8_least l G r_1 r_3) ok_X8_least (mW199 : Cond.methodLink RX8 58 yX8_least ∈ wsT) ⟨Nat.le_of_ble_eq_true rfl, Nat.le_of_ble_eq_true rfl⟩ hP hD hK hN [] rfl (by decide) rfl hl.1 rfl (Nat.le_of_ble_eq_true rfl) ⟨Nat.le_of_ble_eq_true rfl, Nat.le_of_ble_eq_true rfl⟩ dX8_minuteReason_16 (fun r_4 hr_4 => ?_)
  have fr_4 : x2 r_4 := by rw [hr_4]; exact x2l hr_1 fr_3
  refine lv_istore_n (lv' := [(3, .int r_4), (0, .ref q0), (1, .int p0), (2, .int p1)]) hx hb dX8_minuteReason_19 rfl hl (by decide) rfl (fun ls hl => ?_)
  refine lv_iload_n hx hb dX8_minuteReason_20 rfl (lv_at hl 0 rfl) ?_
  refine lv_if_ne (tgt := 41) hx hb dX8_minuteReason_21 (by decide) (fun c_5 => ?_) (fun c_5 => absurd c_5 (xn0 fr_4))
  refine lv_iload_n hx hb dX8_minuteReason_41 rfl (lv_at hl 0 rfl) ?_
  exact W.iret (v := r_4) hx hb hr (fun t ht hW => ⟨r_4, rfl, fr_4, ht⟩) (fun q hq => by cases hq) dX8_minuteReason_42
