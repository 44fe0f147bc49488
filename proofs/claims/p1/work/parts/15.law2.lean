theorem dL_law_1000 : decode cL_law 1000 = .ok (.aload_n 1, 1) := by decide +kernel
theorem dL_law_1001 : decode cL_law 1001 = .ok (.aload_n 0, 1) := by decide +kernel
theorem dL_law_1002 : decode cL_law 1002 = .ok (.iload_n 3, 1) := by decide +kernel
theorem dL_law_1003 : decode cL_law 1003 = .ok (.iconst 1, 1) := by decide +kernel
theorem dL_law_1004 : decode cL_law 1004 = .ok (.iadd, 1) := by decide +kernel
theorem dL_law_1005 : decode cL_law 1005 = .ok (.iaload, 1) := by decide +kernel
theorem dL_law_1006 : decode cL_law 1006 = .ok (.aload_n 0, 1) := by decide +kernel
theorem dL_law_1007 : decode cL_law 1007 = .ok (.iload_n 3, 1) := by decide +kernel
theorem dL_law_1008 : decode cL_law 1008 = .ok (.iconst 2, 1) := by decide +kernel
theorem dL_law_1009 : decode cL_law 1009 = .ok (.iadd, 1) := by decide +kernel
theorem dL_law_1010 : decode cL_law 1010 = .ok (.iaload, 1) := by decide +kernel
theorem dL_law_1011 : decode cL_law 1011 = .ok (.invokevirtual 98, 3) := by decide +kernel
theorem dL_law_1014 : decode cL_law 1014 = .ok (.aload_n 2, 1) := by decide +kernel
theorem dL_law_1015 : decode cL_law 1015 = .ok (.aload_n 0, 1) := by decide +kernel
theorem dL_law_1016 : decode cL_law 1016 = .ok (.iload_n 3, 1) := by decide +kernel
theorem dL_law_1017 : decode cL_law 1017 = .ok (.iconst 1, 1) := by decide +kernel
theorem dL_law_1018 : decode cL_law 1018 = .ok (.iadd, 1) := by decide +kernel
theorem dL_law_1019 : decode cL_law 1019 = .ok (.iaload, 1) := by decide +kernel
theorem dL_law_1020 : decode cL_law 1020 = .ok (.aload_n 0, 1) := by decide +kernel
theorem dL_law_1021 : decode cL_law 1021 = .ok (.iload_n 3, 1) := by decide +kernel
theorem dL_law_1022 : decode cL_law 1022 = .ok (.iconst 2, 1) := by decide +kernel
theorem dL_law_1023 : decode cL_law 1023 = .ok (.iadd, 1) := by decide +kernel
theorem dL_law_1024 : decode cL_law 1024 = .ok (.iaload, 1) := by decide +kernel
theorem dL_law_1025 : decode cL_law 1025 = .ok (.invokevirtual 101, 3) := by decide +kernel
theorem dL_law_1028 : decode cL_law 1028 = .ok (.if_icmp .eq 761, 3) := by decide +kernel
set_option maxHeartbeats 4000000 in
set_option maxRecDepth 100000 in
/-- case 18: offset -/
theorem law_18 {q0 : Nat} {qb : Nat} {qk : Nat} {qg : Nat} {qr : Nat} {b : Nat → Nat} {pf : Nat → Option Nat} {kf : Nat → Int32} {b2 : Nat → Nat} {pf2 : Nat → Option Nat} {kf2 : Nat → Int32} {m0 : Nat} {ma : Nat → Nat} {p : Program} {l : Launch} {e : Env} {s : State} {m : MethodId} {below : List Frame} {meth : Method} {c : Code} {G : xG} {sc : Nat} {xs : Nat → Int32} {A : Nat → Prop} (C0 : CallFix p m c code 4 s #[Value.ref sc] wsT RL) (hr : meth.sig.returnType = ret) (hlocks : meth.locks = false) (hK : va_K G.1 xcl (xty G) s) (hN : xN s) (hX : va_X sc 7 xs s s.heap) (hbl : sc < s.heap.size) (hbA : ¬ A sc) (hA : ∀ q : Nat, s.heap.size ≤ q → A q) (hA2 : ∀ q, A q → s.heap.size ≤ q) (hpf : ∀ k, k < 8 → pf k = some (b (16 + k))) (hpf2 : ∀ k, k < 8 → pf2 k = some (b2 (16 + k))) {H : Heap} {locs : List Loc} {ls : Array Slot} (hP : va_P G.1 xcl [(q0, .inr (8, [.ref qb, .ref qk, .ref qg, .ref qr, .int 0, .int 0])), (qr, .inl (G.2 0, 6, .inl (fun _ => 0))), (qb, .inr (0, [.ref (b 0), .ref (b 1), .ref (b 2), .ref (b 3), .ref (b 4), .int 0])), (b 3, .inl (G.2 5, 8, .inr (.inr (.inr (.inr pf))))), (b 16, .inr (4, [.ref (b 24), .ref (b 32), .int 0, .int 0, .int 0, .int 0, .int 0, .int 0, .long 0, .long 0, .long 0])), (b 17, .inr (4, [.ref (b 25), .ref (b 33), .int 0, .int 0, .int 0, .int 0, .int 0, .int 0, .long 0, .long 0, .long 0])), (b 18, .inr (4, [.ref (b 26), .ref (b 34), .int 0, .int 0, .int 0, .int 0, .int 0, .int 0, .long 0, .long 0, .long 0])), (b 19, .inr (4, [.ref (b 27), .ref (b 35), .int 0, .int 0, .int 0, .int 0, .int 0, .int 0, .long 0, .long 0, .long 0])), (b 20, .inr (4, [.ref (b 28), .ref (b 36), .int 0, .int 0, .int 0, .int 0, .int 0, .int 0, .long 0, .long 0, .long 0])), (b 21, .inr (4, [.ref (b 29), .ref (b 37), .int 0, .int 0, .int 0, .int 0, .int 0, .int 0, .long 0, .long 0, .long 0])), (b 22, .inr (4, [.ref (b 30), .ref (b 38), .int 0, .int 0, .int 0, .int 0, .int 0, .int 0, .long 0, .long 0, .long 0])), (b 23, .inr (4, [.ref (b 31), .ref (b 39), .int 0, .int 0, .int 0, .int 0, .int 0, .int 0, .long 0, .long 0, .long 0])), (m0, .inr (9, [.int 0, .int 0, .int 0, .int (-1), .ref (ma 4), .ref (ma 5), .ref (ma 6), .ref (ma 7), .ref (ma 8), .ref (ma 9), .ref (ma 10), .ref (ma 11), .ref (ma 12), .ref (ma 13), .ref (ma 14), .ref (ma 15), .ref (ma 16), .ref (ma 17), .ref (ma 18), .ref (ma 19), .int 0, .ref (ma 21), .ref (ma 22), .ref (ma 23), .ref (ma 24), .ref (ma 25), .ref (ma 26), .ref (ma 27), .ref (ma 28), .ref (ma 29), .ref (ma 30), .ref (ma 31), .ref (ma 32), .ref (ma 33), .ref (ma 34), .ref (ma 35), .ref (ma 36), .ref (ma 37), .int 0, .ref (ma 39), .ref (ma 40), .ref (ma 41), .ref (ma 42), .ref (ma 43), .ref (ma 44), .ref (ma 45), .ref (ma 46), .ref (ma 47), .ref (ma 48), .int 0, .int 0, .int 0, .int 0, .int 0, .int 0, .int 0, .long 0, .int 0, .long 0, .long 0, .long 0, .long 0, .int 0, .int 0, .int 0, .int 0, .long 0])), (ma 39, .inl (G.2 0, 6, .inl (fun _ => 0))), (ma 11, .inl (G.2 4, 96, .inr (.inl (fun _ => 0))))] H) (hD : va_D A [(q0, .inr (8, [.ref qb, .ref qk, .ref qg, .ref qr, .int 0, .int 0])), (qr, .inl (G.2 0, 6, .inl (fun _ => 0))), (qb, .inr (0, [.ref (b 0), .ref (b 1), .ref (b 2), .ref (b 3), .ref (b 4), .int 0])), (b 3, .inl (G.2 5, 8, .inr (.inr (.inr (.inr pf))))), (b 16, .inr (4, [.ref (b 24), .ref (b 32), .int 0, .int 0, .int 0, .int 0, .int 0, .int 0, .long 0, .long 0, .long 0])), (b 17, .inr (4, [.ref (b 25), .ref (b 33), .int 0, .int 0, .int 0, .int 0, .int 0, .int 0, .long 0, .long 0, .long 0])), (b 18, .inr (4, [.ref (b 26), .ref (b 34), .int 0, .int 0, .int 0, .int 0, .int 0, .int 0, .long 0, .long 0, .long 0])), (b 19, .inr (4, [.ref (b 27), .ref (b 35), .int 0, .int 0, .int 0, .int 0, .int 0, .int 0, .long 0, .long 0, .long 0])), (b 20, .inr (4, [.ref (b 28), .ref (b 36), .int 0, .int 0, .int 0, .int 0, .int 0, .int 0, .long 0, .long 0, .long 0])), (b 21, .inr (4, [.ref (b 29), .ref (b 37), .int 0, .int 0, .int 0, .int 0, .int 0, .int 0, .long 0, .long 0, .long 0])), (b 22, .inr (4, [.ref (b 30), .ref (b 38), .int 0, .int 0, .int 0, .int 0, .int 0, .int 0, .long 0, .long 0, .long 0])), (b 23, .inr (4, [.ref (b 31), .ref (b 39), .int 0, .int 0, .int 0, .int 0, .int 0, .int 0, .long 0, .long 0, .long 0])), (m0, .inr (9, [.int 0, .int 0, .int 0, .int (-1), .ref (ma 4), .ref (ma 5), .ref (ma 6), .ref (ma 7), .ref (ma 8), .ref (ma 9), .ref (ma 10), .ref (ma 11), .ref (ma 12), .ref (ma 13), .ref (ma 14), .ref (ma 15), .ref (ma 16), .ref (ma 17), .ref (ma 18), .ref (ma 19), .int 0, .ref (ma 21), .ref (ma 22), .ref (ma 23), .ref (ma 24), .ref (ma 25), .ref (ma 26), .ref (ma 27), .ref (ma 28), .ref (ma 29), .ref (ma 30), .ref (ma 31), .ref (ma 32), .ref (ma 33), .ref (ma 34), .ref (ma 35), .ref (ma 36), .ref (ma 37), .int 0, .ref (ma 39), .ref (ma 40), .ref (ma 41), .ref (ma 42), .ref (ma 43), .ref (ma 44), .ref (ma 45), .ref (ma 46), .ref (ma 47), .ref (ma 48), .int 0, .int 0, .int 0, .int 0, .int 0, .int 0, .int 0, .long 0, .int 0, .long 0, .long 0, .long 0, .long 0, .int 0, .int 0, .int 0, .int 0, .long 0])), (ma 39, .inl (G.2 0, 6, .inl (fun _ => 0))), (ma 11, .inl (G.2 4, 96, .inr (.inl (fun _ => 0))))]) (hS : va_S A s.heap H locs) (hl : lv_has ls 4 [(3, .int 0), (2, .ref m0), (1, .ref q0), (0, .ref sc)]) : W p l e room_1 s m #[Value.ref sc] below meth c H locs 169 136076 (lw_Z below #[Value.ref sc] s) (F0 m 1000 ls []) := by
  obtain ⟨hx, hb, hml, hown, htl⟩ := id C0
  refine lv_aload_n hx hb dL_law_1000 rfl (lv_at hl 2 rfl) ?_
  refine lv_aload_n hx hb dL_law_1001 rfl (lv_at hl 3 rfl) ?_
  refine lv_iload_n hx hb dL_law_1002 rfl (lv_at hl 0 rfl) ?_
  refine lv_iconst (v := 1) hx hb dL_law_1003 (by decide) ?_
  refine lv_iadd hx hb dL_law_1004 ?_
  refine lv_topi (fun z_1 ez_1 => ?_)
  obtain rfl : z_1 = 1 := ez_1.trans (by first | rfl | decide +kernel)
  refine va_sld hx hb hX hbl hbA hS (by unfold vp_in; decide +kernel) dL_law_1005 ?_
  refine lv_topi (fun z_2 ez_2 => ?_)
  refine lv_aload_n hx hb dL_law_1006 rfl (lv_at hl 3 rfl) ?_
  refine lv_iload_n hx hb dL_law_1007 rfl (lv_at hl 0 rfl) ?_
  refine lv_iconst (v := 2) hx hb dL_law_1008 (by decide) ?_
  refine lv_iadd hx hb dL_law_1009 ?_
  refine lv_topi (fun z_3 ez_3 => ?_)
  obtain rfl : z_3 = 2 := ez_3.trans (by first | rfl | decide +kernel)
  refine va_sld hx hb hX hbl hbA hS (by unfold vp_in; decide +kernel) dL_law_1010 ?_
  refine lv_topi (fun z_4 ez_4 => ?_)
  refine xVwi (rq := 0) (ci := 8) (wc := [(q0, .inr (8, [.ref qb, .ref qk, .ref qg, .ref qr, .int 0, .int 0])), (qr, .inl (G.2 0, 6, .inl (fun _ => 0))), (qb, .inr (0, [.ref (b 0), .ref (b 1), .ref (b 2), .ref (b 3), .ref (b 4), .int 0])), (b 3, .inl (G.2 5, 8, .inr (.inr (.inr (.inr pf))))), (b 16, .inr (4, [.ref (b 24), .ref (b 32), .int 0, .int 0, .int 0, .int 0, .int 0, .int 0, .long 0, .long 0, .long 0])), (b 17, .inr (4, [.ref (b 25), .ref (b 33), .int 0, .int 0, .int 0, .int 0, .int 0, .int 0, .long 0, .long 0, .long 0])), (b 18, .inr (4, [.ref (b 26), .ref (b 34), .int 0, .int 0, .int 0, .int 0, .int 0, .int 0, .long 0, .long 0, .long 0])), (b 19, .inr (4, [.ref (b 27), .ref (b 35), .int 0, .int 0, .int 0, .int 0, .int 0, .int 0, .long 0, .long 0, .long 0])), (b 20, .inr (4, [.ref (b 28), .ref (b 36), .int 0, .int 0, .int 0, .int 0, .int 0, .int 0, .long 0, .long 0, .long 0])), (b 21, .inr (4, [.ref (b 29), .ref (b 37), .int 0, .int 0, .int 0, .int 0, .int 0, .int 0, .long 0, .long 0, .long 0])), (b 22, .inr (4, [.ref (b 30), .ref (b 38), .int 0, .int 0, .int 0, .int 0, .int 0, .int 0, .long 0, .long 0, .long 0])), (b 23, .inr (4, [.ref (b 31), .ref (b 39), .int 0, .int 0, .int 0, .int 0, .int 0, .int 0, .long 0, .long 0, .long 0]))]) (wr := [(m0, .inr (9, [.int 0, .int 0, .int 0, .int (-1), .ref (ma 4), .ref (ma 5), .ref (ma 6), .ref (ma 7), .ref (ma 8), .ref (ma 9), .ref (ma 10), .ref (ma 11), .ref (ma 12), .ref (ma 13), .ref (ma 14), .ref (ma 15), .ref (ma 16), .ref (ma 17), .ref (ma 18), .ref (ma 19), .int 0, .ref (ma 21), .ref (ma 22), .ref (ma 23), .ref (ma 24), .ref (ma 25), .ref (ma 26), .ref (ma 27), .ref (ma 28), .ref (ma 29), .ref (ma 30), .ref (ma 31), .ref (ma 32), .ref (ma 33), .ref (ma 34), .ref (ma 35), .ref (ma 36), .ref (ma 37), .int 0, .ref (ma 39), .ref (ma 40), .ref (ma 41), .ref (ma 42), .ref (ma 43), .ref (ma 44), .ref (ma 45), .ref (ma 46), .ref (ma 47), .ref (ma 48), .int 0, .int 0, .int 0, .int 0, .int 0, .int 0, .int 0, .long 0, .int 0, .long 0, .long 0, .long 0, .long 0, .int 0, .int 0, .int 0, .int 0, .long 0])), (ma 39, .inl (G.2 0, 6, .inl (fun _ => 0))), (ma 11, .inl (G.2 4, 96, .inr (.inl (fun _ => 0))))]) (As := [.int z_2, .int z_4]) (rest := []) C0 (c_X8_offset l G q0 qb qk qg qr b pf z_2 z_4 hpf) ok_X8_offset (mW530 : Cond.methodLink RL 98 yX8_offset ∈ wsT) ⟨Nat.le_of_ble_eq_true rfl, Nat.le_of_ble_eq_true rfl⟩ hP hD hS hA hK hN [0, 1, 2, 3, 4, 5, 6, 7, 8, 9, 10, 11] [12, 13, 14] rfl rfl (by decide) (by decide) (by decide) rfl rfl rfl rfl hl.1 rfl (Nat.le_of_ble_eq_true rfl) ⟨Nat.le_of_ble_eq_true rfl, Nat.le_of_ble_eq_true rfl⟩ dL_law_1011 (fun r_5 u_6 H locs hr_5 hP hD hS => ?_)
  have hP : va_P G.1 xcl [(m0, .inr (9, [.int 0, .int 0, .int 0, .int (-1), .ref (ma 4), .ref (ma 5), .ref (ma 6), .ref (ma 7), .ref (ma 8), .ref (ma 9), .ref (ma 10), .ref (ma 11), .ref (ma 12), .ref (ma 13), .ref (ma 14), .ref (ma 15), .ref (ma 16), .ref (ma 17), .ref (ma 18), .ref (ma 19), .int 0, .ref (ma 21), .ref (ma 22), .ref (ma 23), .ref (ma 24), .ref (ma 25), .ref (ma 26), .ref (ma 27), .ref (ma 28), .ref (ma 29), .ref (ma 30), .ref (ma 31), .ref (ma 32), .ref (ma 33), .ref (ma 34), .ref (ma 35), .ref (ma 36), .ref (ma 37), .int 0, .ref (ma 39), .ref (ma 40), .ref (ma 41), .ref (ma 42), .ref (ma 43), .ref (ma 44), .ref (ma 45), .ref (ma 46), .ref (ma 47), .ref (ma 48), .int 0, .int 0, .int 0, .int 0, .int 0, .int 0, .int 0, .long 0, .int 0, .long 0, .long 0, .long 0, .long 0, .int 0, .int 0, .int 0, .int 0, .long 0])), (ma 39, .inl (G.2 0, 6, .inl (fun _ => 0))), (ma 11, .inl (G.2 4, 96, .inr (.inl (fun _ => 0))))] H := hP
  have hD : va_D A [(m0, .inr (9, [.int 0, .int 0, .int 0, .int (-1), .ref (ma 4), .ref (ma 5), .ref (ma 6), .ref (ma 7), .ref (ma 8), .ref (ma 9), .ref (ma 10), .ref (ma 11), .ref (ma 12), .ref (ma 13), .ref (ma 14), .ref (ma 15), .ref (ma 16), .ref (ma 17), .ref (ma 18), .ref (ma 19), .int 0, .ref (ma 21), .ref (ma 22), .ref (ma 23), .ref (ma 24), .ref (ma 25), .ref (ma 26), .ref (ma 27), .ref (ma 28), .ref (ma 29), .ref (ma 30), .ref (ma 31), .ref (ma 32), .ref (ma 33), .ref (ma 34), .ref (ma 35), .ref (ma 36), .ref (ma 37), .int 0, .ref (ma 39), .ref (ma 40), .ref (ma 41), .ref (ma 42), .ref (ma 43), .ref (ma 44), .ref (ma 45), .ref (ma 46), .ref (ma 47), .ref (ma 48), .int 0, .int 0, .int 0, .int 0, .int 0, .int 0, .int 0, .long 0, .int 0, .long 0, .long 0, .long 0, .long 0, .int 0, .int 0, .int 0, .int 0, .long 0])), (ma 39, .inl (G.2 0, 6, .inl (fun _ => 0))), (ma 11, .inl (G.2 4, 96, .inr (.inl (fun _ => 0))))] := hD
  obtain rfl : r_5 = 0 := hr_5
  refine lv_aload_n hx hb dL_law_1014 rfl (lv_at hl 1 rfl) ?_
  refine lv_aload_n hx hb dL_law_1015 rfl (lv_at hl 3 rfl) ?_
  refine lv_iload_n hx hb dL_law_1016 rfl (lv_at hl 0 rfl) ?_
  refine lv_iconst (v := 1) hx hb dL_law_1017 (by decide) ?_
  refine lv_iadd hx hb dL_law_1018 ?_
  refine lv_topi (fun z_7 ez_7 => ?_)
  obtain rfl : z_7 = 1 := ez_7.trans (by first | rfl | decide +kernel)
  refine va_sld hx hb hX hbl hbA hS (by unfold vp_in; decide +kernel) dL_law_1019 ?_
  rw [← ez_2]
  refine lv_aload_n hx hb dL_law_1020 rfl (lv_at hl 3 rfl) ?_
  refine lv_iload_n hx hb dL_law_1021 rfl (lv_at hl 0 rfl) ?_
  refine lv_iconst (v := 2) hx hb dL_law_1022 (by decide) ?_
  refine lv_iadd hx hb dL_law_1023 ?_
  refine lv_topi (fun z_8 ez_8 => ?_)
  obtain rfl : z_8 = 2 := ez_8.trans (by first | rfl | decide +kernel)
  refine va_sld hx hb hX hbl hbA hS (by unfold vp_in; decide +kernel) dL_law_1024 ?_
  rw [← ez_4]
  refine xVwi (rq := 0) (ci := 9) (wc := [(m0, .inr (9, [.int 0, .int 0, .int 0, .int (-1), .ref (ma 4), .ref (ma 5), .ref (ma 6), .ref (ma 7), .ref (ma 8), .ref (ma 9), .ref (ma 10), .ref (ma 11), .ref (ma 12), .ref (ma 13), .ref (ma 14), .ref (ma 15), .ref (ma 16), .ref (ma 17), .ref (ma 18), .ref (ma 19), .int 0, .ref (ma 21), .ref (ma 22), .ref (ma 23), .ref (ma 24), .ref (ma 25), .ref (ma 26), .ref (ma 27), .ref (ma 28), .ref (ma 29), .ref (ma 30), .ref (ma 31), .ref (ma 32), .ref (ma 33), .ref (ma 34), .ref (ma 35), .ref (ma 36), .ref (ma 37), .int 0, .ref (ma 39), .ref (ma 40), .ref (ma 41), .ref (ma 42), .ref (ma 43), .ref (ma 44), .ref (ma 45), .ref (ma 46), .ref (ma 47), .ref (ma 48), .int 0, .int 0, .int 0, .int 0, .int 0, .int 0, .int 0, .long 0, .int 0, .long 0, .long 0, .long 0, .long 0, .int 0, .int 0, .int 0, .int 0, .long 0])), (ma 39, .inl (G.2 0, 6, .inl (fun _ => 0))), (ma 11, .inl (G.2 4, 96, .inr (.inl (fun _ => 0))))]) (wr := []) (As := [.int z_2, .int z_4]) (rest := [.int 0]) C0 (c_X9_offset l G m0 ma z_2 z_4) ok_X9_offset (mW535 : Cond.methodLink RL 101 yX9_offset ∈ wsT) ⟨Nat.le_of_ble_eq_true rfl, Nat.le_of_ble_eq_true rfl⟩ hP hD hS hA hK hN [0, 1, 2] [] rfl rfl (by decide) (by decide) (by decide) rfl rfl rfl rfl hl.1 rfl (Nat.le_of_ble_eq_true rfl) ⟨Nat.le_of_ble_eq_true rfl, Nat.le_of_ble_eq_true rfl⟩ dL_law_1025 (fun r_9 u_10 H locs hr_9 hP hD hS => ?_)
  have hP : va_P G.1 xcl [] H := hP
  have hD : va_D A [] := hD
  obtain rfl : r_9 = 0 := hr_9
  refine lv_icmp_eq (tgt := 1789) hx hb dL_law_1028 (by decide) (fun c_11 => ?_) (fun c_11 => absurd c_11 (by decide +kernel))
  exact law_tail C0 hr hlocks hX hbl hbA hA2 hS ls (lv_sub hl [0, 3] rfl)
theorem dL_law_1033 : decode cL_law 1033 = .ok (.aload_n 1, 1) := by decide +kernel
theorem dL_law_1034 : decode cL_law 1034 = .ok (.aload_n 0, 1) := by decide +kernel
theorem dL_law_1035 : decode cL_law 1035 = .ok (.iload_n 3, 1) := by decide +kernel
theorem dL_law_1036 : decode cL_law 1036 = .ok (.iconst 1, 1) := by decide +kernel
theorem dL_law_1037 : decode cL_law 1037 = .ok (.iadd, 1) := by decide +kernel
theorem dL_law_1038 : decode cL_law 1038 = .ok (.iaload, 1) := by decide +kernel
theorem dL_law_1039 : decode cL_law 1039 = .ok (.aload_n 0, 1) := by decide +kernel
theorem dL_law_1040 : decode cL_law 1040 = .ok (.iload_n 3, 1) := by decide +kernel
theorem dL_law_1041 : decode cL_law 1041 = .ok (.iconst 2, 1) := by decide +kernel
theorem dL_law_1042 : decode cL_law 1042 = .ok (.iadd, 1) := by decide +kernel
theorem dL_law_1043 : decode cL_law 1043 = .ok (.iaload, 1) := by decide +kernel
theorem dL_law_1044 : decode cL_law 1044 = .ok (.i2l, 1) := by decide +kernel
theorem dL_law_1045 : decode cL_law 1045 = .ok (.bipush 32, 2) := by decide +kernel
theorem dL_law_1047 : decode cL_law 1047 = .ok (.lshl, 1) := by decide +kernel
theorem dL_law_1048 : decode cL_law 1048 = .ok (.aload_n 0, 1) := by decide +kernel
theorem dL_law_1049 : decode cL_law 1049 = .ok (.iload_n 3, 1) := by decide +kernel
theorem dL_law_1050 : decode cL_law 1050 = .ok (.iconst 3, 1) := by decide +kernel
theorem dL_law_1051 : decode cL_law 1051 = .ok (.iadd, 1) := by decide +kernel
theorem dL_law_1052 : decode cL_law 1052 = .ok (.iaload, 1) := by decide +kernel
theorem dL_law_1053 : decode cL_law 1053 = .ok (.i2l, 1) := by decide +kernel
theorem dL_law_1054 : decode cL_law 1054 = .ok (.ldc2_w 86, 3) := by decide +kernel
theorem dL_law_1057 : decode cL_law 1057 = .ok (.land, 1) := by decide +kernel
theorem dL_law_1058 : decode cL_law 1058 = .ok (.lor, 1) := by decide +kernel
theorem dL_law_1059 : decode cL_law 1059 = .ok (.aload_n 0, 1) := by decide +kernel
theorem dL_law_1060 : decode cL_law 1060 = .ok (.iload_n 3, 1) := by decide +kernel
theorem dL_law_1061 : decode cL_law 1061 = .ok (.iconst 4, 1) := by decide +kernel
theorem dL_law_1062 : decode cL_law 1062 = .ok (.iadd, 1) := by decide +kernel
theorem dL_law_1063 : decode cL_law 1063 = .ok (.iaload, 1) := by decide +kernel
theorem dL_law_1064 : decode cL_law 1064 = .ok (.i2l, 1) := by decide +kernel
theorem dL_law_1065 : decode cL_law 1065 = .ok (.bipush 32, 2) := by decide +kernel
theorem dL_law_1067 : decode cL_law 1067 = .ok (.lshl, 1) := by decide +kernel
theorem dL_law_1068 : decode cL_law 1068 = .ok (.aload_n 0, 1) := by decide +kernel
theorem dL_law_1069 : decode cL_law 1069 = .ok (.iload_n 3, 1) := by decide +kernel
theorem dL_law_1070 : decode cL_law 1070 = .ok (.iconst 5, 1) := by decide +kernel
theorem dL_law_1071 : decode cL_law 1071 = .ok (.iadd, 1) := by decide +kernel
theorem dL_law_1072 : decode cL_law 1072 = .ok (.iaload, 1) := by decide +kernel
theorem dL_law_1073 : decode cL_law 1073 = .ok (.i2l, 1) := by decide +kernel
theorem dL_law_1074 : decode cL_law 1074 = .ok (.ldc2_w 86, 3) := by decide +kernel
theorem dL_law_1077 : decode cL_law 1077 = .ok (.land, 1) := by decide +kernel
theorem dL_law_1078 : decode cL_law 1078 = .ok (.lor, 1) := by decide +kernel
theorem dL_law_1079 : decode cL_law 1079 = .ok (.invokevirtual 102, 3) := by decide +kernel
theorem dL_law_1082 : decode cL_law 1082 = .ok (.aload_n 2, 1) := by decide +kernel
theorem dL_law_1083 : decode cL_law 1083 = .ok (.aload_n 0, 1) := by decide +kernel
theorem dL_law_1084 : decode cL_law 1084 = .ok (.iload_n 3, 1) := by decide +kernel
theorem dL_law_1085 : decode cL_law 1085 = .ok (.iconst 1, 1) := by decide +kernel
theorem dL_law_1086 : decode cL_law 1086 = .ok (.iadd, 1) := by decide +kernel
theorem dL_law_1087 : decode cL_law 1087 = .ok (.iaload, 1) := by decide +kernel
theorem dL_law_1088 : decode cL_law 1088 = .ok (.aload_n 0, 1) := by decide +kernel
theorem dL_law_1089 : decode cL_law 1089 = .ok (.iload_n 3, 1) := by decide +kernel
theorem dL_law_1090 : decode cL_law 1090 = .ok (.iconst 2, 1) := by decide +kernel
theorem dL_law_1091 : decode cL_law 1091 = .ok (.iadd, 1) := by decide +kernel
theorem dL_law_1092 : decode cL_law 1092 = .ok (.iaload, 1) := by decide +kernel
theorem dL_law_1093 : decode cL_law 1093 = .ok (.i2l, 1) := by decide +kernel
theorem dL_law_1094 : decode cL_law 1094 = .ok (.bipush 32, 2) := by decide +kernel
theorem dL_law_1096 : decode cL_law 1096 = .ok (.lshl, 1) := by decide +kernel
theorem dL_law_1097 : decode cL_law 1097 = .ok (.aload_n 0, 1) := by decide +kernel
theorem dL_law_1098 : decode cL_law 1098 = .ok (.iload_n 3, 1) := by decide +kernel
theorem dL_law_1099 : decode cL_law 1099 = .ok (.iconst 3, 1) := by decide +kernel
theorem dL_law_1100 : decode cL_law 1100 = .ok (.iadd, 1) := by decide +kernel
theorem dL_law_1101 : decode cL_law 1101 = .ok (.iaload, 1) := by decide +kernel
theorem dL_law_1102 : decode cL_law 1102 = .ok (.i2l, 1) := by decide +kernel
theorem dL_law_1103 : decode cL_law 1103 = .ok (.ldc2_w 86, 3) := by decide +kernel
theorem dL_law_1106 : decode cL_law 1106 = .ok (.land, 1) := by decide +kernel
theorem dL_law_1107 : decode cL_law 1107 = .ok (.lor, 1) := by decide +kernel
theorem dL_law_1108 : decode cL_law 1108 = .ok (.aload_n 0, 1) := by decide +kernel
theorem dL_law_1109 : decode cL_law 1109 = .ok (.iload_n 3, 1) := by decide +kernel
theorem dL_law_1110 : decode cL_law 1110 = .ok (.iconst 4, 1) := by decide +kernel
theorem dL_law_1111 : decode cL_law 1111 = .ok (.iadd, 1) := by decide +kernel
theorem dL_law_1112 : decode cL_law 1112 = .ok (.iaload, 1) := by decide +kernel
theorem dL_law_1113 : decode cL_law 1113 = .ok (.i2l, 1) := by decide +kernel
theorem dL_law_1114 : decode cL_law 1114 = .ok (.bipush 32, 2) := by decide +kernel
theorem dL_law_1116 : decode cL_law 1116 = .ok (.lshl, 1) := by decide +kernel
theorem dL_law_1117 : decode cL_law 1117 = .ok (.aload_n 0, 1) := by decide +kernel
theorem dL_law_1118 : decode cL_law 1118 = .ok (.iload_n 3, 1) := by decide +kernel
theorem dL_law_1119 : decode cL_law 1119 = .ok (.iconst 5, 1) := by decide +kernel
theorem dL_law_1120 : decode cL_law 1120 = .ok (.iadd, 1) := by decide +kernel
theorem dL_law_1121 : decode cL_law 1121 = .ok (.iaload, 1) := by decide +kernel
theorem dL_law_1122 : decode cL_law 1122 = .ok (.i2l, 1) := by decide +kernel
theorem dL_law_1123 : decode cL_law 1123 = .ok (.ldc2_w 86, 3) := by decide +kernel
theorem dL_law_1126 : decode cL_law 1126 = .ok (.land, 1) := by decide +kernel
theorem dL_law_1127 : decode cL_law 1127 = .ok (.lor, 1) := by decide +kernel
theorem dL_law_1128 : decode cL_law 1128 = .ok (.invokevirtual 106, 3) := by decide +kernel
theorem dL_law_1131 : decode cL_law 1131 = .ok (.if_icmp .eq 658, 3) := by decide +kernel
set_option maxHeartbeats 4000000 in
set_option maxRecDepth 100000 in
/-- case 19: rate -/
theorem law_19 {q0 : Nat} {qb : Nat} {qk : Nat} {qg : Nat} {qr : Nat} {b : Nat → Nat} {pf : Nat → Option Nat} {kf : Nat → Int32} {b2 : Nat → Nat} {pf2 : Nat → Option Nat} {kf2 : Nat → Int32} {m0 : Nat} {ma : Nat → Nat} {p : Program} {l : Launch} {e : Env} {s : State} {m : MethodId} {below : List Frame} {meth : Method} {c : Code} {G : xG} {sc : Nat} {xs : Nat → Int32} {A : Nat → Prop} (C0 : CallFix p m c code 4 s #[Value.ref sc] wsT RL) (hr : meth.sig.returnType = ret) (hlocks : meth.locks = false) (hK : va_K G.1 xcl (xty G) s) (hN : xN s) (hX : va_X sc 7 xs s s.heap) (hbl : sc < s.heap.size) (hbA : ¬ A sc) (hA : ∀ q : Nat, s.heap.size ≤ q → A q) (hA2 : ∀ q, A q → s.heap.size ≤ q) (hpf : ∀ k, k < 8 → pf k = some (b (16 + k))) (hpf2 : ∀ k, k < 8 → pf2 k = some (b2 (16 + k))) {H : Heap} {locs : List Loc} {ls : Array Slot} (hP : va_P G.1 xcl [(q0, .inr (8, [.ref qb, .ref qk, .ref qg, .ref qr, .int 0, .int 0])), (qr, .inl (G.2 0, 6, .inl (fun _ => 0))), (qb, .inr (0, [.ref (b 0), .ref (b 1), .ref (b 2), .ref (b 3), .ref (b 4), .int 0])), (b 3, .inl (G.2 5, 8, .inr (.inr (.inr (.inr pf))))), (b 16, .inr (4, [.ref (b 24), .ref (b 32), .int 0, .int 0, .int 0, .int 0, .int 0, .int 0, .long 0, .long 0, .long 0])), (b 17, .inr (4, [.ref (b 25), .ref (b 33), .int 0, .int 0, .int 0, .int 0, .int 0, .int 0, .long 0, .long 0, .long 0])), (b 18, .inr (4, [.ref (b 26), .ref (b 34), .int 0, .int 0, .int 0, .int 0, .int 0, .int 0, .long 0, .long 0, .long 0])), (b 19, .inr (4, [.ref (b 27), .ref (b 35), .int 0, .int 0, .int 0, .int 0, .int 0, .int 0, .long 0, .long 0, .long 0])), (b 20, .inr (4, [.ref (b 28), .ref (b 36), .int 0, .int 0, .int 0, .int 0, .int 0, .int 0, .long 0, .long 0, .long 0])), (b 21, .inr (4, [.ref (b 29), .ref (b 37), .int 0, .int 0, .int 0, .int 0, .int 0, .int 0, .long 0, .long 0, .long 0])), (b 22, .inr (4, [.ref (b 30), .ref (b 38), .int 0, .int 0, .int 0, .int 0, .int 0, .int 0, .long 0, .long 0, .long 0])), (b 23, .inr (4, [.ref (b 31), .ref (b 39), .int 0, .int 0, .int 0, .int 0, .int 0, .int 0, .long 0, .long 0, .long 0])), (m0, .inr (9, [.int 0, .int 0, .int 0, .int (-1), .ref (ma 4), .ref (ma 5), .ref (ma 6), .ref (ma 7), .ref (ma 8), .ref (ma 9), .ref (ma 10), .ref (ma 11), .ref (ma 12), .ref (ma 13), .ref (ma 14), .ref (ma 15), .ref (ma 16), .ref (ma 17), .ref (ma 18), .ref (ma 19), .int 0, .ref (ma 21), .ref (ma 22), .ref (ma 23), .ref (ma 24), .ref (ma 25), .ref (ma 26), .ref (ma 27), .ref (ma 28), .ref (ma 29), .ref (ma 30), .ref (ma 31), .ref (ma 32), .ref (ma 33), .ref (ma 34), .ref (ma 35), .ref (ma 36), .ref (ma 37), .int 0, .ref (ma 39), .ref (ma 40), .ref (ma 41), .ref (ma 42), .ref (ma 43), .ref (ma 44), .ref (ma 45), .ref (ma 46), .ref (ma 47), .ref (ma 48), .int 0, .int 0, .int 0, .int 0, .int 0, .int 0, .int 0, .long 0, .int 0, .long 0, .long 0, .long 0, .long 0, .int 0, .int 0, .int 0, .int 0, .long 0])), (ma 39, .inl (G.2 0, 6, .inl (fun _ => 0))), (ma 11, .inl (G.2 4, 96, .inr (.inl (fun _ => 0))))] H) (hD : va_D A [(q0, .inr (8, [.ref qb, .ref qk, .ref qg, .ref qr, .int 0, .int 0])), (qr, .inl (G.2 0, 6, .inl (fun _ => 0))), (qb, .inr (0, [.ref (b 0), .ref (b 1), .ref (b 2), .ref (b 3), .ref (b 4), .int 0])), (b 3, .inl (G.2 5, 8, .inr (.inr (.inr (.inr pf))))), (b 16, .inr (4, [.ref (b 24), .ref (b 32), .int 0, .int 0, .int 0, .int 0, .int 0, .int 0, .long 0, .long 0, .long 0])), (b 17, .inr (4, [.ref (b 25), .ref (b 33), .int 0, .int 0, .int 0, .int 0, .int 0, .int 0, .long 0, .long 0, .long 0])), (b 18, .inr (4, [.ref (b 26), .ref (b 34), .int 0, .int 0, .int 0, .int 0, .int 0, .int 0, .long 0, .long 0, .long 0])), (b 19, .inr (4, [.ref (b 27), .ref (b 35), .int 0, .int 0, .int 0, .int 0, .int 0, .int 0, .long 0, .long 0, .long 0])), (b 20, .inr (4, [.ref (b 28), .ref (b 36), .int 0, .int 0, .int 0, .int 0, .int 0, .int 0, .long 0, .long 0, .long 0])), (b 21, .inr (4, [.ref (b 29), .ref (b 37), .int 0, .int 0, .int 0, .int 0, .int 0, .int 0, .long 0, .long 0, .long 0])), (b 22, .inr (4, [.ref (b 30), .ref (b 38), .int 0, .int 0, .int 0, .int 0, .int 0, .int 0, .long 0, .long 0, .long 0])), (b 23, .inr (4, [.ref (b 31), .ref (b 39), .int 0, .int 0, .int 0, .int 0, .int 0, .int 0, .long 0, .long 0, .long 0])), (m0, .inr (9, [.int 0, .int 0, .int 0, .int (-1), .ref (ma 4), .ref (ma 5), .ref (ma 6), .ref (ma 7), .ref (ma 8), .ref (ma 9), .ref (ma 10), .ref (ma 11), .ref (ma 12), .ref (ma 13), .ref (ma 14), .ref (ma 15), .ref (ma 16), .ref (ma 17), .ref (ma 18), .ref (ma 19), .int 0, .ref (ma 21), .ref (ma 22), .ref (ma 23), .ref (ma 24), .ref (ma 25), .ref (ma 26), .ref (ma 27), .ref (ma 28), .ref (ma 29), .ref (ma 30), .ref (ma 31), .ref (ma 32), .ref (ma 33), .ref (ma 34), .ref (ma 35), .ref (ma 36), .ref (ma 37), .int 0, .ref (ma 39), .ref (ma 40), .ref (ma 41), .ref (ma 42), .ref (ma 43), .ref (ma 44), .ref (ma 45), .ref (ma 46), .ref (ma 47), .ref (ma 48), .int 0, .int 0, .int 0, .int 0, .int 0, .int 0, .int 0, .long 0, .int 0, .long 0, .long 0, .long 0, .long 0, .int 0, .int 0, .int 0, .int 0, .long 0])), (ma 39, .inl (G.2 0, 6, .inl (fun _ => 0))), (ma 11, .inl (G.2 4, 96, .inr (.inl (fun _ => 0))))]) (hS : va_S A s.heap H locs) (hl : lv_has ls 4 [(3, .int 0), (2, .ref m0), (1, .ref q0), (0, .ref sc)]) : W p l e room_1 s m #[Value.ref sc] below meth c H locs 169 136076 (lw_Z below #[Value.ref sc] s) (F0 m 1033 ls []) := by
  obtain ⟨hx, hb, hml, hown, htl⟩ := id C0
  refine lv_aload_n hx hb dL_law_1033 rfl (lv_at hl 2 rfl) ?_
  refine lv_aload_n hx hb dL_law_1034 rfl (lv_at hl 3 rfl) ?_
  refine lv_iload_n hx hb dL_law_1035 rfl (lv_at hl 0 rfl) ?_
  refine lv_iconst (v := 1) hx hb dL_law_1036 (by decide) ?_
  refine lv_iadd hx hb dL_law_1037 ?_
  refine lv_topi (fun z_1 ez_1 => ?_)
  obtain rfl : z_1 = 1 := ez_1.trans (by first | rfl | decide +kernel)
  refine va_sld hx hb hX hbl hbA hS (by unfold vp_in; decide +kernel) dL_law_1038 ?_
  refine lv_topi (fun z_2 ez_2 => ?_)
  refine lv_aload_n hx hb dL_law_1039 rfl (lv_at hl 3 rfl) ?_
  refine lv_iload_n hx hb dL_law_1040 rfl (lv_at hl 0 rfl) ?_
  refine lv_iconst (v := 2) hx hb dL_law_1041 (by decide) ?_
  refine lv_iadd hx hb dL_law_1042 ?_
  refine lv_topi (fun z_3 ez_3 => ?_)
  obtain rfl : z_3 = 2 := ez_3.trans (by first | rfl | decide +kernel)
  refine va_sld hx hb hX hbl hbA hS (by unfold vp_in; decide +kernel) dL_law_1043 ?_
  refine lv_topi (fun z_4 ez_4 => ?_)
  refine lv_i2l hx hb dL_law_1044 rfl ?_
  refine lv_topl (fun z_5 ez_5 => ?_)
  refine lv_bipush (v := 32) hx hb dL_law_1045 (by decide) ?_
  refine lv_lshl hx hb dL_law_1047 rfl ?_
  refine lv_topl (fun z_6 ez_6 => ?_)
  refine lv_aload_n hx hb dL_law_1048 rfl (lv_at hl 3 rfl) ?_
  refine lv_iload_n hx hb dL_law_1049 rfl (lv_at hl 0 rfl) ?_
  refine lv_iconst (v := 3) hx hb dL_law_1050 (by decide) ?_
  refine lv_iadd hx hb dL_law_1051 ?_
  refine lv_topi (fun z_7 ez_7 => ?_)
  obtain rfl : z_7 = 3 := ez_7.trans (by first | rfl | decide +kernel)
  refine va_sld hx hb hX hbl hbA hS (by unfold vp_in; decide +kernel) dL_law_1052 ?_
  refine lv_topi (fun z_8 ez_8 => ?_)
  refine lv_i2l hx hb dL_law_1053 rfl ?_
  refine lv_topl (fun z_9 ez_9 => ?_)
  refine lv_ldc2 (v := 4294967295) hx hb hown (htl (.constantLong RL 86 (4294967295)) mW6) dL_law_1054 ?_
  refine lv_land hx hb dL_law_1057 ?_
  refine lv_topl (fun z_10 ez_10 => ?_)
  refine lv_lor hx hb dL_law_1058 ?_
  refine lv_topl (fun z_11 ez_11 => ?_)
  refine lv_aload_n hx hb dL_law_1059 rfl (lv_at hl 3 rfl) ?_
  refine lv_iload_n hx hb dL_law_1060 rfl (lv_at hl 0 rfl) ?_
  refine lv_iconst (v := 4) hx hb dL_law_1061 (by decide) ?_
  refine lv_iadd hx hb dL_law_1062 ?_
  refine lv_topi (fun z_12 ez_12 => ?_)
  obtain rfl : z_12 = 4 := ez_12.trans (by first | rfl | decide +kernel)
  refine va_sld hx hb hX hbl hbA hS (by unfold vp_in; decide +kernel) dL_law_1063 ?_
  refine lv_topi (fun z_13 ez_13 => ?_)
  refine lv_i2l hx hb dL_law_1064 rfl ?_
  refine lv_topl (fun z_14 ez_14 => ?_)
  refine lv_bipush (v := 32) hx hb dL_law_1065 (by decide) ?_
  refine lv_lshl hx hb dL_law_1067 rfl ?_
  refine lv_topl (fun z_15 ez_15 => ?_)
  refine lv_aload_n hx hb dL_law_1068 rfl (lv_at hl 3 rfl) ?_
  refine lv_iload_n hx hb dL_law_1069 rfl (lv_at hl 0 rfl) ?_
  refine lv_iconst (v := 5) hx hb dL_law_1070 (by decide) ?_
  refine lv_iadd hx hb dL_law_1071 ?_
  refine lv_topi (fun z_16 ez_16 => ?_)
  obtain rfl : z_16 = 5 := ez_16.trans (by first | rfl | decide +kernel)
  refine va_sld hx hb hX hbl hbA hS (by unfold vp_in; decide +kernel) dL_law_1072 ?_
  refine lv_topi (fun z_17 ez_17 => ?_)
  refine lv_i2l hx hb dL_law_1073 rfl ?_
  refine lv_topl (fun z_18 ez_18 => ?_)
  refine lv_ldc2 (v := 4294967295) hx hb hown (htl (.constantLong RL 86 (4294967295)) mW6) dL_law_1074 ?_
  refine lv_land hx hb dL_law_1077 ?_
  refine lv_topl (fun z_19 ez_19 => ?_)
  refine lv_lor hx hb dL_law_1078 ?_
  refine lv_topl (fun z_20 ez_20 => ?_)
  refine xVwi (rq := 0) (ci := 8) (wc := [(q0, .inr (8, [.ref qb, .ref qk, .ref qg, .ref qr, .int 0, .int 0])), (qr, .inl (G.2 0, 6, .inl (fun _ => 0))), (qb, .inr (0, [.ref (b 0), .ref (b 1), .ref (b 2), .ref (b 3), .ref (b 4), .int 0])), (b 3, .inl (G.2 5, 8, .inr (.inr (.inr (.inr pf))))), (b 16, .inr (4, [.ref (b 24), .ref (b 32), .int 0, .int 0, .int 0, .int 0, .int 0, .int 0, .long 0, .long 0, .long 0])), (b 17, .inr (4, [.ref (b 25), .ref (b 33), .int 0, .int 0, .int 0, .int 0, .int 0, .int 0, .long 0, .long 0, .long 0])), (b 18, .inr (4, [.ref (b 26), .ref (b 34), .int 0, .int 0, .int 0, .int 0, .int 0, .int 0, .long 0, .long 0, .long 0])), (b 19, .inr (4, [.ref (b 27), .ref (b 35), .int 0, .int 0, .int 0, .int 0, .int 0, .int 0, .long 0, .long 0, .long 0])), (b 20, .inr (4, [.ref (b 28), .ref (b 36), .int 0, .int 0, .int 0, .int 0, .int 0, .int 0, .long 0, .long 0, .long 0])), (b 21, .inr (4, [.ref (b 29), .ref (b 37), .int 0, .int 0, .int 0, .int 0, .int 0, .int 0, .long 0, .long 0, .long 0])), (b 22, .inr (4, [.ref (b 30), .ref (b 38), .int 0, .int 0, .int 0, .int 0, .int 0, .int 0, .long 0, .long 0, .long 0])), (b 23, .inr (4, [.ref (b 31), .ref (b 39), .int 0, .int 0, .int 0, .int 0, .int 0, .int 0, .long 0, .long 0, .long 0]))]) (wr := [(m0, .inr (9, [.int 0, .int 0, .int 0, .int (-1), .ref (ma 4), .ref (ma 5), .ref (ma 6), .ref (ma 7), .ref (ma 8), .ref (ma 9), .ref (ma 10), .ref (ma 11), .ref (ma 12), .ref (ma 13), .ref (ma 14), .ref (ma 15), .ref (ma 16), .ref (ma 17), .ref (ma 18), .ref (ma 19), .int 0, .ref (ma 21), .ref (ma 22), .ref (ma 23), .ref (ma 24), .ref (ma 25), .ref (ma 26), .ref (ma 27), .ref (ma 28), .ref (ma 29), .ref (ma 30), .ref (ma 31), .ref (ma 32), .ref (ma 33), .ref (ma 34), .ref (ma 35), .ref (ma 36), .ref (ma 37), .int 0, .ref (ma 39), .ref (ma 40), .ref (ma 41), .ref (ma 42), .ref (ma 43), .ref (ma 44), .ref (ma 45), .ref (ma 46), .ref (ma 47), .ref (ma 48), .int 0, .int 0, .int 0, .int 0, .int 0, .int 0, .int 0, .long 0, .int 0, .long 0, .long 0, .long 0, .long 0, .int 0, .int 0, .int 0, .int 0, .long 0])), (ma 39, .inl (G.2 0, 6, .inl (fun _ => 0))), (ma 11, .inl (G.2 4, 96, .inr (.inl (fun _ => 0))))]) (As := [.int z_2, .long z_11, .long z_20]) (rest := []) C0 (c_X8_rate l G q0 qb qk qg qr b pf z_2 z_11 z_20 hpf) ok_X8_rate (mW540 : Cond.methodLink RL 102 yX8_rate ∈ wsT) ⟨Nat.le_of_ble_eq_true rfl, Nat.le_of_ble_eq_true rfl⟩ hP hD hS hA hK hN [0, 1, 2, 3, 4, 5, 6, 7, 8, 9, 10, 11] [12, 13, 14] rfl rfl (by decide) (by decide) (by decide) rfl rfl rfl rfl hl.1 rfl (Nat.le_of_ble_eq_true rfl) ⟨Nat.le_of_ble_eq_true rfl, Nat.le_of_ble_eq_true rfl⟩ dL_law_1079 (fun r_21 u_22 H locs hr_21 hP hD hS => ?_)
  have hP : va_P G.1 xcl [(m0, .inr (9, [.int 0, .int 0, .int 0, .int (-1), .ref (ma 4), .ref (ma 5), .ref (ma 6), .ref (ma 7), .ref (ma 8), .ref (ma 9), .ref (ma 10), .ref (ma 11), .ref (ma 12), .ref (ma 13), .ref (ma 14), .ref (ma 15), .ref (ma 16), .ref (ma 17), .ref (ma 18), .ref (ma 19), .int 0, .ref (ma 21), .ref (ma 22), .ref (ma 23), .ref (ma 24), .ref (ma 25), .ref (ma 26), .ref (ma 27), .ref (ma 28), .ref (ma 29), .ref (ma 30), .ref (ma 31), .ref (ma 32), .ref (ma 33), .ref (ma 34), .ref (ma 35), .ref (ma 36), .ref (ma 37), .int 0, .ref (ma 39), .ref (ma 40), .ref (ma 41), .ref (ma 42), .ref (ma 43), .ref (ma 44), .ref (ma 45), .ref (ma 46), .ref (ma 47), .ref (ma 48), .int 0, .int 0, .int 0, .int 0, .int 0, .int 0, .int 0, .long 0, .int 0, .long 0, .long 0, .long 0, .long 0, .int 0, .int 0, .int 0, .int 0, .long 0])), (ma 39, .inl (G.2 0, 6, .inl (fun _ => 0))), (ma 11, .inl (G.2 4, 96, .inr (.inl (fun _ => 0))))] H := hP
  have hD : va_D A [(m0, .inr (9, [.int 0, .int 0, .int 0, .int (-1), .ref (ma 4), .ref (ma 5), .ref (ma 6), .ref (ma 7), .ref (ma 8), .ref (ma 9), .ref (ma 10), .ref (ma 11), .ref (ma 12), .ref (ma 13), .ref (ma 14), .ref (ma 15), .ref (ma 16), .ref (ma 17), .ref (ma 18), .ref (ma 19), .int 0, .ref (ma 21), .ref (ma 22), .ref (ma 23), .ref (ma 24), .ref (ma 25), .ref (ma 26), .ref (ma 27), .ref (ma 28), .ref (ma 29), .ref (ma 30), .ref (ma 31), .ref (ma 32), .ref (ma 33), .ref (ma 34), .ref (ma 35), .ref (ma 36), .ref (ma 37), .int 0, .ref (ma 39), .ref (ma 40), .ref (ma 41), .ref (ma 42), .ref (ma 43), .ref (ma 44), .ref (ma 45), .ref (ma 46), .ref (ma 47), .ref (ma 48), .int 0, .int 0, .int 0, .int 0, .int 0, .int 0, .int 0, .long 0, .int 0, .long 0, .long 0, .long 0, .long 0, .int 0, .int 0, .int 0, .int 0, .long 0])), (ma 39, .inl (G.2 0, 6, .inl (fun _ => 0))), (ma 11, .inl (G.2 4, 96, .inr (.inl (fun _ => 0))))] := hD
  obtain rfl : r_21 = 0 := hr_21
  refine lv_aload_n hx hb dL_law_1082 rfl (lv_at hl 1 rfl) ?_
  refine lv_aload_n hx hb dL_law_1083 rfl (lv_at hl 3 rfl) ?_
  refine lv_iload_n hx hb dL_law_1084 rfl (lv_at hl 0 rfl) ?_
  refine lv_iconst (v := 1) hx hb dL_law_1085 (by decide) ?_
  refine lv_iadd hx hb dL_law_1086 ?_
  refine lv_topi (fun z_23 ez_23 => ?_)
  obtain rfl : z_23 = 1 := ez_23.trans (by first | rfl | decide +kernel)
  refine va_sld hx hb hX hbl hbA hS (by unfold vp_in; decide +kernel) dL_law_1087 ?_
  rw [← ez_2]
  refine lv_aload_n hx hb dL_law_1088 rfl (lv_at hl 3 rfl) ?_
  refine lv_iload_n hx hb dL_law_1089 rfl (lv_at hl 0 rfl) ?_
  refine lv_iconst (v := 2) hx hb dL_law_1090 (by decide) ?_
  refine lv_iadd hx hb dL_law_1091 ?_
  refine lv_topi (fun z_24 ez_24 => ?_)
  obtain rfl : z_24 = 2 := ez_24.trans (by first | rfl | decide +kernel)
  refine va_sld hx hb hX hbl hbA hS (by unfold vp_in; decide +kernel) dL_law_1092 ?_
  rw [← ez_4]
  refine lv_i2l hx hb dL_law_1093 rfl ?_
  refine lv_topl (fun z_25 ez_25 => ?_)
  refine lv_bipush (v := 32) hx hb dL_law_1094 (by decide) ?_
  refine lv_lshl hx hb dL_law_1096 rfl ?_
  refine lv_topl (fun z_26 ez_26 => ?_)
  refine lv_aload_n hx hb dL_law_1097 rfl (lv_at hl 3 rfl) ?_
  refine lv_iload_n hx hb dL_law_1098 rfl (lv_at hl 0 rfl) ?_
  refine lv_iconst (v := 3) hx hb dL_law_1099 (by decide) ?_
  refine lv_iadd hx hb dL_law_1100 ?_
  refine lv_topi (fun z_27 ez_27 => ?_)
  obtain rfl : z_27 = 3 := ez_27.trans (by first | rfl | decide +kernel)
  refine va_sld hx hb hX hbl hbA hS (by unfold vp_in; decide +kernel) dL_law_1101 ?_
  rw [← ez_8]
  refine lv_i2l hx hb dL_law_1102 rfl ?_
  refine lv_topl (fun z_28 ez_28 => ?_)
  refine lv_ldc2 (v := 4294967295) hx hb hown (htl (.constantLong RL 86 (4294967295)) mW6) dL_law_1103 ?_
  refine lv_land hx hb dL_law_1106 ?_
  refine lv_topl (fun z_29 ez_29 => ?_)
  refine lv_lor hx hb dL_law_1107 ?_
  refine lv_topl (fun z_30 ez_30 => ?_)
  refine lv_aload_n hx hb dL_law_1108 rfl (lv_at hl 3 rfl) ?_
  refine lv_iload_n hx hb dL_law_1109 rfl (lv_at hl 0 rfl) ?_
  refine lv_iconst (v := 4) hx hb dL_law_1110 (by decide) ?_
  refine lv_iadd hx hb dL_law_1111 ?_
  refine lv_topi (fun z_31 ez_31 => ?_)
  obtain rfl : z_31 = 4 := ez_31.trans (by first | rfl | decide +kernel)
  refine va_sld hx hb hX hbl hbA hS (by unfold vp_in; decide +kernel) dL_law_1112 ?_
  rw [← ez_13]
  refine lv_i2l hx hb dL_law_1113 rfl ?_
  refine lv_topl (fun z_32 ez_32 => ?_)
  refine lv_bipush (v := 32) hx hb dL_law_1114 (by decide) ?_
  refine lv_lshl hx hb dL_law_1116 rfl ?_
  refine lv_topl (fun z_33 ez_33 => ?_)
  refine lv_aload_n hx hb dL_law_1117 rfl (lv_at hl 3 rfl) ?_
  refine lv_iload_n hx hb dL_law_1118 rfl (lv_at hl 0 rfl) ?_
  refine lv_iconst (v := 5) hx hb dL_law_1119 (by decide) ?_
  refine lv_iadd hx hb dL_law_1120 ?_
  refine lv_topi (fun z_34 ez_34 => ?_)
  obtain rfl : z_34 = 5 := ez_34.trans (by first | rfl | decide +kernel)
  refine va_sld hx hb hX hbl hbA hS (by unfold vp_in; decide +kernel) dL_law_1121 ?_
  rw [← ez_17]
  refine lv_i2l hx hb dL_law_1122 rfl ?_
  refine lv_topl (fun z_35 ez_35 => ?_)
  refine lv_ldc2 (v := 4294967295) hx hb hown (htl (.constantLong RL 86 (4294967295)) mW6) dL_law_1123 ?_
  refine lv_land hx hb dL_law_1126 ?_
  refine lv_topl (fun z_36 ez_36 => ?_)
  refine lv_lor hx hb dL_law_1127 ?_
  refine lv_topl (fun z_37 ez_37 => ?_)
  refine xVwi (rq := 0) (ci := 9) (wc := [(m0, .inr (9, [.int 0, .int 0, .int 0, .int (-1), .ref (ma 4), .ref (ma 5), .ref (ma 6), .ref (ma 7), .ref (ma 8), .ref (ma 9), .ref (ma 10), .ref (ma 11), .ref (ma 12), .ref (ma 13), .ref (ma 14), .ref (ma 15), .ref (ma 16), .ref (ma 17), .ref (ma 18), .ref (ma 19), .int 0, .ref (ma 21), .ref (ma 22), .ref (ma 23), .ref (ma 24), .ref (ma 25), .ref (ma 26), .ref (ma 27), .ref (ma 28), .ref (ma 29), .ref (ma 30), .ref (ma 31), .ref (ma 32), .ref (ma 33), .ref (ma 34), .ref (ma 35), .ref (ma 36), .ref (ma 37), .int 0, .ref (ma 39), .ref (ma 40), .ref (ma 41), .ref (ma 42), .ref (ma 43), .ref (ma 44), .ref (ma 45), .ref (ma 46), .ref (ma 47), .ref (ma 48), .int 0, .int 0, .int 0, .int 0, .int 0, .int 0, .int 0, .long 0, .int 0, .long 0, .long 0, .long 0, .long 0, .int 0, .int 0, .int 0, .int 0, .long 0])), (ma 39, .inl (G.2 0, 6, .inl (fun _ => 0))), (ma 11, .inl (G.2 4, 96, .inr (.inl (fun _ => 0))))]) (wr := []) (As := [.int z_2, .long z_30, .long z_37]) (rest := [.int 0]) C0 (c_X9_rate l G m0 ma z_2 z_30 z_37) ok_X9_rate (mW547 : Cond.methodLink RL 106 yX9_rate ∈ wsT) ⟨Nat.le_of_ble_eq_true rfl, Nat.le_of_ble_eq_true rfl⟩ hP hD hS hA hK hN [0, 1, 2] [] rfl rfl (by decide) (by decide) (by decide) rfl rfl rfl rfl hl.1 rfl (Nat.le_of_ble_eq_true rfl) ⟨Nat.le_of_ble_eq_true rfl, Nat.le_of_ble_eq_true rfl⟩ dL_law_1128 (fun r_38 u_39 H locs hr_38 hP hD hS => ?_)
  have hP : va_P G.1 xcl [] H := hP
  have hD : va_D A [] := hD
  obtain rfl : r_38 = 0 := hr_38
  refine lv_icmp_eq (tgt := 1789) hx hb dL_law_1131 (by decide) (fun c_40 => ?_) (fun c_40 => absurd c_40 (by decide +kernel))
  exact law_tail C0 hr hlocks hX hbl hbA hA2 hS ls (lv_sub hl [0, 3] rfl)
theorem dL_law_1136 : decode cL_law 1136 = .ok (.aload_n 1, 1) := by decide +kernel
theorem dL_law_1137 : decode cL_law 1137 = .ok (.aload_n 0, 1) := by decide +kernel
theorem dL_law_1138 : decode cL_law 1138 = .ok (.iload_n 3, 1) := by decide +kernel
theorem dL_law_1139 : decode cL_law 1139 = .ok (.iconst 1, 1) := by decide +kernel
theorem dL_law_1140 : decode cL_law 1140 = .ok (.iadd, 1) := by decide +kernel
theorem dL_law_1141 : decode cL_law 1141 = .ok (.iaload, 1) := by decide +kernel
theorem dL_law_1142 : decode cL_law 1142 = .ok (.invokevirtual 107, 3) := by decide +kernel
theorem dL_law_1145 : decode cL_law 1145 = .ok (.aload_n 2, 1) := by decide +kernel
theorem dL_law_1146 : decode cL_law 1146 = .ok (.aload_n 0, 1) := by decide +kernel
theorem dL_law_1147 : decode cL_law 1147 = .ok (.iload_n 3, 1) := by decide +kernel
theorem dL_law_1148 : decode cL_law 1148 = .ok (.iconst 1, 1) := by decide +kernel
theorem dL_law_1149 : decode cL_law 1149 = .ok (.iadd, 1) := by decide +kernel
theorem dL_law_1150 : decode cL_law 1150 = .ok (.iaload, 1) := by decide +kernel
theorem dL_law_1151 : decode cL_law 1151 = .ok (.invokevirtual 110, 3) := by decide +kernel
theorem dL_law_1154 : decode cL_law 1154 = .ok (.if_icmp .eq 635, 3) := by decide +kernel
set_option maxHeartbeats 4000000 in
set_option maxRecDepth 100000 in
/-- case 20: together -/
theorem law_20 {q0 : Nat} {qb : Nat} {qk : Nat} {qg : Nat} {qr : Nat} {b : Nat → Nat} {pf : Nat → Option Nat} {kf : Nat → Int32} {b2 : Nat → Nat} {pf2 : Nat → Option Nat} {kf2 : Nat → Int32} {m0 : Nat} {ma : Nat → Nat} {p : Program} {l : Launch} {e : Env} {s : State} {m : MethodId} {below : List Frame} {meth : Method} {c : Code} {G : xG} {sc : Nat} {xs : Nat → Int32} {A : Nat → Prop} (C0 : CallFix p m c code 4 s #[Value.ref sc] wsT RL) (hr : meth.sig.returnType = ret) (hlocks : meth.locks = false) (hK : va_K G.1 xcl (xty G) s) (hN : xN s) (hX : va_X sc 7 xs s s.heap) (hbl : sc < s.heap.size) (hbA : ¬ A sc) (hA : ∀ q : Nat, s.heap.size ≤ q → A q) (hA2 : ∀ q, A q → s.heap.size ≤ q) (hpf : ∀ k, k < 8 → pf k = some (b (16 + k))) (hpf2 : ∀ k, k < 8 → pf2 k = some (b2 (16 + k))) {H : Heap} {locs : List Loc} {ls : Array Slot} (hP : va_P G.1 xcl [(q0, .inr (8, [.ref qb, .ref qk, .ref qg, .ref qr, .int 0, .int 0])), (qr, .inl (G.2 0, 6, .inl (fun _ => 0))), (qb, .inr (0, [.ref (b 0), .ref (b 1), .ref (b 2), .ref (b 3), .ref (b 4), .int 0])), (b 3, .inl (G.2 5, 8, .inr (.inr (.inr (.inr pf))))), (b 16, .inr (4, [.ref (b 24), .ref (b 32), .int 0, .int 0, .int 0, .int 0, .int 0, .int 0, .long 0, .long 0, .long 0])), (b 17, .inr (4, [.ref (b 25), .ref (b 33), .int 0, .int 0, .int 0, .int 0, .int 0, .int 0, .long 0, .long 0, .long 0])), (b 18, .inr (4, [.ref (b 26), .ref (b 34), .int 0, .int 0, .int 0, .int 0, .int 0, .int 0, .long 0, .long 0, .long 0])), (b 19, .inr (4, [.ref (b 27), .ref (b 35), .int 0, .int 0, .int 0, .int 0, .int 0, .int 0, .long 0, .long 0, .long 0])), (b 20, .inr (4, [.ref (b 28), .ref (b 36), .int 0, .int 0, .int 0, .int 0, .int 0, .int 0, .long 0, .long 0, .long 0])), (b 21, .inr (4, [.ref (b 29), .ref (b 37), .int 0, .int 0, .int 0, .int 0, .int 0, .int 0, .long 0, .long 0, .long 0])), (b 22, .inr (4, [.ref (b 30), .ref (b 38), .int 0, .int 0, .int 0, .int 0, .int 0, .int 0, .long 0, .long 0, .long 0])), (b 23, .inr (4, [.ref (b 31), .ref (b 39), .int 0, .int 0, .int 0, .int 0, .int 0, .int 0, .long 0, .long 0, .long 0])), (m0, .inr (9, [.int 0, .int 0, .int 0, .int (-1), .ref (ma 4), .ref (ma 5), .ref (ma 6), .ref (ma 7), .ref (ma 8), .ref (ma 9), .ref (ma 10), .ref (ma 11), .ref (ma 12), .ref (ma 13), .ref (ma 14), .ref (ma 15), .ref (ma 16), .ref (ma 17), .ref (ma 18), .ref (ma 19), .int 0, .ref (ma 21), .ref (ma 22), .ref (ma 23), .ref (ma 24), .ref (ma 25), .ref (ma 26), .ref (ma 27), .ref (ma 28), .ref (ma 29), .ref (ma 30), .ref (ma 31), .ref (ma 32), .ref (ma 33), .ref (ma 34), .ref (ma 35), .ref (ma 36), .ref (ma 37), .int 0, .ref (ma 39), .ref (ma 40), .ref (ma 41), .ref (ma 42), .ref (ma 43), .ref (ma 44), .ref (ma 45), .ref (ma 46), .ref (ma 47), .ref (ma 48), .int 0, .int 0, .int 0, .int 0, .int 0, .int 0, .int 0, .long 0, .int 0, .long 0, .long 0, .long 0, .long 0, .int 0, .int 0, .int 0, .int 0, .long 0])), (ma 39, .inl (G.2 0, 6, .inl (fun _ => 0))), (ma 11, .inl (G.2 4, 96, .inr (.inl (fun _ => 0))))] H) (hD : va_D A [(q0, .inr (8, [.ref qb, .ref qk, .ref qg, .ref qr, .int 0, .int 0])), (qr, .inl (G.2 0, 6, .inl (fun _ => 0))), (qb, .inr (0, [.ref (b 0), .ref (b 1), .ref (b 2), .ref (b 3), .ref (b 4), .int 0])), (b 3, .inl (G.2 5, 8, .inr (.inr (.inr (.inr pf))))), (b 16, .inr (4, [.ref (b 24), .ref (b 32), .int 0, .int 0, .int 0, .int 0, .int 0, .int 0, .long 0, .long 0, .long 0])), (b 17, .inr (4, [.ref (b 25), .ref (b 33), .int 0, .int 0, .int 0, .int 0, .int 0, .int 0, .long 0, .long 0, .long 0])), (b 18, .inr (4, [.ref (b 26), .ref (b 34), .int 0, .int 0, .int 0, .int 0, .int 0, .int 0, .long 0, .long 0, .long 0])), (b 19, .inr (4, [.ref (b 27), .ref (b 35), .int 0, .int 0, .int 0, .int 0, .int 0, .int 0, .long 0, .long 0, .long 0])), (b 20, .inr (4, [.ref (b 28), .ref (b 36), .int 0, .int 0, .int 0, .int 0, .int 0, .int 0, .long 0, .long 0, .long 0])), (b 21, .inr (4, [.ref (b 29), .ref (b 37), .int 0, .int 0, .int 0, .int 0, .int 0, .int 0, .long 0, .long 0, .long 0])), (b 22, .inr (4, [.ref (b 30), .ref (b 38), .int 0, .int 0, .int 0, .int 0, .int 0, .int 0, .long 0, .long 0, .long 0])), (b 23, .inr (4, [.ref (b 31), .ref (b 39), .int 0, .int 0, .int 0, .int 0, .int 0, .int 0, .long 0, .long 0, .long 0])), (m0, .inr (9, [.int 0, .int 0, .int 0, .int (-1), .ref (ma 4), .ref (ma 5), .ref (ma 6), .ref (ma 7), .ref (ma 8), .ref (ma 9), .ref (ma 10), .ref (ma 11), .ref (ma 12), .ref (ma 13), .ref (ma 14), .ref (ma 15), .ref (ma 16), .ref (ma 17), .ref (ma 18), .ref (ma 19), .int 0, .ref (ma 21), .ref (ma 22), .ref (ma 23), .ref (ma 24), .ref (ma 25), .ref (ma 26), .ref (ma 27), .ref (ma 28), .ref (ma 29), .ref (ma 30), .ref (ma 31), .ref (ma 32), .ref (ma 33), .ref (ma 34), .ref (ma 35), .ref (ma 36), .ref (ma 37), .int 0, .ref (ma 39), .ref (ma 40), .ref (ma 41), .ref (ma 42), .ref (ma 43), .ref (ma 44), .ref (ma 45), .ref (ma 46), .ref (ma 47), .ref (ma 48), .int 0, .int 0, .int 0, .int 0, .int 0, .int 0, .int 0, .long 0, .int 0, .long 0, .long 0, .long 0, .long 0, .int 0, .int 0, .int 0, .int 0, .long 0])), (ma 39, .inl (G.2 0, 6, .inl (fun _ => 0))), (ma 11, .inl (G.2 4, 96, .inr (.inl (fun _ => 0))))]) (hS : va_S A s.heap H locs) (hl : lv_has ls 4 [(3, .int 0), (2, .ref m0), (1, .ref q0), (0, .ref sc)]) : W p l e room_1 s m #[Value.ref sc] below meth c H locs 169 136076 (lw_Z below #[Value.ref sc] s) (F0 m 1136 ls []) := by
  obtain ⟨hx, hb, hml, hown, htl⟩ := id C0
  refine lv_aload_n hx hb dL_law_1136 rfl (lv_at hl 2 rfl) ?_
  refine lv_aload_n hx hb dL_law_1137 rfl (lv_at hl 3 rfl) ?_
  refine lv_iload_n hx hb dL_law_1138 rfl (lv_at hl 0 rfl) ?_
  refine lv_iconst (v := 1) hx hb dL_law_1139 (by decide) ?_
  refine lv_iadd hx hb dL_law_1140 ?_
  refine lv_topi (fun z_1 ez_1 => ?_)
  obtain rfl : z_1 = 1 := ez_1.trans (by first | rfl | decide +kernel)
  refine va_sld hx hb hX hbl hbA hS (by unfold vp_in; decide +kernel) dL_law_1141 ?_
  refine lv_topi (fun z_2 ez_2 => ?_)
  refine xVwi (rq := 0) (ci := 8) (wc := [(q0, .inr (8, [.ref qb, .ref qk, .ref qg, .ref qr, .int 0, .int 0])), (qr, .inl (G.2 0, 6, .inl (fun _ => 0))), (qb, .inr (0, [.ref (b 0), .ref (b 1), .ref (b 2), .ref (b 3), .ref (b 4), .int 0])), (b 3, .inl (G.2 5, 8, .inr (.inr (.inr (.inr pf))))), (b 16, .inr (4, [.ref (b 24), .ref (b 32), .int 0, .int 0, .int 0, .int 0, .int 0, .int 0, .long 0, .long 0, .long 0])), (b 17, .inr (4, [.ref (b 25), .ref (b 33), .int 0, .int 0, .int 0, .int 0, .int 0, .int 0, .long 0, .long 0, .long 0])), (b 18, .inr (4, [.ref (b 26), .ref (b 34), .int 0, .int 0, .int 0, .int 0, .int 0, .int 0, .long 0, .long 0, .long 0])), (b 19, .inr (4, [.ref (b 27), .ref (b 35), .int 0, .int 0, .int 0, .int 0, .int 0, .int 0, .long 0, .long 0, .long 0])), (b 20, .inr (4, [.ref (b 28), .ref (b 36), .int 0, .int 0, .int 0, .int 0, .int 0, .int 0, .long 0, .long 0, .long 0])), (b 21, .inr (4, [.ref (b 29), .ref (b 37), .int 0, .int 0, .int 0, .int 0, .int 0, .int 0, .long 0, .long 0, .long 0])), (b 22, .inr (4, [.ref (b 30), .ref (b 38), .int 0, .int 0, .int 0, .int 0, .int 0, .int 0, .long 0, .long 0, .long 0])), (b 23, .inr (4, [.ref (b 31), .ref (b 39), .int 0, .int 0, .int 0, .int 0, .int 0, .int 0, .long 0, .long 0, .long 0]))]) (wr := [(m0, .inr (9, [.int 0, .int 0, .int 0, .int (-1), .ref (ma 4), .ref (ma 5), .ref (ma 6), .ref (ma 7), .ref (ma 8), .ref (ma 9), .ref (ma 10), .ref (ma 11), .ref (ma 12), .ref (ma 13), .ref (ma 14), .ref (ma 15), .ref (ma 16), .ref (ma 17), .ref (ma 18), .ref (ma 19), .int 0, .ref (ma 21), .ref (ma 22), .ref (ma 23), .ref (ma 24), .ref (ma 25), .ref (ma 26), .ref (ma 27), .ref (ma 28), .ref (ma 29), .ref (ma 30), .ref (ma 31), .ref (ma 32), .ref (ma 33), .ref (ma 34), .ref (ma 35), .ref (ma 36), .ref (ma 37), .int 0, .ref (ma 39), .ref (ma 40), .ref (ma 41), .ref (ma 42), .ref (ma 43), .ref (ma 44), .ref (ma 45), .ref (ma 46), .ref (ma 47), .ref (ma 48), .int 0, .int 0, .int 0, .int 0, .int 0, .int 0, .int 0, .long 0, .int 0, .long 0, .long 0, .long 0, .long 0, .int 0, .int 0, .int 0, .int 0, .long 0])), (ma 39, .inl (G.2 0, 6, .inl (fun _ => 0))), (ma 11, .inl (G.2 4, 96, .inr (.inl (fun _ => 0))))]) (As := [.int z_2]) (rest := []) C0 (c_X8_together l G q0 qb qk qg qr b pf z_2 hpf) ok_X8_together (mW552 : Cond.methodLink RL 107 yX8_together ∈ wsT) ⟨Nat.le_of_ble_eq_true rfl, Nat.le_of_ble_eq_true rfl⟩ hP hD hS hA hK hN [0, 1, 2, 3, 4, 5, 6, 7, 8, 9, 10, 11] [12, 13, 14] rfl rfl (by decide) (by decide) (by decide) rfl rfl rfl rfl hl.1 rfl (Nat.le_of_ble_eq_true rfl) ⟨Nat.le_of_ble_eq_true rfl, Nat.le_of_ble_eq_true rfl⟩ dL_law_1142 (fun r_3 u_4 H locs hr_3 hP hD hS => ?_)
  have hP : va_P G.1 xcl [(m0, .inr (9, [.int 0, .int 0, .int 0, .int (-1), .ref (ma 4), .ref (ma 5), .ref (ma 6), .ref (ma 7), .ref (ma 8), .ref (ma 9), .ref (ma 10), .ref (ma 11), .ref (ma 12), .ref (ma 13), .ref (ma 14), .ref (ma 15), .ref (ma 16), .ref (ma 17), .ref (ma 18), .ref (ma 19), .int 0, .ref (ma 21), .ref (ma 22), .ref (ma 23), .ref (ma 24), .ref (ma 25), .ref (ma 26), .ref (ma 27), .ref (ma 28), .ref (ma 29), .ref (ma 30), .ref (ma 31), .ref (ma 32), .ref (ma 33), .ref (ma 34), .ref (ma 35), .ref (ma 36), .ref (ma 37), .int 0, .ref (ma 39), .ref (ma 40), .ref (ma 41), .ref (ma 42), .ref (ma 43), .ref (ma 44), .ref (ma 45), .ref (ma 46), .ref (ma 47), .ref (ma 48), .int 0, .int 0, .int 0, .int 0, .int 0, .int 0, .int 0, .long 0, .int 0, .long 0, .long 0, .long 0, .long 0, .int 0, .int 0, .int 0, .int 0, .long 0])), (ma 39, .inl (G.2 0, 6, .inl (fun _ => 0))), (ma 11, .inl (G.2 4, 96, .inr (.inl (fun _ => 0))))] H := hP
  have hD : va_D A [(m0, .inr (9, [.int 0, .int 0, .int 0, .int (-1), .ref (ma 4), .ref (ma 5), .ref (ma 6), .ref (ma 7), .ref (ma 8), .ref (ma 9), .ref (ma 10), .ref (ma 11), .ref (ma 12), .ref (ma 13), .ref (ma 14), .ref (ma 15), .ref (ma 16), .ref (ma 17), .ref (ma 18), .ref (ma 19), .int 0, .ref (ma 21), .ref (ma 22), .ref (ma 23), .ref (ma 24), .ref (ma 25), .ref (ma 26), .ref (ma 27), .ref (ma 28), .ref (ma 29), .ref (ma 30), .ref (ma 31), .ref (ma 32), .ref (ma 33), .ref (ma 34), .ref (ma 35), .ref (ma 36), .ref (ma 37), .int 0, .ref (ma 39), .ref (ma 40), .ref (ma 41), .ref (ma 42), .ref (ma 43), .ref (ma 44), .ref (ma 45), .ref (ma 46), .ref (ma 47), .ref (ma 48), .int 0, .int 0, .int 0, .int 0, .int 0, .int 0, .int 0, .long 0, .int 0, .long 0, .long 0, .long 0, .long 0, .int 0, .int 0, .int 0, .int 0, .long 0])), (ma 39, .inl (G.2 0, 6, .inl (fun _ => 0))), (ma 11, .inl (G.2 4, 96, .inr (.inl (fun _ => 0))))] := hD
  refine lv_aload_n hx hb dL_law_1145 rfl (lv_at hl 1 rfl) ?_
  refine lv_aload_n hx hb dL_law_1146 rfl (lv_at hl 3 rfl) ?_
  refine lv_iload_n hx hb dL_law_1147 rfl (lv_at hl 0 rfl) ?_
  refine lv_iconst (v := 1) hx hb dL_law_1148 (by decide) ?_
  refine lv_iadd hx hb dL_law_1149 ?_
  refine lv_topi (fun z_5 ez_5 => ?_)
  obtain rfl : z_5 = 1 := ez_5.trans (by first | rfl | decide +kernel)
  refine va_sld hx hb hX hbl hbA hS (by unfold vp_in; decide +kernel) dL_law_1150 ?_
  rw [← ez_2]
  refine xVwi (rq := 0) (ci := 9) (wc := [(m0, .inr (9, [.int 0, .int 0, .int 0, .int (-1), .ref (ma 4), .ref (ma 5), .ref (ma 6), .ref (ma 7), .ref (ma 8), .ref (ma 9), .ref (ma 10), .ref (ma 11), .ref (ma 12), .ref (ma 13), .ref (ma 14), .ref (ma 15), .ref (ma 16), .ref (ma 17), .ref (ma 18), .ref (ma 19), .int 0, .ref (ma 21), .ref (ma 22), .ref (ma 23), .ref (ma 24), .ref (ma 25), .ref (ma 26), .ref (ma 27), .ref (ma 28), .ref (ma 29), .ref (ma 30), .ref (ma 31), .ref (ma 32), .ref (ma 33), .ref (ma 34), .ref (ma 35), .ref (ma 36), .ref (ma 37), .int 0, .ref (ma 39), .ref (ma 40), .ref (ma 41), .ref (ma 42), .ref (ma 43), .ref (ma 44), .ref (ma 45), .ref (ma 46), .ref (ma 47), .ref (ma 48), .int 0, .int 0, .int 0, .int 0, .int 0, .int 0, .int 0, .long 0, .int 0, .long 0, .long 0, .long 0, .long 0, .int 0, .int 0, .int 0, .int 0, .long 0])), (ma 39, .inl (G.2 0, 6, .inl (fun _ => 0))), (ma 11, .inl (G.2 4, 96, .inr (.inl (fun _ => 0))))]) (wr := []) (As := [.int z_2]) (rest := [.int r_3]) C0 (c_X9_together l G m0 ma z_2) ok_X9_together (mW556 : Cond.methodLink RL 110 yX9_together ∈ wsT) ⟨Nat.le_of_ble_eq_true rfl, Nat.le_of_ble_eq_true rfl⟩ hP hD hS hA hK hN [0, 1, 2] [] rfl rfl (by decide) (by decide) (by decide) rfl rfl rfl rfl hl.1 rfl (Nat.le_of_ble_eq_true rfl) ⟨Nat.le_of_ble_eq_true rfl, Nat.le_of_ble_eq_true rfl⟩ dL_law_1151 (fun r_6 u_7 H locs hr_6 hP hD hS => ?_)
  have hP : va_P G.1 xcl [] H := hP
  have hD : va_D A [] := hD
  refine lv_icmp_eq (tgt := 1789) hx hb dL_law_1154 (by decide) (fun c_8 => ?_) (fun c_8 => absurd (xeqtg hr_3 hr_6) c_8)
  exact law_tail C0 hr hlocks hX hbl hbA hA2 hS ls (lv_sub hl [0, 3] rfl)
theorem dL_law_1159 : decode cL_law 1159 = .ok (.aload_n 1, 1) := by decide +kernel
theorem dL_law_1160 : decode cL_law 1160 = .ok (.aload_n 0, 1) := by decide +kernel
theorem dL_law_1161 : decode cL_law 1161 = .ok (.iload_n 3, 1) := by decide +kernel
theorem dL_law_1162 : decode cL_law 1162 = .ok (.iconst 1, 1) := by decide +kernel
theorem dL_law_1163 : decode cL_law 1163 = .ok (.iadd, 1) := by decide +kernel
theorem dL_law_1164 : decode cL_law 1164 = .ok (.iaload, 1) := by decide +kernel
theorem dL_law_1165 : decode cL_law 1165 = .ok (.aload_n 0, 1) := by decide +kernel
theorem dL_law_1166 : decode cL_law 1166 = .ok (.iload_n 3, 1) := by decide +kernel
theorem dL_law_1167 : decode cL_law 1167 = .ok (.iconst 2, 1) := by decide +kernel
theorem dL_law_1168 : decode cL_law 1168 = .ok (.iadd, 1) := by decide +kernel
theorem dL_law_1169 : decode cL_law 1169 = .ok (.iaload, 1) := by decide +kernel
theorem dL_law_1170 : decode cL_law 1170 = .ok (.invokevirtual 111, 3) := by decide +kernel
theorem dL_law_1173 : decode cL_law 1173 = .ok (.aload_n 2, 1) := by decide +kernel
theorem dL_law_1174 : decode cL_law 1174 = .ok (.aload_n 0, 1) := by decide +kernel
theorem dL_law_1175 : decode cL_law 1175 = .ok (.iload_n 3, 1) := by decide +kernel
theorem dL_law_1176 : decode cL_law 1176 = .ok (.iconst 1, 1) := by decide +kernel
theorem dL_law_1177 : decode cL_law 1177 = .ok (.iadd, 1) := by decide +kernel
theorem dL_law_1178 : decode cL_law 1178 = .ok (.iaload, 1) := by decide +kernel
theorem dL_law_1179 : decode cL_law 1179 = .ok (.aload_n 0, 1) := by decide +kernel
theorem dL_law_1180 : decode cL_law 1180 = .ok (.iload_n 3, 1) := by decide +kernel
theorem dL_law_1181 : decode cL_law 1181 = .ok (.iconst 2, 1) := by decide +kernel
theorem dL_law_1182 : decode cL_law 1182 = .ok (.iadd, 1) := by decide +kernel
theorem dL_law_1183 : decode cL_law 1183 = .ok (.iaload, 1) := by decide +kernel
theorem dL_law_1184 : decode cL_law 1184 = .ok (.invokevirtual 114, 3) := by decide +kernel
theorem dL_law_1187 : decode cL_law 1187 = .ok (.if_icmp .eq 602, 3) := by decide +kernel
set_option maxHeartbeats 4000000 in
set_option maxRecDepth 100000 in
/-- case 21: told -/
theorem law_21 {q0 : Nat} {qb : Nat} {qk : Nat} {qg : Nat} {qr : Nat} {b : Nat → Nat} {pf : Nat → Option Nat} {kf : Nat → Int32} {b2 : Nat → Nat} {pf2 : Nat → Option Nat} {kf2 : Nat → Int32} {m0 : Nat} {ma : Nat → Nat} {p : Program} {l : Launch} {e : Env} {s : State} {m : MethodId} {below : List Frame} {meth : Method} {c : Code} {G : xG} {sc : Nat} {xs : Nat → Int32} {A : Nat → Prop} (C0 : CallFix p m c code 4 s #[Value.ref sc] wsT RL) (hr : meth.sig.returnType = ret) (hlocks : meth.locks = false) (hK : va_K G.1 xcl (xty G) s) (hN : xN s) (hX : va_X sc 7 xs s s.heap) (hbl : sc < s.heap.size) (hbA : ¬ A sc) (hA : ∀ q : Nat, s.heap.size ≤ q → A q) (hA2 : ∀ q, A q → s.heap.size ≤ q) (hpf : ∀ k, k < 8 → pf k = some (b (16 + k))) (hpf2 : ∀ k, k < 8 → pf2 k = some (b2 (16 + k))) {H : Heap} {locs : List Loc} {ls : Array Slot} (hP : va_P G.1 xcl [(q0, .inr (8, [.ref qb, .ref qk, .ref qg, .ref qr, .int 0, .int 0])), (qr, .inl (G.2 0, 6, .inl (fun _ => 0))), (qb, .inr (0, [.ref (b 0), .ref (b 1), .ref (b 2), .ref (b 3), .ref (b 4), .int 0])), (b 3, .inl (G.2 5, 8, .inr (.inr (.inr (.inr pf))))), (b 16, .inr (4, [.ref (b 24), .ref (b 32), .int 0, .int 0, .int 0, .int 0, .int 0, .int 0, .long 0, .long 0, .long 0])), (b 17, .inr (4, [.ref (b 25), .ref (b 33), .int 0, .int 0, .int 0, .int 0, .int 0, .int 0, .long 0, .long 0, .long 0])), (b 18, .inr (4, [.ref (b 26), .ref (b 34), .int 0, .int 0, .int 0, .int 0, .int 0, .int 0, .long 0, .long 0, .long 0])), (b 19, .inr (4, [.ref (b 27), .ref (b 35), .int 0, .int 0, .int 0, .int 0, .int 0, .int 0, .long 0, .long 0, .long 0])), (b 20, .inr (4, [.ref (b 28), .ref (b 36), .int 0, .int 0, .int 0, .int 0, .int 0, .int 0, .long 0, .long 0, .long 0])), (b 21, .inr (4, [.ref (b 29), .ref (b 37), .int 0, .int 0, .int 0, .int 0, .int 0, .int 0, .long 0, .long 0, .long 0])), (b 22, .inr (4, [.ref (b 30), .ref (b 38), .int 0, .int 0, .int 0, .int 0, .int 0, .int 0, .long 0, .long 0, .long 0])), (b 23, .inr (4, [.ref (b 31), .ref (b 39), .int 0, .int 0, .int 0, .int 0, .int 0, .int 0, .long 0, .long 0, .long 0])), (m0, .inr (9, [.int 0, .int 0, .int 0, .int (-1), .ref (ma 4), .ref (ma 5), .ref (ma 6), .ref (ma 7), .ref (ma 8), .ref (ma 9), .ref (ma 10), .ref (ma 11), .ref (ma 12), .ref (ma 13), .ref (ma 14), .ref (ma 15), .ref (ma 16), .ref (ma 17), .ref (ma 18), .ref (ma 19), .int 0, .ref (ma 21), .ref (ma 22), .ref (ma 23), .ref (ma 24), .ref (ma 25), .ref (ma 26), .ref (ma 27), .ref (ma 28), .ref (ma 29), .ref (ma 30), .ref (ma 31), .ref (ma 32), .ref (ma 33), .ref (ma 34), .ref (ma 35), .ref (ma 36), .ref (ma 37), .int 0, .ref (ma 39), .ref (ma 40), .ref (ma 41), .ref (ma 42), .ref (ma 43), .ref (ma 44), .ref (ma 45), .ref (ma 46), .ref (ma 47), .ref (ma 48), .int 0, .int 0, .int 0, .int 0, .int 0, .int 0, .int 0, .long 0, .int 0, .long 0, .long 0, .long 0, .long 0, .int 0, .int 0, .int 0, .int 0, .long 0])), (ma 39, .inl (G.2 0, 6, .inl (fun _ => 0))), (ma 11, .inl (G.2 4, 96, .inr (.inl (fun _ => 0))))] H) (hD : va_D A [(q0, .inr (8, [.ref qb, .ref qk, .ref qg, .ref qr, .int 0, .int 0])), (qr, .inl (G.2 0, 6, .inl (fun _ => 0))), (qb, .inr (0, [.ref (b 0), .ref (b 1), .ref (b 2), .ref (b 3), .ref (b 4), .int 0])), (b 3, .inl (G.2 5, 8, .inr (.inr (.inr (.inr pf))))), (b 16, .inr (4, [.ref (b 24), .ref (b 32), .int 0, .int 0, .int 0, .int 0, .int 0, .int 0, .long 0, .long 0, .long 0])), (b 17, .inr (4, [.ref (b 25), .ref (b 33), .int 0, .int 0, .int 0, .int 0, .int 0, .int 0, .long 0, .long 0, .long 0])), (b 18, .inr (4, [.ref (b 26), .ref (b 34), .int 0, .int 0, .int 0, .int 0, .int 0, .int 0, .long 0, .long 0, .long 0])), (b 19, .inr (4, [.ref (b 27), .ref (b 35), .int 0, .int 0, .int 0, .int 0, .int 0, .int 0, .long 0, .long 0, .long 0])), (b 20, .inr (4, [.ref (b 28), .ref (b 36), .int 0, .int 0, .int 0, .int 0, .int 0, .int 0, .long 0, .long 0, .long 0])), (b 21, .inr (4, [.ref (b 29), .ref (b 37), .int 0, .int 0, .int 0, .int 0, .int 0, .int 0, .long 0, .long 0, .long 0])), (b 22, .inr (4, [.ref (b 30), .ref (b 38), .int 0, .int 0, .int 0, .int 0, .int 0, .int 0, .long 0, .long 0, .long 0])), (b 23, .inr (4, [.ref (b 31), .ref (b 39), .int 0, .int 0, .int 0, .int 0, .int 0, .int 0, .long 0, .long 0, .long 0])), (m0, .inr (9, [.int 0, .int 0, .int 0, .int (-1), .ref (ma 4), .ref (ma 5), .ref (ma 6), .ref (ma 7), .ref (ma 8), .ref (ma 9), .ref (ma 10), .ref (ma 11), .ref (ma 12), .ref (ma 13), .ref (ma 14), .ref (ma 15), .ref (ma 16), .ref (ma 17), .ref (ma 18), .ref (ma 19), .int 0, .ref (ma 21), .ref (ma 22), .ref (ma 23), .ref (ma 24), .ref (ma 25), .ref (ma 26), .ref (ma 27), .ref (ma 28), .ref (ma 29), .ref (ma 30), .ref (ma 31), .ref (ma 32), .ref (ma 33), .ref (ma 34), .ref (ma 35), .ref (ma 36), .ref (ma 37), .int 0, .ref (ma 39), .ref (ma 40), .ref (ma 41), .ref (ma 42), .ref (ma 43), .ref (ma 44), .ref (ma 45), .ref (ma 46), .ref (ma 47), .ref (ma 48), .int 0, .int 0, .int 0, .int 0, .int 0, .int 0, .int 0, .long 0, .int 0, .long 0, .long 0, .long 0, .long 0, .int 0, .int 0, .int 0, .int 0, .long 0])), (ma 39, .inl (G.2 0, 6, .inl (fun _ => 0))), (ma 11, .inl (G.2 4, 96, .inr (.inl (fun _ => 0))))]) (hS : va_S A s.heap H locs) (hl : lv_has ls 4 [(3, .int 0), (2, .ref m0), (1, .ref q0), (0, .ref sc)]) : W p l e room_1 s m #[Value.ref sc] below meth c H locs 169 136076 (lw_Z below #[Value.ref sc] s) (F0 m 1159 ls []) := by
  obtain ⟨hx, hb, hml, hown, htl⟩ := id C0
  refine lv_aload_n hx hb dL_law_1159 rfl (lv_at hl 2 rfl) ?_
  refine lv_aload_n hx hb dL_law_1160 rfl (lv_at hl 3 rfl) ?_
  refine lv_iload_n hx hb dL_law_1161 rfl (lv_at hl 0 rfl) ?_
  refine lv_iconst (v := 1) hx hb dL_law_1162 (by decide) ?_
  refine lv_iadd hx hb dL_law_1163 ?_
  refine lv_topi (fun z_1 ez_1 => ?_)
  obtain rfl : z_1 = 1 := ez_1.trans (by first | rfl | decide +kernel)
  refine va_sld hx hb hX hbl hbA hS (by unfold vp_in; decide +kernel) dL_law_1164 ?_
  refine lv_topi (fun z_2 ez_2 => ?_)
  refine lv_aload_n hx hb dL_law_1165 rfl (lv_at hl 3 rfl) ?_
  refine lv_iload_n hx hb dL_law_1166 rfl (lv_at hl 0 rfl) ?_
  refine lv_iconst (v := 2) hx hb dL_law_1167 (by decide) ?_
  refine lv_iadd hx hb dL_law_1168 ?_
  refine lv_topi (fun z_3 ez_3 => ?_)
  obtain rfl : z_3 = 2 := ez_3.trans (by first | rfl | decide +kernel)
  refine va_sld hx hb hX hbl hbA hS (by unfold vp_in; decide +kernel) dL_law_1169 ?_
  refine lv_topi (fun z_4 ez_4 => ?_)
  refine xVwi (rq := 0) (ci := 8) (wc := [(q0, .inr (8, [.ref qb, .ref qk, .ref qg, .ref qr, .int 0, .int 0])), (qr, .inl (G.2 0, 6, .inl (fun _ => 0))), (qb, .inr (0, [.ref (b 0), .ref (b 1), .ref (b 2), .ref (b 3), .ref (b 4), .int 0])), (b 3, .inl (G.2 5, 8, .inr (.inr (.inr (.inr pf))))), (b 16, .inr (4, [.ref (b 24), .ref (b 32), .int 0, .int 0, .int 0, .int 0, .int 0, .int 0, .long 0, .long 0, .long 0])), (b 17, .inr (4, [.ref (b 25), .ref (b 33), .int 0, .int 0, .int 0, .int 0, .int 0, .int 0, .long 0, .long 0, .long 0])), (b 18, .inr (4, [.ref (b 26), .ref (b 34), .int 0, .int 0, .int 0, .int 0, .int 0, .int 0, .long 0, .long 0, .long 0])), (b 19, .inr (4, [.ref (b 27), .ref (b 35), .int 0, .int 0, .int 0, .int 0, .int 0, .int 0, .long 0, .long 0, .long 0])), (b 20, .inr (4, [.ref (b 28), .ref (b 36), .int 0, .int 0, .int 0, .int 0, .int 0, .int 0, .long 0, .long 0, .long 0])), (b 21, .inr (4, [.ref (b 29), .ref (b 37), .int 0, .int 0, .int 0, .int 0, .int 0, .int 0, .long 0, .long 0, .long 0])), (b 22, .inr (4, [.ref (b 30), .ref (b 38), .int 0, .int 0, .int 0, .int 0, .int 0, .int 0, .long 0, .long 0, .long 0])), (b 23, .inr (4, [.ref (b 31), .ref (b 39), .int 0, .int 0, .int 0, .int 0, .int 0, .int 0, .long 0, .long 0, .long 0]))]) (wr := [(m0, .inr (9, [.int 0, .int 0, .int 0, .int (-1), .ref (ma 4), .ref (ma 5), .ref (ma 6), .ref (ma 7), .ref (ma 8), .ref (ma 9), .ref (ma 10), .ref (ma 11), .ref (ma 12), .ref (ma 13), .ref (ma 14), .ref (ma 15), .ref (ma 16), .ref (ma 17), .ref (ma 18), .ref (ma 19), .int 0, .ref (ma 21), .ref (ma 22), .ref (ma 23), .ref (ma 24), .ref (ma 25), .ref (ma 26), .ref (ma 27), .ref (ma 28), .ref (ma 29), .ref (ma 30), .ref (ma 31), .ref (ma 32), .ref (ma 33), .ref (ma 34), .ref (ma 35), .ref (ma 36), .ref (ma 37), .int 0, .ref (ma 39), .ref (ma 40), .ref (ma 41), .ref (ma 42), .ref (ma 43), .ref (ma 44), .ref (ma 45), .ref (ma 46), .ref (ma 47), .ref (ma 48), .int 0, .int 0, .int 0, .int 0, .int 0, .int 0, .int 0, .long 0, .int 0, .long 0, .long 0, .long 0, .long 0, .int 0, .int 0, .int 0, .int 0, .long 0])), (ma 39, .inl (G.2 0, 6, .inl (fun _ => 0))), (ma 11, .inl (G.2 4, 96, .inr (.inl (fun _ => 0))))]) (As := [.int z_2, .int z_4]) (rest := []) C0 (c_X8_told l G q0 qb qk qg qr b pf z_2 z_4 hpf) ok_X8_told (mW560 : Cond.methodLink RL 111 yX8_told ∈ wsT) ⟨Nat.le_of_ble_eq_true rfl, Nat.le_of_ble_eq_true rfl⟩ hP hD hS hA hK hN [0, 1, 2, 3, 4, 5, 6, 7, 8, 9, 10, 11] [12, 13, 14] rfl rfl (by decide) (by decide) (by decide) rfl rfl rfl rfl hl.1 rfl (Nat.le_of_ble_eq_true rfl) ⟨Nat.le_of_ble_eq_true rfl, Nat.le_of_ble_eq_true rfl⟩ dL_law_1170 (fun r_5 u_6 H locs hr_5 hP hD hS => ?_)
  have hP : va_P G.1 xcl [(m0, .inr (9, [.int 0, .int 0, .int 0, .int (-1), .ref (ma 4), .ref (ma 5), .ref (ma 6), .ref (ma 7), .ref (ma 8), .ref (ma 9), .ref (ma 10), .ref (ma 11), .ref (ma 12), .ref (ma 13), .ref (ma 14), .ref (ma 15), .ref (ma 16), .ref (ma 17), .ref (ma 18), .ref (ma 19), .int 0, .ref (ma 21), .ref (ma 22), .ref (ma 23), .ref (ma 24), .ref (ma 25), .ref (ma 26), .ref (ma 27), .ref (ma 28), .ref (ma 29), .ref (ma 30), .ref (ma 31), .ref (ma 32), .ref (ma 33), .ref (ma 34), .ref (ma 35), .ref (ma 36), .ref (ma 37), .int 0, .ref (ma 39), .ref (ma 40), .ref (ma 41), .ref (ma 42), .ref (ma 43), .ref (ma 44), .ref (ma 45), .ref (ma 46), .ref (ma 47), .ref (ma 48), .int 0, .int 0, .int 0, .int 0, .int 0, .int 0, .int 0, .long 0, .int 0, .long 0, .long 0, .long 0, .long 0, .int 0, .int 0, .int 0, .int 0, .long 0])), (ma 39, .inl (G.2 0, 6, .inl (fun _ => 0))), (ma 11, .inl (G.2 4, 96, .inr (.inl (fun _ => 0))))] H := hP
  have hD : va_D A [(m0, .inr (9, [.int 0, .int 0, .int 0, .int (-1), .ref (ma 4), .ref (ma 5), .ref (ma 6), .ref (ma 7), .ref (ma 8), .ref (ma 9), .ref (ma 10), .ref (ma 11), .ref (ma 12), .ref (ma 13), .ref (ma 14), .ref (ma 15), .ref (ma 16), .ref (ma 17), .ref (ma 18), .ref (ma 19), .int 0, .ref (ma 21), .ref (ma 22), .ref (ma 23), .ref (ma 24), .ref (ma 25), .ref (ma 26), .ref (ma 27), .ref (ma 28), .ref (ma 29), .ref (ma 30), .ref (ma 31), .ref (ma 32), .ref (ma 33), .ref (ma 34), .ref (ma 35), .ref (ma 36), .ref (ma 37), .int 0, .ref (ma 39), .ref (ma 40), .ref (ma 41), .ref (ma 42), .ref (ma 43), .ref (ma 44), .ref (ma 45), .ref (ma 46), .ref (ma 47), .ref (ma 48), .int 0, .int 0, .int 0, .int 0, .int 0, .int 0, .int 0, .long 0, .int 0, .long 0, .long 0, .long 0, .long 0, .int 0, .int 0, .int 0, .int 0, .long 0])), (ma 39, .inl (G.2 0, 6, .inl (fun _ => 0))), (ma 11, .inl (G.2 4, 96, .inr (.inl (fun _ => 0))))] := hD
  obtain rfl : r_5 = (-1) := hr_5
  refine lv_aload_n hx hb dL_law_1173 rfl (lv_at hl 1 rfl) ?_
  refine lv_aload_n hx hb dL_law_1174 rfl (lv_at hl 3 rfl) ?_
  refine lv_iload_n hx hb dL_law_1175 rfl (lv_at hl 0 rfl) ?_
  refine lv_iconst (v := 1) hx hb dL_law_1176 (by decide) ?_
  refine lv_iadd hx hb dL_law_1177 ?_
  refine lv_topi (fun z_7 ez_7 => ?_)
  obtain rfl : z_7 = 1 := ez_7.trans (by first | rfl | decide +kernel)
  refine va_sld hx hb hX hbl hbA hS (by unfold vp_in; decide +kernel) dL_law_1178 ?_
  rw [← ez_2]
  refine lv_aload_n hx hb dL_law_1179 rfl (lv_at hl 3 rfl) ?_
  refine lv_iload_n hx hb dL_law_1180 rfl (lv_at hl 0 rfl) ?_
  refine lv_iconst (v := 2) hx hb dL_law_1181 (by decide) ?_
  refine lv_iadd hx hb dL_law_1182 ?_
  refine lv_topi (fun z_8 ez_8 => ?_)
  obtain rfl : z_8 = 2 := ez_8.trans (by first | rfl | decide +kernel)
  refine va_sld hx hb hX hbl hbA hS (by unfold vp_in; decide +kernel) dL_law_1183 ?_
  rw [← ez_4]
  refine xVwi (rq := 0) (ci := 9) (wc := [(m0, .inr (9, [.int 0, .int 0, .int 0, .int (-1), .ref (ma 4), .ref (ma 5), .ref (ma 6), .ref (ma 7), .ref (ma 8), .ref (ma 9), .ref (ma 10), .ref (ma 11), .ref (ma 12), .ref (ma 13), .ref (ma 14), .ref (ma 15), .ref (ma 16), .ref (ma 17), .ref (ma 18), .ref (ma 19), .int 0, .ref (ma 21), .ref (ma 22), .ref (ma 23), .ref (ma 24), .ref (ma 25), .ref (ma 26), .ref (ma 27), .ref (ma 28), .ref (ma 29), .ref (ma 30), .ref (ma 31), .ref (ma 32), .ref (ma 33), .ref (ma 34), .ref (ma 35), .ref (ma 36), .ref (ma 37), .int 0, .ref (ma 39), .ref (ma 40), .ref (ma 41), .ref (ma 42), .ref (ma 43), .ref (ma 44), .ref (ma 45), .ref (ma 46), .ref (ma 47), .ref (ma 48), .int 0, .int 0, .int 0, .int 0, .int 0, .int 0, .int 0, .long 0, .int 0, .long 0, .long 0, .long 0, .long 0, .int 0, .int 0, .int 0, .int 0, .long 0])), (ma 39, .inl (G.2 0, 6, .inl (fun _ => 0))), (ma 11, .inl (G.2 4, 96, .inr (.inl (fun _ => 0))))]) (wr := []) (As := [.int z_2, .int z_4]) (rest := [.int (-1)]) C0 (c_X9_told l G m0 ma z_2 z_4) ok_X9_told (mW623 : Cond.methodLink RL 114 yX9_told ∈ wsT) ⟨Nat.le_of_ble_eq_true rfl, Nat.le_of_ble_eq_true rfl⟩ hP hD hS hA hK hN [0, 1, 2] [] rfl rfl (by decide) (by decide) (by decide) rfl rfl rfl rfl hl.1 rfl (Nat.le_of_ble_eq_true rfl) ⟨Nat.le_of_ble_eq_true rfl, Nat.le_of_ble_eq_true rfl⟩ dL_law_1184 (fun r_9 u_10 H locs hr_9 hP hD hS => ?_)
  have hP : va_P G.1 xcl [] H := hP
  have hD : va_D A [] := hD
  obtain rfl : r_9 = (-1) := hr_9
  refine lv_icmp_eq (tgt := 1789) hx hb dL_law_1187 (by decide) (fun c_11 => ?_) (fun c_11 => absurd c_11 (by decide +kernel))
  exact law_tail C0 hr hlocks hX hbl hbA hA2 hS ls (lv_sub hl [0, 3] rfl)
theorem dL_law_1192 : decode cL_law 1192 = .ok (.aload_n 1, 1) := by decide +kernel
theorem dL_law_1193 : decode cL_law 1193 = .ok (.aload_n 0, 1) := by decide +kernel
theorem dL_law_1194 : decode cL_law 1194 = .ok (.iload_n 3, 1) := by decide +kernel
theorem dL_law_1195 : decode cL_law 1195 = .ok (.iconst 1, 1) := by decide +kernel
theorem dL_law_1196 : decode cL_law 1196 = .ok (.iadd, 1) := by decide +kernel
theorem dL_law_1197 : decode cL_law 1197 = .ok (.iaload, 1) := by decide +kernel
theorem dL_law_1198 : decode cL_law 1198 = .ok (.aload_n 0, 1) := by decide +kernel
theorem dL_law_1199 : decode cL_law 1199 = .ok (.iload_n 3, 1) := by decide +kernel
theorem dL_law_1200 : decode cL_law 1200 = .ok (.iconst 2, 1) := by decide +kernel
theorem dL_law_1201 : decode cL_law 1201 = .ok (.iadd, 1) := by decide +kernel
theorem dL_law_1202 : decode cL_law 1202 = .ok (.iaload, 1) := by decide +kernel
theorem dL_law_1203 : decode cL_law 1203 = .ok (.invokevirtual 115, 3) := by decide +kernel
theorem dL_law_1206 : decode cL_law 1206 = .ok (.aload_n 2, 1) := by decide +kernel
theorem dL_law_1207 : decode cL_law 1207 = .ok (.aload_n 0, 1) := by decide +kernel
theorem dL_law_1208 : decode cL_law 1208 = .ok (.iload_n 3, 1) := by decide +kernel
theorem dL_law_1209 : decode cL_law 1209 = .ok (.iconst 1, 1) := by decide +kernel
theorem dL_law_1210 : decode cL_law 1210 = .ok (.iadd, 1) := by decide +kernel
theorem dL_law_1211 : decode cL_law 1211 = .ok (.iaload, 1) := by decide +kernel
theorem dL_law_1212 : decode cL_law 1212 = .ok (.aload_n 0, 1) := by decide +kernel
theorem dL_law_1213 : decode cL_law 1213 = .ok (.iload_n 3, 1) := by decide +kernel
theorem dL_law_1214 : decode cL_law 1214 = .ok (.iconst 2, 1) := by decide +kernel
theorem dL_law_1215 : decode cL_law 1215 = .ok (.iadd, 1) := by decide +kernel
theorem dL_law_1216 : decode cL_law 1216 = .ok (.iaload, 1) := by decide +kernel
theorem dL_law_1217 : decode cL_law 1217 = .ok (.invokevirtual 119, 3) := by decide +kernel
theorem dL_law_1220 : decode cL_law 1220 = .ok (.lcmp, 1) := by decide +kernel
theorem dL_law_1221 : decode cL_law 1221 = .ok (.ifCond .eq 568, 3) := by decide +kernel
set_option maxHeartbeats 4000000 in
set_option maxRecDepth 100000 in
/-- case 22: weight -/
theorem law_22 {q0 : Nat} {qb : Nat} {qk : Nat} {qg : Nat} {qr : Nat} {b : Nat → Nat} {pf : Nat → Option Nat} {kf : Nat → Int32} {b2 : Nat → Nat} {pf2 : Nat → Option Nat} {kf2 : Nat → Int32} {m0 : Nat} {ma : Nat → Nat} {p : Program} {l : Launch} {e : Env} {s : State} {m : MethodId} {below : List Frame} {meth : Method} {c : Code} {G : xG} {sc : Nat} {xs : Nat → Int32} {A : Nat → Prop} (C0 : CallFix p m c code 4 s #[Value.ref sc] wsT RL) (hr : meth.sig.returnType = ret) (hlocks : meth.locks = false) (hK : va_K G.1 xcl (xty G) s) (hN : xN s) (hX : va_X sc 7 xs s s.heap) (hbl : sc < s.heap.size) (hbA : ¬ A sc) (hA : ∀ q : Nat, s.heap.size ≤ q → A q) (hA2 : ∀ q, A q → s.heap.size ≤ q) (hpf : ∀ k, k < 8 → pf k = some (b (16 + k))) (hpf2 : ∀ k, k < 8 → pf2 k = some (b2 (16 + k))) {H : Heap} {locs : List Loc} {ls : Array Slot} (hP : va_P G.1 xcl [(q0, .inr (8, [.ref qb, .ref qk, .ref qg, .ref qr, .int 0, .int 0])), (qr, .inl (G.2 0, 6, .inl (fun _ => 0))), (qb, .inr (0, [.ref (b 0), .ref (b 1), .ref (b 2), .ref (b 3), .ref (b 4), .int 0])), (b 3, .inl (G.2 5, 8, .inr (.inr (.inr (.inr pf))))), (b 16, .inr (4, [.ref (b 24), .ref (b 32), .int 0, .int 0, .int 0, .int 0, .int 0, .int 0, .long 0, .long 0, .long 0])), (b 17, .inr (4, [.ref (b 25), .ref (b 33), .int 0, .int 0, .int 0, .int 0, .int 0, .int 0, .long 0, .long 0, .long 0])), (b 18, .inr (4, [.ref (b 26), .ref (b 34), .int 0, .int 0, .int 0, .int 0, .int 0, .int 0, .long 0, .long 0, .long 0])), (b 19, .inr (4, [.ref (b 27), .ref (b 35), .int 0, .int 0, .int 0, .int 0, .int 0, .int 0, .long 0, .long 0, .long 0])), (b 20, .inr (4, [.ref (b 28), .ref (b 36), .int 0, .int 0, .int 0, .int 0, .int 0, .int 0, .long 0, .long 0, .long 0])), (b 21, .inr (4, [.ref (b 29), .ref (b 37), .int 0, .int 0, .int 0, .int 0, .int 0, .int 0, .long 0, .long 0, .long 0])), (b 22, .inr (4, [.ref (b 30), .ref (b 38), .int 0, .int 0, .int 0, .int 0, .int 0, .int 0, .long 0, .long 0, .long 0])), (b 23, .inr (4, [.ref (b 31), .ref (b 39), .int 0, .int 0, .int 0, .int 0, .int 0, .int 0, .long 0, .long 0, .long 0])), (m0, .inr (9, [.int 0, .int 0, .int 0, .int (-1), .ref (ma 4), .ref (ma 5), .ref (ma 6), .ref (ma 7), .ref (ma 8), .ref (ma 9), .ref (ma 10), .ref (ma 11), .ref (ma 12), .ref (ma 13), .ref (ma 14), .ref (ma 15), .ref (ma 16), .ref (ma 17), .ref (ma 18), .ref (ma 19), .int 0, .ref (ma 21), .ref (ma 22), .ref (ma 23), .ref (ma 24), .ref (ma 25), .ref (ma 26), .ref (ma 27), .ref (ma 28), .ref (ma 29), .ref (ma 30), .ref (ma 31), .ref (ma 32), .ref (ma 33), .ref (ma 34), .ref (ma 35), .ref (ma 36), .ref (ma 37), .int 0, .ref (ma 39), .ref (ma 40), .ref (ma 41), .ref (ma 42), .ref (ma 43), .ref (ma 44), .ref (ma 45), .ref (ma 46), .ref (ma 47), .ref (ma 48), .int 0, .int 0, .int 0, .int 0, .int 0, .int 0, .int 0, .long 0, .int 0, .long 0, .long 0, .long 0, .long 0, .int 0, .int 0, .int 0, .int 0, .long 0])), (ma 39, .inl (G.2 0, 6, .inl (fun _ => 0))), (ma 11, .inl (G.2 4, 96, .inr (.inl (fun _ => 0))))] H) (hD : va_D A [(q0, .inr (8, [.ref qb, .ref qk, .ref qg, .ref qr, .int 0, .int 0])), (qr, .inl (G.2 0, 6, .inl (fun _ => 0))), (qb, .inr (0, [.ref (b 0), .ref (b 1), .ref (b 2), .ref (b 3), .ref (b 4), .int 0])), (b 3, .inl (G.2 5, 8, .inr (.inr (.inr (.inr pf))))), (b 16, .inr (4, [.ref (b 24), .ref (b 32), .int 0, .int 0, .int 0, .int 0, .int 0, .int 0, .long 0, .long 0, .long 0])), (b 17, .inr (4, [.ref (b 25), .ref (b 33), .int 0, .int 0, .int 0, .int 0, .int 0, .int 0, .long 0, .long 0, .long 0])), (b 18, .inr (4, [.ref (b 26), .ref (b 34), .int 0, .int 0, .int 0, .int 0, .int 0, .int 0, .long 0, .long 0, .long 0])), (b 19, .inr (4, [.ref (b 27), .ref (b 35), .int 0, .int 0, .int 0, .int 0, .int 0, .int 0, .long 0, .long 0, .long 0])), (b 20, .inr (4, [.ref (b 28), .ref (b 36), .int 0, .int 0, .int 0, .int 0, .int 0, .int 0, .long 0, .long 0, .long 0])), (b 21, .inr (4, [.ref (b 29), .ref (b 37), .int 0, .int 0, .int 0, .int 0, .int 0, .int 0, .long 0, .long 0, .long 0])), (b 22, .inr (4, [.ref (b 30), .ref (b 38), .int 0, .int 0, .int 0, .int 0, .int 0, .int 0, .long 0, .long 0, .long 0])), (b 23, .inr (4, [.ref (b 31), .ref (b 39), .int 0, .int 0, .int 0, .int 0, .int 0, .int 0, .long 0, .long 0, .long 0])), (m0, .inr (9, [.int 0, .int 0, .int 0, .int (-1), .ref (ma 4), .ref (ma 5), .ref (ma 6), .ref (ma 7), .ref (ma 8), .ref (ma 9), .ref (ma 10), .ref (ma 11), .ref (ma 12), .ref (ma 13), .ref (ma 14), .ref (ma 15), .ref (ma 16), .ref (ma 17), .ref (ma 18), .ref (ma 19), .int 0, .ref (ma 21), .ref (ma 22), .ref (ma 23), .ref (ma 24), .ref (ma 25), .ref (ma 26), .ref (ma 27), .ref (ma 28), .ref (ma 29), .ref (ma 30), .ref (ma 31), .ref (ma 32), .ref (ma 33), .ref (ma 34), .ref (ma 35), .ref (ma 36), .ref (ma 37), .int 0, .ref (ma 39), .ref (ma 40), .ref (ma 41), .ref (ma 42), .ref (ma 43), .ref (ma 44), .ref (ma 45), .ref (ma 46), .ref (ma 47), .ref (ma 48), .int 0, .int 0, .int 0, .int 0, .int 0, .int 0, .int 0, .long 0, .int 0, .long 0, .long 0, .long 0, .long 0, .int 0, .int 0, .int 0, .int 0, .long 0])), (ma 39, .inl (G.2 0, 6, .inl (fun _ => 0))), (ma 11, .inl (G.2 4, 96, .inr (.inl (fun _ => 0))))]) (hS : va_S A s.heap H locs) (hl : lv_has ls 4 [(3, .int 0), (2, .ref m0), (1, .ref q0), (0, .ref sc)]) : W p l e room_1 s m #[Value.ref sc] below meth c H locs 169 136076 (lw_Z below #[Value.ref sc] s) (F0 m 1192 ls []) := by
  obtain ⟨hx, hb, hml, hown, htl⟩ := id C0
  refine lv_aload_n hx hb dL_law_1192 rfl (lv_at hl 2 rfl) ?_
  refine lv_aload_n hx hb dL_law_1193 rfl (lv_at hl 3 rfl) ?_
  refine lv_iload_n hx hb dL_law_1194 rfl (lv_at hl 0 rfl) ?_
  refine lv_iconst (v := 1) hx hb dL_law_1195 (by decide) ?_
  refine lv_iadd hx hb dL_law_1196 ?_
  refine lv_topi (fun z_1 ez_1 => ?_)
  obtain rfl : z_1 = 1 := ez_1.trans (by first | rfl | decide +kernel)
  refine va_sld hx hb hX hbl hbA hS (by unfold vp_in; decide +kernel) dL_law_1197 ?_
  refine lv_topi (fun z_2 ez_2 => ?_)
  refine lv_aload_n hx hb dL_law_1198 rfl (lv_at hl 3 rfl) ?_
  refine lv_iload_n hx hb dL_law_1199 rfl (lv_at hl 0 rfl) ?_
  refine lv_iconst (v := 2) hx hb dL_law_1200 (by decide) ?_
  refine lv_iadd hx hb dL_law_1201 ?_
  refine lv_topi (fun z_3 ez_3 => ?_)
  obtain rfl : z_3 = 2 := ez_3.trans (by first | rfl | decide +kernel)
  refine va_sld hx hb hX hbl hbA hS (by unfold vp_in; decide +kernel) dL_law_1202 ?_
  refine lv_topi (fun z_4 ez_4 => ?_)
  refine xVwl (rq := 0) (ci := 8) (wc := [(q0, .inr (8, [.ref qb, .ref qk, .ref qg, .ref qr, .int 0, .int 0])), (qr, .inl (G.2 0, 6, .inl (fun _ => 0))), (qb, .inr (0, [.ref (b 0), .ref (b 1), .ref (b 2), .ref (b 3), .ref (b 4), .int 0])), (b 3, .inl (G.2 5, 8, .inr (.inr (.inr (.inr pf))))), (b 16, .inr (4, [.ref (b 24), .ref (b 32), .int 0, .int 0, .int 0, .int 0, .int 0, .int 0, .long 0, .long 0, .long 0])), (b 17, .inr (4, [.ref (b 25), .ref (b 33), .int 0, .int 0, .int 0, .int 0, .int 0, .int 0, .long 0, .long 0, .long 0])), (b 18, .inr (4, [.ref (b 26), .ref (b 34), .int 0, .int 0, .int 0, .int 0, .int 0, .int 0, .long 0, .long 0, .long 0])), (b 19, .inr (4, [.ref (b 27), .ref (b 35), .int 0, .int 0, .int 0, .int 0, .int 0, .int 0, .long 0, .long 0, .long 0])), (b 20, .inr (4, [.ref (b 28), .ref (b 36), .int 0, .int 0, .int 0, .int 0, .int 0, .int 0, .long 0, .long 0, .long 0])), (b 21, .inr (4, [.ref (b 29), .ref (b 37), .int 0, .int 0, .int 0, .int 0, .int 0, .int 0, .long 0, .long 0, .long 0])), (b 22, .inr (4, [.ref (b 30), .ref (b 38), .int 0, .int 0, .int 0, .int 0, .int 0, .int 0, .long 0, .long 0, .long 0])), (b 23, .inr (4, [.ref (b 31), .ref (b 39), .int 0, .int 0, .int 0, .int 0, .int 0, .int 0, .long 0, .long 0, .long 0]))]) (wr := [(m0, .inr (9, [.int 0, .int 0, .int 0, .int (-1), .ref (ma 4), .ref (ma 5), .ref (ma 6), .ref (ma 7), .ref (ma 8), .ref (ma 9), .ref (ma 10), .ref (ma 11), .ref (ma 12), .ref (ma 13), .ref (ma 14), .ref (ma 15), .ref (ma 16), .ref (ma 17), .ref (ma 18), .ref (ma 19), .int 0, .ref (ma 21), .ref (ma 22), .ref (ma 23), .ref (ma 24), .ref (ma 25), .ref (ma 26), .ref (ma 27), .ref (ma 28), .ref (ma 29), .ref (ma 30), .ref (ma 31), .ref (ma 32), .ref (ma 33), .ref (ma 34), .ref (ma 35), .ref (ma 36), .ref (ma 37), .int 0, .ref (ma 39), .ref (ma 40), .ref (ma 41), .ref (ma 42), .ref (ma 43), .ref (ma 44), .ref (ma 45), .ref (ma 46), .ref (ma 47), .ref (ma 48), .int 0, .int 0, .int 0, .int 0, .int 0, .int 0, .int 0, .long 0, .int 0, .long 0, .long 0, .long 0, .long 0, .int 0, .int 0, .int 0, .int 0, .long 0])), (ma 39, .inl (G.2 0, 6, .inl (fun _ => 0))), (ma 11, .inl (G.2 4, 96, .inr (.inl (fun _ => 0))))]) (As := [.int z_2, .int z_4]) (rest := []) C0 (c_X8_weight l G q0 qb qk qg qr b pf z_2 z_4 hpf) ok_X8_weight (mW665 : Cond.methodLink RL 115 yX8_weight ∈ wsT) ⟨Nat.le_of_ble_eq_true rfl, Nat.le_of_ble_eq_true rfl⟩ hP hD hS hA hK hN [0, 1, 2, 3, 4, 5, 6, 7, 8, 9, 10, 11] [12, 13, 14] rfl rfl (by decide) (by decide) (by decide) rfl rfl rfl rfl hl.1 rfl (Nat.le_of_ble_eq_true rfl) ⟨Nat.le_of_ble_eq_true rfl, Nat.le_of_ble_eq_true rfl⟩ dL_law_1203 (fun r_5 u_6 H locs hr_5 hP hD hS => ?_)
  have hP : va_P G.1 xcl [(m0, .inr (9, [.int 0, .int 0, .int 0, .int (-1), .ref (ma 4), .ref (ma 5), .ref (ma 6), .ref (ma 7), .ref (ma 8), .ref (ma 9), .ref (ma 10), .ref (ma 11), .ref (ma 12), .ref (ma 13), .ref (ma 14), .ref (ma 15), .ref (ma 16), .ref (ma 17), .ref (ma 18), .ref (ma 19), .int 0, .ref (ma 21), .ref (ma 22), .ref (ma 23), .ref (ma 24), .ref (ma 25), .ref (ma 26), .ref (ma 27), .ref (ma 28), .ref (ma 29), .ref (ma 30), .ref (ma 31), .ref (ma 32), .ref (ma 33), .ref (ma 34), .ref (ma 35), .ref (ma 36), .ref (ma 37), .int 0, .ref (ma 39), .ref (ma 40), .ref (ma 41), .ref (ma 42), .ref (ma 43), .ref (ma 44), .ref (ma 45), .ref (ma 46), .ref (ma 47), .ref (ma 48), .int 0, .int 0, .int 0, .int 0, .int 0, .int 0, .int 0, .long 0, .int 0, .long 0, .long 0, .long 0, .long 0, .int 0, .int 0, .int 0, .int 0, .long 0])), (ma 39, .inl (G.2 0, 6, .inl (fun _ => 0))), (ma 11, .inl (G.2 4, 96, .inr (.inl (fun _ => 0))))] H := hP
  have hD : va_D A [(m0, .inr (9, [.int 0, .int 0, .int 0, .int (-1), .ref (ma 4), .ref (ma 5), .ref (ma 6), .ref (ma 7), .ref (ma 8), .ref (ma 9), .ref (ma 10), .ref (ma 11), .ref (ma 12), .ref (ma 13), .ref (ma 14), .ref (ma 15), .ref (ma 16), .ref (ma 17), .ref (ma 18), .ref (ma 19), .int 0, .ref (ma 21), .ref (ma 22), .ref (ma 23), .ref (ma 24), .ref (ma 25), .ref (ma 26), .ref (ma 27), .ref (ma 28), .ref (ma 29), .ref (ma 30), .ref (ma 31), .ref (ma 32), .ref (ma 33), .ref (ma 34), .ref (ma 35), .ref (ma 36), .ref (ma 37), .int 0, .ref (ma 39), .ref (ma 40), .ref (ma 41), .ref (ma 42), .ref (ma 43), .ref (ma 44), .ref (ma 45), .ref (ma 46), .ref (ma 47), .ref (ma 48), .int 0, .int 0, .int 0, .int 0, .int 0, .int 0, .int 0, .long 0, .int 0, .long 0, .long 0, .long 0, .long 0, .int 0, .int 0, .int 0, .int 0, .long 0])), (ma 39, .inl (G.2 0, 6, .inl (fun _ => 0))), (ma 11, .inl (G.2 4, 96, .inr (.inl (fun _ => 0))))] := hD
  obtain rfl : r_5 = (-1) := hr_5
  refine lv_aload_n hx hb dL_law_1206 rfl (lv_at hl 1 rfl) ?_
  refine lv_aload_n hx hb dL_law_1207 rfl (lv_at hl 3 rfl) ?_
  refine lv_iload_n hx hb dL_law_1208 rfl (lv_at hl 0 rfl) ?_
  refine lv_iconst (v := 1) hx hb dL_law_1209 (by decide) ?_
  refine lv_iadd hx hb dL_law_1210 ?_
  refine lv_topi (fun z_7 ez_7 => ?_)
  obtain rfl : z_7 = 1 := ez_7.trans (by first | rfl | decide +kernel)
  refine va_sld hx hb hX hbl hbA hS (by unfold vp_in; decide +kernel) dL_law_1211 ?_
  rw [← ez_2]
  refine lv_aload_n hx hb dL_law_1212 rfl (lv_at hl 3 rfl) ?_
  refine lv_iload_n hx hb dL_law_1213 rfl (lv_at hl 0 rfl) ?_
  refine lv_iconst (v := 2) hx hb dL_law_1214 (by decide) ?_
  refine lv_iadd hx hb dL_law_1215 ?_
  refine lv_topi (fun z_8 ez_8 => ?_)
  obtain rfl : z_8 = 2 := ez_8.trans (by first | rfl | decide +kernel)
  refine va_sld hx hb hX hbl hbA hS (by unfold vp_in; decide +kernel) dL_law_1216 ?_
  rw [← ez_4]
  refine xVwl (rq := 0) (ci := 9) (wc := [(m0, .inr (9, [.int 0, .int 0, .int 0, .int (-1), .ref (ma 4), .ref (ma 5), .ref (ma 6), .ref (ma 7), .ref (ma 8), .ref (ma 9), .ref (ma 10), .ref (ma 11), .ref (ma 12), .ref (ma 13), .ref (ma 14), .ref (ma 15), .ref (ma 16), .ref (ma 17), .ref (ma 18), .ref (ma 19), .int 0, .ref (ma 21), .ref (ma 22), .ref (ma 23), .ref (ma 24), .ref (ma 25), .ref (ma 26), .ref (ma 27), .ref (ma 28), .ref (ma 29), .ref (ma 30), .ref (ma 31), .ref (ma 32), .ref (ma 33), .ref (ma 34), .ref (ma 35), .ref (ma 36), .ref (ma 37), .int 0, .ref (ma 39), .ref (ma 40), .ref (ma 41), .ref (ma 42), .ref (ma 43), .ref (ma 44), .ref (ma 45), .ref (ma 46), .ref (ma 47), .ref (ma 48), .int 0, .int 0, .int 0, .int 0, .int 0, .int 0, .int 0, .long 0, .int 0, .long 0, .long 0, .long 0, .long 0, .int 0, .int 0, .int 0, .int 0, .long 0])), (ma 39, .inl (G.2 0, 6, .inl (fun _ => 0))), (ma 11, .inl (G.2 4, 96, .inr (.inl (fun _ => 0))))]) (wr := []) (As := [.int z_2, .int z_4]) (rest := [.long (-1)]) C0 (c_X9_weight l G m0 ma z_2 z_4) ok_X9_weight (mW671 : Cond.methodLink RL 119 yX9_weight ∈ wsT) ⟨Nat.le_of_ble_eq_true rfl, Nat.le_of_ble_eq_true rfl⟩ hP hD hS hA hK hN [0, 1, 2] [] rfl rfl (by decide) (by decide) (by decide) rfl rfl rfl rfl hl.1 rfl (Nat.le_of_ble_eq_true rfl) ⟨Nat.le_of_ble_eq_true rfl, Nat.le_of_ble_eq_true rfl⟩ dL_law_1217 (fun r_9 u_10 H locs hr_9 hP hD hS => ?_)
  have hP : va_P G.1 xcl [] H := hP
  have hD : va_D A [] := hD
  obtain rfl : r_9 = (-1) := hr_9
  refine W.lcmp hx hb dL_law_1220 ?_
  refine lv_topi (fun z_11 ez_11 => ?_)
  obtain rfl : z_11 = 0 := ez_11.trans (by first | rfl | decide +kernel)
  refine lv_if_eq (tgt := 1789) hx hb dL_law_1221 (by decide) (fun c_12 => ?_) (fun c_12 => absurd c_12 (by decide +kernel))
  exact law_tail C0 hr hlocks hX hbl hbA hA2 hS ls (lv_sub hl [0, 3] rfl)
theorem dL_law_1226 : decode cL_law 1226 = .ok (.aload_n 1, 1) := by decide +kernel
theorem dL_law_1227 : decode cL_law 1227 = .ok (.aload_n 0, 1) := by decide +kernel
theorem dL_law_1228 : decode cL_law 1228 = .ok (.iload_n 3, 1) := by decide +kernel
theorem dL_law_1229 : decode cL_law 1229 = .ok (.iconst 1, 1) := by decide +kernel
theorem dL_law_1230 : decode cL_law 1230 = .ok (.iadd, 1) := by decide +kernel
theorem dL_law_1231 : decode cL_law 1231 = .ok (.iaload, 1) := by decide +kernel
theorem dL_law_1232 : decode cL_law 1232 = .ok (.aload_n 0, 1) := by decide +kernel
theorem dL_law_1233 : decode cL_law 1233 = .ok (.iload_n 3, 1) := by decide +kernel
theorem dL_law_1234 : decode cL_law 1234 = .ok (.iconst 2, 1) := by decide +kernel
theorem dL_law_1235 : decode cL_law 1235 = .ok (.iadd, 1) := by decide +kernel
theorem dL_law_1236 : decode cL_law 1236 = .ok (.iaload, 1) := by decide +kernel
theorem dL_law_1237 : decode cL_law 1237 = .ok (.invokevirtual 120, 3) := by decide +kernel
theorem dL_law_1240 : decode cL_law 1240 = .ok (.aload_n 2, 1) := by decide +kernel
theorem dL_law_1241 : decode cL_law 1241 = .ok (.aload_n 0, 1) := by decide +kernel
theorem dL_law_1242 : decode cL_law 1242 = .ok (.iload_n 3, 1) := by decide +kernel
theorem dL_law_1243 : decode cL_law 1243 = .ok (.iconst 1, 1) := by decide +kernel
theorem dL_law_1244 : decode cL_law 1244 = .ok (.iadd, 1) := by decide +kernel
theorem dL_law_1245 : decode cL_law 1245 = .ok (.iaload, 1) := by decide +kernel
theorem dL_law_1246 : decode cL_law 1246 = .ok (.aload_n 0, 1) := by decide +kernel
theorem dL_law_1247 : decode cL_law 1247 = .ok (.iload_n 3, 1) := by decide +kernel
theorem dL_law_1248 : decode cL_law 1248 = .ok (.iconst 2, 1) := by decide +kernel
theorem dL_law_1249 : decode cL_law 1249 = .ok (.iadd, 1) := by decide +kernel
theorem dL_law_1250 : decode cL_law 1250 = .ok (.iaload, 1) := by decide +kernel
theorem dL_law_1251 : decode cL_law 1251 = .ok (.invokevirtual 123, 3) := by decide +kernel
theorem dL_law_1254 : decode cL_law 1254 = .ok (.if_icmp .eq 535, 3) := by decide +kernel
set_option maxHeartbeats 4000000 in
set_option maxRecDepth 100000 in
/-- case 23: state -/
theorem law_23 {q0 : Nat} {qb : Nat} {qk : Nat} {qg : Nat} {qr : Nat} {b : Nat → Nat} {pf : Nat → Option Nat} {kf : Nat → Int32} {b2 : Nat → Nat} {pf2 : Nat → Option Nat} {kf2 : Nat → Int32} {m0 : Nat} {ma : Nat → Nat} {p : Program} {l : Launch} {e : Env} {s : State} {m : MethodId} {below : List Frame} {meth : Method} {c : Code} {G : xG} {sc : Nat} {xs : Nat → Int32} {A : Nat → Prop} (C0 : CallFix p m c code 4 s #[Value.ref sc] wsT RL) (hr : meth.sig.returnType = ret) (hlocks : meth.locks = false) (hK : va_K G.1 xcl (xty G) s) (hN : xN s) (hX : va_X sc 7 xs s s.heap) (hbl : sc < s.heap.size) (hbA : ¬ A sc) (hA : ∀ q : Nat, s.heap.size ≤ q → A q) (hA2 : ∀ q, A q → s.heap.size ≤ q) (hpf : ∀ k, k < 8 → pf k = some (b (16 + k))) (hpf2 : ∀ k, k < 8 → pf2 k = some (b2 (16 + k))) {H : Heap} {locs : List Loc} {ls : Array Slot} (hP : va_P G.1 xcl [(q0, .inr (8, [.ref qb, .ref qk, .ref qg, .ref qr, .int 0, .int 0])), (qr, .inl (G.2 0, 6, .inl (fun _ => 0))), (qb, .inr (0, [.ref (b 0), .ref (b 1), .ref (b 2), .ref (b 3), .ref (b 4), .int 0])), (b 3, .inl (G.2 5, 8, .inr (.inr (.inr (.inr pf))))), (b 16, .inr (4, [.ref (b 24), .ref (b 32), .int 0, .int 0, .int 0, .int 0, .int 0, .int 0, .long 0, .long 0, .long 0])), (b 17, .inr (4, [.ref (b 25), .ref (b 33), .int 0, .int 0, .int 0, .int 0, .int 0, .int 0, .long 0, .long 0, .long 0])), (b 18, .inr (4, [.ref (b 26), .ref (b 34), .int 0, .int 0, .int 0, .int 0, .int 0, .int 0, .long 0, .long 0, .long 0])), (b 19, .inr (4, [.ref (b 27), .ref (b 35), .int 0, .int 0, .int 0, .int 0, .int 0, .int 0, .long 0, .long 0, .long 0])), (b 20, .inr (4, [.ref (b 28), .ref (b 36), .int 0, .int 0, .int 0, .int 0, .int 0, .int 0, .long 0, .long 0, .long 0])), (b 21, .inr (4, [.ref (b 29), .ref (b 37), .int 0, .int 0, .int 0, .int 0, .int 0, .int 0, .long 0, .long 0, .long 0])), (b 22, .inr (4, [.ref (b 30), .ref (b 38), .int 0, .int 0, .int 0, .int 0, .int 0, .int 0, .long 0, .long 0, .long 0])), (b 23, .inr (4, [.ref (b 31), .ref (b 39), .int 0, .int 0, .int 0, .int 0, .int 0, .int 0, .long 0, .long 0, .long 0])), (m0, .inr (9, [.int 0, .int 0, .int 0, .int (-1), .ref (ma 4), .ref (ma 5), .ref (ma 6), .ref (ma 7), .ref (ma 8), .ref (ma 9), .ref (ma 10), .ref (ma 11), .ref (ma 12), .ref (ma 13), .ref (ma 14), .ref (ma 15), .ref (ma 16), .ref (ma 17), .ref (ma 18), .ref (ma 19), .int 0, .ref (ma 21), .ref (ma 22), .ref (ma 23), .ref (ma 24), .ref (ma 25), .ref (ma 26), .ref (ma 27), .ref (ma 28), .ref (ma 29), .ref (ma 30), .ref (ma 31), .ref (ma 32), .ref (ma 33), .ref (ma 34), .ref (ma 35), .ref (ma 36), .ref (ma 37), .int 0, .ref (ma 39), .ref (ma 40), .ref (ma 41), .ref (ma 42), .ref (ma 43), .ref (ma 44), .ref (ma 45), .ref (ma 46), .ref (ma 47), .ref (ma 48), .int 0, .int 0, .int 0, .int 0, .int 0, .int 0, .int 0, .long 0, .int 0, .long 0, .long 0, .long 0, .long 0, .int 0, .int 0, .int 0, .int 0, .long 0])), (ma 39, .inl (G.2 0, 6, .inl (fun _ => 0))), (ma 11, .inl (G.2 4, 96, .inr (.inl (fun _ => 0))))] H) (hD : va_D A [(q0, .inr (8, [.ref qb, .ref qk, .ref qg, .ref qr, .int 0, .int 0])), (qr, .inl (G.2 0, 6, .inl (fun _ => 0))), (qb, .inr (0, [.ref (b 0), .ref (b 1), .ref (b 2), .ref (b 3), .ref (b 4), .int 0])), (b 3, .inl (G.2 5, 8, .inr (.inr (.inr (.inr pf))))), (b 16, .inr (4, [.ref (b 24), .ref (b 32), .int 0, .int 0, .int 0, .int 0, .int 0, .int 0, .long 0, .long 0, .long 0])), (b 17, .inr (4, [.ref (b 25), .ref (b 33), .int 0, .int 0, .int 0, .int 0, .int 0, .int 0, .long 0, .long 0, .long 0])), (b 18, .inr (4, [.ref (b 26), .ref (b 34), .int 0, .int 0, .int 0, .int 0, .int 0, .int 0, .long 0, .long 0, .long 0])), (b 19, .inr (4, [.ref (b 27), .ref (b 35), .int 0, .int 0, .int 0, .int 0, .int 0, .int 0, .long 0, .long 0, .long 0])), (b 20, .inr (4, [.ref (b 28), .ref (b 36), .int 0, .int 0, .int 0, .int 0, .int 0, .int 0, .long 0, .long 0, .long 0])), (b 21, .inr (4, [.ref (b 29), .ref (b 37), .int 0, .int 0, .int 0, .int 0, .int 0, .int 0, .long 0, .long 0, .long 0])), (b 22, .inr (4, [.ref (b 30), .ref (b 38), .int 0, .int 0, .int 0, .int 0, .int 0, .int 0, .long 0, .long 0, .long 0])), (b 23, .inr (4, [.ref (b 31), .ref (b 39), .int 0, .int 0, .int 0, .int 0, .int 0, .int 0, .long 0, .long 0, .long 0])), (m0, .inr (9, [.int 0, .int 0, .int 0, .int (-1), .ref (ma 4), .ref (ma 5), .ref (ma 6), .ref (ma 7), .ref (ma 8), .ref (ma 9), .ref (ma 10), .ref (ma 11), .ref (ma 12), .ref (ma 13), .ref (ma 14), .ref (ma 15), .ref (ma 16), .ref (ma 17), .ref (ma 18), .ref (ma 19), .int 0, .ref (ma 21), .ref (ma 22), .ref (ma 23), .ref (ma 24), .ref (ma 25), .ref (ma 26), .ref (ma 27), .ref (ma 28), .ref (ma 29), .ref (ma 30), .ref (ma 31), .ref (ma 32), .ref (ma 33), .ref (ma 34), .ref (ma 35), .ref (ma 36), .ref (ma 37), .int 0, .ref (ma 39), .ref (ma 40), .ref (ma 41), .ref (ma 42), .ref (ma 43), .ref (ma 44), .ref (ma 45), .ref (ma 46), .ref (ma 47), .ref (ma 48), .int 0, .int 0, .int 0, .int 0, .int 0, .int 0, .int 0, .long 0, .int 0, .long 0, .long 0, .long 0, .long 0, .int 0, .int 0, .int 0, .int 0, .long 0])), (ma 39, .inl (G.2 0, 6, .inl (fun _ => 0))), (ma 11, .inl (G.2 4, 96, .inr (.inl (fun _ => 0))))]) (hS : va_S A s.heap H locs) (hl : lv_has ls 4 [(3, .int 0), (2, .ref m0), (1, .ref q0), (0, .ref sc)]) : W p l e room_1 s m #[Value.ref sc] below meth c H locs 169 136076 (lw_Z below #[Value.ref sc] s) (F0 m 1226 ls []) := by
  obtain ⟨hx, hb, hml, hown, htl⟩ := id C0
  refine lv_aload_n hx hb dL_law_1226 rfl (lv_at hl 2 rfl) ?_
  refine lv_aload_n hx hb dL_law_1227 rfl (lv_at hl 3 rfl) ?_
  refine lv_iload_n hx hb dL_law_1228 rfl (lv_at hl 0 rfl) ?_
  refine lv_iconst (v := 1) hx hb dL_law_1229 (by decide) ?_
  refine lv_iadd hx hb dL_law_1230 ?_
  refine lv_topi (fun z_1 ez_1 => ?_)
  obtain rfl : z_1 = 1 := ez_1.trans (by first | rfl | decide +kernel)
  refine va_sld hx hb hX hbl hbA hS (by unfold vp_in; decide +kernel) dL_law_1231 ?_
  refine lv_topi (fun z_2 ez_2 => ?_)
  refine lv_aload_n hx hb dL_law_1232 rfl (lv_at hl 3 rfl) ?_
  refine lv_iload_n hx hb dL_law_1233 rfl (lv_at hl 0 rfl) ?_
  refine lv_iconst (v := 2) hx hb dL_law_1234 (by decide) ?_
  refine lv_iadd hx hb dL_law_1235 ?_
  refine lv_topi (fun z_3 ez_3 => ?_)
  obtain rfl : z_3 = 2 := ez_3.trans (by first | rfl | decide +kernel)
  refine va_sld hx hb hX hbl hbA hS (by unfold vp_in; decide +kernel) dL_law_1236 ?_
  refine lv_topi (fun z_4 ez_4 => ?_)
  refine xVwi (rq := 0) (ci := 8) (wc := [(q0, .inr (8, [.ref qb, .ref qk, .ref qg, .ref qr, .int 0, .int 0])), (qr, .inl (G.2 0, 6, .inl (fun _ => 0))), (qb, .inr (0, [.ref (b 0), .ref (b 1), .ref (b 2), .ref (b 3), .ref (b 4), .int 0])), (b 3, .inl (G.2 5, 8, .inr (.inr (.inr (.inr pf))))), (b 16, .inr (4, [.ref (b 24), .ref (b 32), .int 0, .int 0, .int 0, .int 0, .int 0, .int 0, .long 0, .long 0, .long 0])), (b 17, .inr (4, [.ref (b 25), .ref (b 33), .int 0, .int 0, .int 0, .int 0, .int 0, .int 0, .long 0, .long 0, .long 0])), (b 18, .inr (4, [.ref (b 26), .ref (b 34), .int 0, .int 0, .int 0, .int 0, .int 0, .int 0, .long 0, .long 0, .long 0])), (b 19, .inr (4, [.ref (b 27), .ref (b 35), .int 0, .int 0, .int 0, .int 0, .int 0, .int 0, .long 0, .long 0, .long 0])), (b 20, .inr (4, [.ref (b 28), .ref (b 36), .int 0, .int 0, .int 0, .int 0, .int 0, .int 0, .long 0, .long 0, .long 0])), (b 21, .inr (4, [.ref (b 29), .ref (b 37), .int 0, .int 0, .int 0, .int 0, .int 0, .int 0, .long 0, .long 0, .long 0])), (b 22, .inr (4, [.ref (b 30), .ref (b 38), .int 0, .int 0, .int 0, .int 0, .int 0, .int 0, .long 0, .long 0, .long 0])), (b 23, .inr (4, [.ref (b 31), .ref (b 39), .int 0, .int 0, .int 0, .int 0, .int 0, .int 0, .long 0, .long 0, .long 0]))]) (wr := [(m0, .inr (9, [.int 0, .int 0, .int 0, .int (-1), .ref (ma 4), .ref (ma 5), .ref (ma 6), .ref (ma 7), .ref (ma 8), .ref (ma 9), .ref (ma 10), .ref (ma 11), .ref (ma 12), .ref (ma 13), .ref (ma 14), .ref (ma 15), .ref (ma 16), .ref (ma 17), .ref (ma 18), .ref (ma 19), .int 0, .ref (ma 21), .ref (ma 22), .ref (ma 23), .ref (ma 24), .ref (ma 25), .ref (ma 26), .ref (ma 27), .ref (ma 28), .ref (ma 29), .ref (ma 30), .ref (ma 31), .ref (ma 32), .ref (ma 33), .ref (ma 34), .ref (ma 35), .ref (ma 36), .ref (ma 37), .int 0, .ref (ma 39), .ref (ma 40), .ref (ma 41), .ref (ma 42), .ref (ma 43), .ref (ma 44), .ref (ma 45), .ref (ma 46), .ref (ma 47), .ref (ma 48), .int 0, .int 0, .int 0, .int 0, .int 0, .int 0, .int 0, .long 0, .int 0, .long 0, .long 0, .long 0, .long 0, .int 0, .int 0, .int 0, .int 0, .long 0])), (ma 39, .inl (G.2 0, 6, .inl (fun _ => 0))), (ma 11, .inl (G.2 4, 96, .inr (.inl (fun _ => 0))))]) (As := [.int z_2, .int z_4]) (rest := []) C0 (c_X8_state l G q0 qb qk qg qr b pf z_2 z_4 hpf) ok_X8_state (mW676 : Cond.methodLink RL 120 yX8_state ∈ wsT) ⟨Nat.le_of_ble_eq_true rfl, Nat.le_of_ble_eq_true rfl⟩ hP hD hS hA hK hN [0, 1, 2, 3, 4, 5, 6, 7, 8, 9, 10, 11] [12, 13, 14] rfl rfl (by decide) (by decide) (by decide) rfl rfl rfl rfl hl.1 rfl (Nat.le_of_ble_eq_true rfl) ⟨Nat.le_of_ble_eq_true rfl, Nat.le_of_ble_eq_true rfl⟩ dL_law_1237 (fun r_5 u_6 H locs hr_5 hP hD hS => ?_)
  have hP : va_P G.1 xcl [(m0, .inr (9, [.int 0, .int 0, .int 0, .int (-1), .ref (ma 4), .ref (ma 5), .ref (ma 6), .ref (ma 7), .ref (ma 8), .ref (ma 9), .ref (ma 10), .ref (ma 11), .ref (ma 12), .ref (ma 13), .ref (ma 14), .ref (ma 15), .ref (ma 16), .ref (ma 17), .ref (ma 18), .ref (ma 19), .int 0, .ref (ma 21), .ref (ma 22), .ref (ma 23), .ref (ma 24), .ref (ma 25), .ref (ma 26), .ref (ma 27), .ref (ma 28), .ref (ma 29), .ref (ma 30), .ref (ma 31), .ref (ma 32), .ref (ma 33), .ref (ma 34), .ref (ma 35), .ref (ma 36), .ref (ma 37), .int 0, .ref (ma 39), .ref (ma 40), .ref (ma 41), .ref (ma 42), .ref (ma 43), .ref (ma 44), .ref (ma 45), .ref (ma 46), .ref (ma 47), .ref (ma 48), .int 0, .int 0, .int 0, .int 0, .int 0, .int 0, .int 0, .long 0, .int 0, .long 0, .long 0, .long 0, .long 0, .int 0, .int 0, .int 0, .int 0, .long 0])), (ma 39, .inl (G.2 0, 6, .inl (fun _ => 0))), (ma 11, .inl (G.2 4, 96, .inr (.inl (fun _ => 0))))] H := hP
  have hD : va_D A [(m0, .inr (9, [.int 0, .int 0, .int 0, .int (-1), .ref (ma 4), .ref (ma 5), .ref (ma 6), .ref (ma 7), .ref (ma 8), .ref (ma 9), .ref (ma 10), .ref (ma 11), .ref (ma 12), .ref (ma 13), .ref (ma 14), .ref (ma 15), .ref (ma 16), .ref (ma 17), .ref (ma 18), .ref (ma 19), .int 0, .ref (ma 21), .ref (ma 22), .ref (ma 23), .ref (ma 24), .ref (ma 25), .ref (ma 26), .ref (ma 27), .ref (ma 28), .ref (ma 29), .ref (ma 30), .ref (ma 31), .ref (ma 32), .ref (ma 33), .ref (ma 34), .ref (ma 35), .ref (ma 36), .ref (ma 37), .int 0, .ref (ma 39), .ref (ma 40), .ref (ma 41), .ref (ma 42), .ref (ma 43), .ref (ma 44), .ref (ma 45), .ref (ma 46), .ref (ma 47), .ref (ma 48), .int 0, .int 0, .int 0, .int 0, .int 0, .int 0, .int 0, .long 0, .int 0, .long 0, .long 0, .long 0, .long 0, .int 0, .int 0, .int 0, .int 0, .long 0])), (ma 39, .inl (G.2 0, 6, .inl (fun _ => 0))), (ma 11, .inl (G.2 4, 96, .inr (.inl (fun _ => 0))))] := hD
  obtain rfl : r_5 = (-1) := hr_5
  refine lv_aload_n hx hb dL_law_1240 rfl (lv_at hl 1 rfl) ?_
  refine lv_aload_n hx hb dL_law_1241 rfl (lv_at hl 3 rfl) ?_
  refine lv_iload_n hx hb dL_law_1242 rfl (lv_at hl 0 rfl) ?_
  refine lv_iconst (v := 1) hx hb dL_law_1243 (by decide) ?_
  refine lv_iadd hx hb dL_law_1244 ?_
  refine lv_topi (fun z_7 ez_7 => ?_)
  obtain rfl : z_7 = 1 := ez_7.trans (by first | rfl | decide +kernel)
  refine va_sld hx hb hX hbl hbA hS (by unfold vp_in; decide +kernel) dL_law_1245 ?_
  rw [← ez_2]
  refine lv_aload_n hx hb dL_law_1246 rfl (lv_at hl 3 rfl) ?_
  refine lv_iload_n hx hb dL_law_1247 rfl (lv_at hl 0 rfl) ?_
  refine lv_iconst (v := 2) hx hb dL_law_1248 (by decide) ?_
  refine lv_iadd hx hb dL_law_1249 ?_
  refine lv_topi (fun z_8 ez_8 => ?_)
  obtain rfl : z_8 = 2 := ez_8.trans (by first | rfl | decide +kernel)
  refine va_sld hx hb hX hbl hbA hS (by unfold vp_in; decide +kernel) dL_law_1250 ?_
  rw [← ez_4]
  refine xVwi (rq := 0) (ci := 9) (wc := [(m0, .inr (9, [.int 0, .int 0, .int 0, .int (-1), .ref (ma 4), .ref (ma 5), .ref (ma 6), .ref (ma 7), .ref (ma 8), .ref (ma 9), .ref (ma 10), .ref (ma 11), .ref (ma 12), .ref (ma 13), .ref (ma 14), .ref (ma 15), .ref (ma 16), .ref (ma 17), .ref (ma 18), .ref (ma 19), .int 0, .ref (ma 21), .ref (ma 22), .ref (ma 23), .ref (ma 24), .ref (ma 25), .ref (ma 26), .ref (ma 27), .ref (ma 28), .ref (ma 29), .ref (ma 30), .ref (ma 31), .ref (ma 32), .ref (ma 33), .ref (ma 34), .ref (ma 35), .ref (ma 36), .ref (ma 37), .int 0, .ref (ma 39), .ref (ma 40), .ref (ma 41), .ref (ma 42), .ref (ma 43), .ref (ma 44), .ref (ma 45), .ref (ma 46), .ref (ma 47), .ref (ma 48), .int 0, .int 0, .int 0, .int 0, .int 0, .int 0, .int 0, .long 0, .int 0, .long 0, .long 0, .long 0, .long 0, .int 0, .int 0, .int 0, .int 0, .long 0])), (ma 39, .inl (G.2 0, 6, .inl (fun _ => 0))), (ma 11, .inl (G.2 4, 96, .inr (.inl (fun _ => 0))))]) (wr := []) (As := [.int z_2, .int z_4]) (rest := [.int (-1)]) C0 (c_X9_state l G m0 ma z_2 z_4) ok_X9_state (mW684 : Cond.methodLink RL 123 yX9_state ∈ wsT) ⟨Nat.le_of_ble_eq_true rfl, Nat.le_of_ble_eq_true rfl⟩ hP hD hS hA hK hN [0, 1, 2] [] rfl rfl (by decide) (by decide) (by decide) rfl rfl rfl rfl hl.1 rfl (Nat.le_of_ble_eq_true rfl) ⟨Nat.le_of_ble_eq_true rfl, Nat.le_of_ble_eq_true rfl⟩ dL_law_1251 (fun r_9 u_10 H locs hr_9 hP hD hS => ?_)
  have hP : va_P G.1 xcl [] H := hP
  have hD : va_D A [] := hD
  obtain rfl : r_9 = (-1) := hr_9
  refine lv_icmp_eq (tgt := 1789) hx hb dL_law_1254 (by decide) (fun c_11 => ?_) (fun c_11 => absurd c_11 (by decide +kernel))
  exact law_tail C0 hr hlocks hX hbl hbA hA2 hS ls (lv_sub hl [0, 3] rfl)
theorem dL_law_1259 : decode cL_law 1259 = .ok (.aload_n 1, 1) := by decide +kernel
theorem dL_law_1260 : decode cL_law 1260 = .ok (.aload_n 0, 1) := by decide +kernel
theorem dL_law_1261 : decode cL_law 1261 = .ok (.iload_n 3, 1) := by decide +kernel
theorem dL_law_1262 : decode cL_law 1262 = .ok (.iconst 1, 1) := by decide +kernel
theorem dL_law_1263 : decode cL_law 1263 = .ok (.iadd, 1) := by decide +kernel
theorem dL_law_1264 : decode cL_law 1264 = .ok (.iaload, 1) := by decide +kernel
theorem dL_law_1265 : decode cL_law 1265 = .ok (.aload_n 0, 1) := by decide +kernel
theorem dL_law_1266 : decode cL_law 1266 = .ok (.iload_n 3, 1) := by decide +kernel
theorem dL_law_1267 : decode cL_law 1267 = .ok (.iconst 2, 1) := by decide +kernel
theorem dL_law_1268 : decode cL_law 1268 = .ok (.iadd, 1) := by decide +kernel
theorem dL_law_1269 : decode cL_law 1269 = .ok (.iaload, 1) := by decide +kernel
theorem dL_law_1270 : decode cL_law 1270 = .ok (.aload_n 0, 1) := by decide +kernel
theorem dL_law_1271 : decode cL_law 1271 = .ok (.iload_n 3, 1) := by decide +kernel
theorem dL_law_1272 : decode cL_law 1272 = .ok (.iconst 3, 1) := by decide +kernel
theorem dL_law_1273 : decode cL_law 1273 = .ok (.iadd, 1) := by decide +kernel
theorem dL_law_1274 : decode cL_law 1274 = .ok (.iaload, 1) := by decide +kernel
theorem dL_law_1275 : decode cL_law 1275 = .ok (.ifCond .eq 7, 3) := by decide +kernel
theorem dL_law_1278 : decode cL_law 1278 = .ok (.iconst 1, 1) := by decide +kernel
theorem dL_law_1279 : decode cL_law 1279 = .ok (.goto 4, 3) := by decide +kernel
theorem dL_law_1282 : decode cL_law 1282 = .ok (.iconst 0, 1) := by decide +kernel
theorem dL_law_1283 : decode cL_law 1283 = .ok (.invokevirtual 124, 3) := by decide +kernel
theorem dL_law_1286 : decode cL_law 1286 = .ok (.aload_n 2, 1) := by decide +kernel
theorem dL_law_1287 : decode cL_law 1287 = .ok (.aload_n 0, 1) := by decide +kernel
theorem dL_law_1288 : decode cL_law 1288 = .ok (.iload_n 3, 1) := by decide +kernel
theorem dL_law_1289 : decode cL_law 1289 = .ok (.iconst 1, 1) := by decide +kernel
theorem dL_law_1290 : decode cL_law 1290 = .ok (.iadd, 1) := by decide +kernel
theorem dL_law_1291 : decode cL_law 1291 = .ok (.iaload, 1) := by decide +kernel
theorem dL_law_1292 : decode cL_law 1292 = .ok (.aload_n 0, 1) := by decide +kernel
theorem dL_law_1293 : decode cL_law 1293 = .ok (.iload_n 3, 1) := by decide +kernel
theorem dL_law_1294 : decode cL_law 1294 = .ok (.iconst 2, 1) := by decide +kernel
theorem dL_law_1295 : decode cL_law 1295 = .ok (.iadd, 1) := by decide +kernel
theorem dL_law_1296 : decode cL_law 1296 = .ok (.iaload, 1) := by decide +kernel
theorem dL_law_1297 : decode cL_law 1297 = .ok (.aload_n 0, 1) := by decide +kernel
theorem dL_law_1298 : decode cL_law 1298 = .ok (.iload_n 3, 1) := by decide +kernel
theorem dL_law_1299 : decode cL_law 1299 = .ok (.iconst 3, 1) := by decide +kernel
theorem dL_law_1300 : decode cL_law 1300 = .ok (.iadd, 1) := by decide +kernel
theorem dL_law_1301 : decode cL_law 1301 = .ok (.iaload, 1) := by decide +kernel
theorem dL_law_1302 : decode cL_law 1302 = .ok (.ifCond .eq 7, 3) := by decide +kernel
theorem dL_law_1305 : decode cL_law 1305 = .ok (.iconst 1, 1) := by decide +kernel
theorem dL_law_1306 : decode cL_law 1306 = .ok (.goto 4, 3) := by decide +kernel
theorem dL_law_1309 : decode cL_law 1309 = .ok (.iconst 0, 1) := by decide +kernel
theorem dL_law_1310 : decode cL_law 1310 = .ok (.invokevirtual 128, 3) := by decide +kernel
theorem dL_law_1313 : decode cL_law 1313 = .ok (.if_icmp .eq 476, 3) := by decide +kernel
set_option maxHeartbeats 4000000 in
set_option maxRecDepth 100000 in
/-- case 24: minute -/
theorem law_24 {q0 : Nat} {qb : Nat} {qk : Nat} {qg : Nat} {qr : Nat} {b : Nat → Nat} {pf : Nat → Option Nat} {kf : Nat → Int32} {b2 : Nat → Nat} {pf2 : Nat → Option Nat} {kf2 : Nat → Int32} {m0 : Nat} {ma : Nat → Nat} {p : Program} {l : Launch} {e : Env} {s : State} {m : MethodId} {below : List Frame} {meth : Method} {c : Code} {G : xG} {sc : Nat} {xs : Nat → Int32} {A : Nat → Prop} (C0 : CallFix p m c code 4 s #[Value.ref sc] wsT RL) (hr : meth.sig.returnType = ret) (hlocks : meth.locks = false) (hK : va_K G.1 xcl (xty G) s) (hN : xN s) (hX : va_X sc 7 xs s s.heap) (hbl : sc < s.heap.size) (hbA : ¬ A sc) (hA : ∀ q : Nat, s.heap.size ≤ q → A q) (hA2 : ∀ q, A q → s.heap.size ≤ q) (hpf : ∀ k, k < 8 → pf k = some (b (16 + k))) (hpf2 : ∀ k, k < 8 → pf2 k = some (b2 (16 + k))) {H : Heap} {locs : List Loc} {ls : Array Slot} (hP : va_P G.1 xcl [(q0, .inr (8, [.ref qb, .ref qk, .ref qg, .ref qr, .int 0, .int 0])), (qr, .inl (G.2 0, 6, .inl (fun _ => 0))), (qb, .inr (0, [.ref (b 0), .ref (b 1), .ref (b 2), .ref (b 3), .ref (b 4), .int 0])), (b 3, .inl (G.2 5, 8, .inr (.inr (.inr (.inr pf))))), (b 16, .inr (4, [.ref (b 24), .ref (b 32), .int 0, .int 0, .int 0, .int 0, .int 0, .int 0, .long 0, .long 0, .long 0])), (b 17, .inr (4, [.ref (b 25), .ref (b 33), .int 0, .int 0, .int 0, .int 0, .int 0, .int 0, .long 0, .long 0, .long 0])), (b 18, .inr (4, [.ref (b 26), .ref (b 34), .int 0, .int 0, .int 0, .int 0, .int 0, .int 0, .long 0, .long 0, .long 0])), (b 19, .inr (4, [.ref (b 27), .ref (b 35), .int 0, .int 0, .int 0, .int 0, .int 0, .int 0, .long 0, .long 0, .long 0])), (b 20, .inr (4, [.ref (b 28), .ref (b 36), .int 0, .int 0, .int 0, .int 0, .int 0, .int 0, .long 0, .long 0, .long 0])), (b 21, .inr (4, [.ref (b 29), .ref (b 37), .int 0, .int 0, .int 0, .int 0, .int 0, .int 0, .long 0, .long 0, .long 0])), (b 22, .inr (4, [.ref (b 30), .ref (b 38), .int 0, .int 0, .int 0, .int 0, .int 0, .int 0, .long 0, .long 0, .long 0])), (b 23, .inr (4, [.ref (b 31), .ref (b 39), .int 0, .int 0, .int 0, .int 0, .int 0, .int 0, .long 0, .long 0, .long 0])), (m0, .inr (9, [.int 0, .int 0, .int 0, .int (-1), .ref (ma 4), .ref (ma 5), .ref (ma 6), .ref (ma 7), .ref (ma 8), .ref (ma 9), .ref (ma 10), .ref (ma 11), .ref (ma 12), .ref (ma 13), .ref (ma 14), .ref (ma 15), .ref (ma 16), .ref (ma 17), .ref (ma 18), .ref (ma 19), .int 0, .ref (ma 21), .ref (ma 22), .ref (ma 23), .ref (ma 24), .ref (ma 25), .ref (ma 26), .ref (ma 27), .ref (ma 28), .ref (ma 29), .ref (ma 30), .ref (ma 31), .ref (ma 32), .ref (ma 33), .ref (ma 34), .ref (ma 35), .ref (ma 36), .ref (ma 37), .int 0, .ref (ma 39), .ref (ma 40), .ref (ma 41), .ref (ma 42), .ref (ma 43), .ref (ma 44), .ref (ma 45), .ref (ma 46), .ref (ma 47), .ref (ma 48), .int 0, .int 0, .int 0, .int 0, .int 0, .int 0, .int 0, .long 0, .int 0, .long 0, .long 0, .long 0, .long 0, .int 0, .int 0, .int 0, .int 0, .long 0])), (ma 39, .inl (G.2 0, 6, .inl (fun _ => 0))), (ma 11, .inl (G.2 4, 96, .inr (.inl (fun _ => 0))))] H) (hD : va_D A [(q0, .inr (8, [.ref qb, .ref qk, .ref qg, .ref qr, .int 0, .int 0])), (qr, .inl (G.2 0, 6, .inl (fun _ => 0))), (qb, .inr (0, [.ref (b 0), .ref (b 1), .ref (b 2), .ref (b 3), .ref (b 4), .int 0])), (b 3, .inl (G.2 5, 8, .inr (.inr (.inr (.inr pf))))), (b 16, .inr (4, [.ref (b 24), .ref (b 32), .int 0, .int 0, .int 0, .int 0, .int 0, .int 0, .long 0, .long 0, .long 0])), (b 17, .inr (4, [.ref (b 25), .ref (b 33), .int 0, .int 0, .int 0, .int 0, .int 0, .int 0, .long 0, .long 0, .long 0])), (b 18, .inr (4, [.ref (b 26), .ref (b 34), .int 0, .int 0, .int 0, .int 0, .int 0, .int 0, .long 0, .long 0, .long 0])), (b 19, .inr (4, [.ref (b 27), .ref (b 35), .int 0, .int 0, .int 0, .int 0, .int 0, .int 0, .long 0, .long 0, .long 0])), (b 20, .inr (4, [.ref (b 28), .ref (b 36), .int 0, .int 0, .int 0, .int 0, .int 0, .int 0, .long 0, .long 0, .long 0])), (b 21, .inr (4, [.ref (b 29), .ref (b 37), .int 0, .int 0, .int 0, .int 0, .int 0, .int 0, .long 0, .long 0, .long 0])), (b 22, .inr (4, [.ref (b 30), .ref (b 38), .int 0, .int 0, .int 0, .int 0, .int 0, .int 0, .long 0, .long 0, .long 0])), (b 23, .inr (4, [.ref (b 31), .ref (b 39), .int 0, .int 0, .int 0, .int 0, .int 0, .int 0, .long 0, .long 0, .long 0])), (m0, .inr (9, [.int 0, .int 0, .int 0, .int (-1), .ref (ma 4), .ref (ma 5), .ref (ma 6), .ref (ma 7), .ref (ma 8), .ref (ma 9), .ref (ma 10), .ref (ma 11), .ref (ma 12), .ref (ma 13), .ref (ma 14), .ref (ma 15), .ref (ma 16), .ref (ma 17), .ref (ma 18), .ref (ma 19), .int 0, .ref (ma 21), .ref (ma 22), .ref (ma 23), .ref (ma 24), .ref (ma 25), .ref (ma 26), .ref (ma 27), .ref (ma 28), .ref (ma 29), .ref (ma 30), .ref (ma 31), .ref (ma 32), .ref (ma 33), .ref (ma 34), .ref (ma 35), .ref (ma 36), .ref (ma 37), .int 0, .ref (ma 39), .ref (ma 40), .ref (ma 41), .ref (ma 42), .ref (ma 43), .ref (ma 44), .ref (ma 45), .ref (ma 46), .ref (ma 47), .ref (ma 48), .int 0, .int 0, .int 0, .int 0, .int 0, .int 0, .int 0, .long 0, .int 0, .long 0, .long 0, .long 0, .long 0, .int 0, .int 0, .int 0, .int 0, .long 0])), (ma 39, .inl (G.2 0, 6, .inl (fun _ => 0))), (ma 11, .inl (G.2 4, 96, .inr (.inl (fun _ => 0))))]) (hS : va_S A s.heap H locs) (hl : lv_has ls 4 [(3, .int 0), (2, .ref m0), (1, .ref q0), (0, .ref sc)]) : W p l e room_1 s m #[Value.ref sc] below meth c H locs 169 136076 (lw_Z below #[Value.ref sc] s) (F0 m 1259 ls []) := by
  obtain ⟨hx, hb, hml, hown, htl⟩ := id C0
  refine lv_aload_n hx hb dL_law_1259 rfl (lv_at hl 2 rfl) ?_
  refine lv_aload_n hx hb dL_law_1260 rfl (lv_at hl 3 rfl) ?_
  refine lv_iload_n hx hb dL_law_1261 rfl (lv_at hl 0 rfl) ?_
  refine lv_iconst (v := 1) hx hb dL_law_1262 (by decide) ?_
  refine lv_iadd hx hb dL_law_1263 ?_
  refine lv_topi (fun z_1 ez_1 => ?_)
  obtain rfl : z_1 = 1 := ez_1.trans (by first | rfl | decide +kernel)
  refine va_sld hx hb hX hbl hbA hS (by unfold vp_in; decide +kernel) dL_law_1264 ?_
  refine lv_topi (fun z_2 ez_2 => ?_)
  refine lv_aload_n hx hb dL_law_1265 rfl (lv_at hl 3 rfl) ?_
  refine lv_iload_n hx hb dL_law_1266 rfl (lv_at hl 0 rfl) ?_
  refine lv_iconst (v := 2) hx hb dL_law_1267 (by decide) ?_
  refine lv_iadd hx hb dL_law_1268 ?_
  refine lv_topi (fun z_3 ez_3 => ?_)
  obtain rfl : z_3 = 2 := ez_3.trans (by first | rfl | decide +kernel)
  refine va_sld hx hb hX hbl hbA hS (by unfold vp_in; decide +kernel) dL_law_1269 ?_
  refine lv_topi (fun z_4 ez_4 => ?_)
  refine lv_aload_n hx hb dL_law_1270 rfl (lv_at hl 3 rfl) ?_
  refine lv_iload_n hx hb dL_law_1271 rfl (lv_at hl 0 rfl) ?_
  refine lv_iconst (v := 3) hx hb dL_law_1272 (by decide) ?_
  refine lv_iadd hx hb dL_law_1273 ?_
  refine lv_topi (fun z_5 ez_5 => ?_)
  obtain rfl : z_5 = 3 := ez_5.trans (by first | rfl | decide +kernel)
  refine va_sld hx hb hX hbl hbA hS (by unfold vp_in; decide +kernel) dL_law_1274 ?_
  refine lv_topi (fun z_6 ez_6 => ?_)
  refine lv_if_eq (tgt := 1282) hx hb dL_law_1275 (by decide) (fun c_7 => ?_) (fun c_7 => ?_)
  · refine lv_iconst (v := 0) hx hb dL_law_1282 (by decide) ?_
    refine xVwi (rq := 0) (ci := 8) (wc := [(q0, .inr (8, [.ref qb, .ref qk, .ref qg, .ref qr, .int 0, .int 0])), (qr, .inl (G.2 0, 6, .inl (fun _ => 0))), (qb, .inr (0, [.ref (b 0), .ref (b 1), .ref (b 2), .ref (b 3), .ref (b 4), .int 0])), (b 3, .inl (G.2 5, 8, .inr (.inr (.inr (.inr pf))))), (b 16, .inr (4, [.ref (b 24), .ref (b 32), .int 0, .int 0, .int 0, .int 0, .int 0, .int 0, .long 0, .long 0, .long 0])), (b 17, .inr (4, [.ref (b 25), .ref (b 33), .int 0, .int 0, .int 0, .int 0, .int 0, .int 0, .long 0, .long 0, .long 0])), (b 18, .inr (4, [.ref (b 26), .ref (b 34), .int 0, .int 0, .int 0, .int 0, .int 0, .int 0, .long 0, .long 0, .long 0])), (b 19, .inr (4, [.ref (b 27), .ref (b 35), .int 0, .int 0, .int 0, .int 0, .int 0, .int 0, .long 0, .long 0, .long 0])), (b 20, .inr (4, [.ref (b 28), .ref (b 36), .int 0, .int 0, .int 0, .int 0, .int 0, .int 0, .long 0, .long 0, .long 0])), (b 21, .inr (4, [.ref (b 29), .ref (b 37), .int 0, .int 0, .int 0, .int 0, .int 0, .int 0, .long 0, .long 0, .long 0])), (b 22, .inr (4, [.ref (b 30), .ref (b 38), .int 0, .int 0, .int 0, .int 0, .int 0, .int 0, .long 0, .long 0, .long 0])), (b 23, .inr (4, [.ref (b 31), .ref (b 39), .int 0, .int 0, .int 0, .int 0, .int 0, .int 0, .long 0, .long 0, .long 0]))]) (wr := [(m0, .inr (9, [.int 0, .int 0, .int 0, .int (-1), .ref (ma 4), .ref (ma 5), .ref (ma 6), .ref (ma 7), .ref (ma 8), .ref (ma 9), .ref (ma 10), .ref (ma 11), .ref (ma 12), .ref (ma 13), .ref (ma 14), .ref (ma 15), .ref (ma 16), .ref (ma 17), .ref (ma 18), .ref (ma 19), .int 0, .ref (ma 21), .ref (ma 22), .ref (ma 23), .ref (ma 24), .ref (ma 25), .ref (ma 26), .ref (ma 27), .ref (ma 28), .ref (ma 29), .ref (ma 30), .ref (ma 31), .ref (ma 32), .ref (ma 33), .ref (ma 34), .ref (ma 35), .ref (ma 36), .ref (ma 37), .int 0, .ref (ma 39), .ref (ma 40), .ref (ma 41), .ref (ma 42), .ref (ma 43), .ref (ma 44), .ref (ma 45), .ref (ma 46), .ref (ma 47), .ref (ma 48), .int 0, .int 0, .int 0, .int 0, .int 0, .int 0, .int 0, .long 0, .int 0, .long 0, .long 0, .long 0, .long 0, .int 0, .int 0, .int 0, .int 0, .long 0])), (ma 39, .inl (G.2 0, 6, .inl (fun _ => 0))), (ma 11, .inl (G.2 4, 96, .inr (.inl (fun _ => 0))))]) (As := [.int z_2, .int z_4, .int 0]) (rest := []) C0 (c_X8_minute l G q0 qb qk qg qr b pf z_2 z_4 0 hpf) ok_X8_minute (mW688 : Cond.methodLink RL 124 yX8_minute ∈ wsT) ⟨Nat.le_of_ble_eq_true rfl, Nat.le_of_ble_eq_true rfl⟩ hP hD hS hA hK hN [0, 1, 2, 3, 4, 5, 6, 7, 8, 9, 10, 11] [12, 13, 14] rfl rfl (by decide) (by decide) (by decide) rfl rfl rfl rfl hl.1 rfl (Nat.le_of_ble_eq_true rfl) ⟨Nat.le_of_ble_eq_true rfl, Nat.le_of_ble_eq_true rfl⟩ dL_law_1283 (fun r_8 u_9 H locs hr_8 hP hD hS => ?_)
    have hP : va_P G.1 xcl [(m0, .inr (9, [.int 0, .int 0, .int 0, .int (-1), .ref (ma 4), .ref (ma 5), .ref (ma 6), .ref (ma 7), .ref (ma 8), .ref (ma 9), .ref (ma 10), .ref (ma 11), .ref (ma 12), .ref (ma 13), .ref (ma 14), .ref (ma 15), .ref (ma 16), .ref (ma 17), .ref (ma 18), .ref (ma 19), .int 0, .ref (ma 21), .ref (ma 22), .ref (ma 23), .ref (ma 24), .ref (ma 25), .ref (ma 26), .ref (ma 27), .ref (ma 28), .ref (ma 29), .ref (ma 30), .ref (ma 31), .ref (ma 32), .ref (ma 33), .ref (ma 34), .ref (ma 35), .ref (ma 36), .ref (ma 37), .int 0, .ref (ma 39), .ref (ma 40), .ref (ma 41), .ref (ma 42), .ref (ma 43), .ref (ma 44), .ref (ma 45), .ref (ma 46), .ref (ma 47), .ref (ma 48), .int 0, .int 0, .int 0, .int 0, .int 0, .int 0, .int 0, .long 0, .int 0, .long 0, .long 0, .long 0, .long 0, .int 0, .int 0, .int 0, .int 0, .long 0])), (ma 39, .inl (G.2 0, 6, .inl (fun _ => 0))), (ma 11, .inl (G.2 4, 96, .inr (.inl (fun _ => 0))))] H := hP
    have hD : va_D A [(m0, .inr (9, [.int 0, .int 0, .int 0, .int (-1), .ref (ma 4), .ref (ma 5), .ref (ma 6), .ref (ma 7), .ref (ma 8), .ref (ma 9), .ref (ma 10), .ref (ma 11), .ref (ma 12), .ref (ma 13), .ref (ma 14), .ref (ma 15), .ref (ma 16), .ref (ma 17), .ref (ma 18), .ref (ma 19), .int 0, .ref (ma 21), .ref (ma 22), .ref (ma 23), .ref (ma 24), .ref (ma 25), .ref (ma 26), .ref (ma 27), .ref (ma 28), .ref (ma 29), .ref (ma 30), .ref (ma 31), .ref (ma 32), .ref (ma 33), .ref (ma 34), .ref (ma 35), .ref (ma 36), .ref (ma 37), .int 0, .ref (ma 39), .ref (ma 40), .ref (ma 41), .ref (ma 42), .ref (ma 43), .ref (ma 44), .ref (ma 45), .ref (ma 46), .ref (ma 47), .ref (ma 48), .int 0, .int 0, .int 0, .int 0, .int 0, .int 0, .int 0, .long 0, .int 0, .long 0, .long 0, .long 0, .long 0, .int 0, .int 0, .int 0, .int 0, .long 0])), (ma 39, .inl (G.2 0, 6, .inl (fun _ => 0))), (ma 11, .inl (G.2 4, 96, .inr (.inl (fun _ => 0))))] := hD
    obtain rfl : r_8 = (-1) := hr_8
    refine lv_aload_n hx hb dL_law_1286 rfl (lv_at hl 1 rfl) ?_
    refine lv_aload_n hx hb dL_law_1287 rfl (lv_at hl 3 rfl) ?_
    refine lv_iload_n hx hb dL_law_1288 rfl (lv_at hl 0 rfl) ?_
    refine lv_iconst (v := 1) hx hb dL_law_1289 (by decide) ?_
    refine lv_iadd hx hb dL_law_1290 ?_
    refine lv_topi (fun z_10 ez_10 => ?_)
    obtain rfl : z_10 = 1 := ez_10.trans (by first | rfl | decide +kernel)
    refine va_sld hx hb hX hbl hbA hS (by unfold vp_in; decide +kernel) dL_law_1291 ?_
    rw [← ez_2]
    refine lv_aload_n hx hb dL_law_1292 rfl (lv_at hl 3 rfl) ?_
    refine lv_iload_n hx hb dL_law_1293 rfl (lv_at hl 0 rfl) ?_
    refine lv_iconst (v := 2) hx hb dL_law_1294 (by decide) ?_
    refine lv_iadd hx hb dL_law_1295 ?_
    refine lv_topi (fun z_11 ez_11 => ?_)
    obtain rfl : z_11 = 2 := ez_11.trans (by first | rfl | decide +kernel)
    refine va_sld hx hb hX hbl hbA hS (by unfold vp_in; decide +kernel) dL_law_1296 ?_
    rw [← ez_4]
    refine lv_aload_n hx hb dL_law_1297 rfl (lv_at hl 3 rfl) ?_
    refine lv_iload_n hx hb dL_law_1298 rfl (lv_at hl 0 rfl) ?_
    refine lv_iconst (v := 3) hx hb dL_law_1299 (by decide) ?_
    refine lv_iadd hx hb dL_law_1300 ?_
    refine lv_topi (fun z_12 ez_12 => ?_)
    obtain rfl : z_12 = 3 := ez_12.trans (by first | rfl | decide +kernel)
    refine va_sld hx hb hX hbl hbA hS (by unfold vp_in; decide +kernel) dL_law_1301 ?_
    rw [← ez_6]
    refine lv_if_eq (tgt := 1309) hx hb dL_law_1302 (by decide) (fun c_13 => ?_) (fun c_13 => absurd c_7 c_13)
    refine lv_iconst (v := 0) hx hb dL_law_1309 (by decide) ?_
    refine xVwi (rq := 0) (ci := 9) (wc := [(m0, .inr (9, [.int 0, .int 0, .int 0, .int (-1), .ref (ma 4), .ref (ma 5), .ref (ma 6), .ref (ma 7), .ref (ma 8), .ref (ma 9), .ref (ma 10), .ref (ma 11), .ref (ma 12), .ref (ma 13), .ref (ma 14), .ref (ma 15), .ref (ma 16), .ref (ma 17), .ref (ma 18), .ref (ma 19), .int 0, .ref (ma 21), .ref (ma 22), .ref (ma 23), .ref (ma 24), .ref (ma 25), .ref (ma 26), .ref (ma 27), .ref (ma 28), .ref (ma 29), .ref (ma 30), .ref (ma 31), .ref (ma 32), .ref (ma 33), .ref (ma 34), .ref (ma 35), .ref (ma 36), .ref (ma 37), .int 0, .ref (ma 39), .ref (ma 40), .ref (ma 41), .ref (ma 42), .ref (ma 43), .ref (ma 44), .ref (ma 45), .ref (ma 46), .ref (ma 47), .ref (ma 48), .int 0, .int 0, .int 0, .int 0, .int 0, .int 0, .int 0, .long 0, .int 0, .long 0, .long 0, .long 0, .long 0, .int 0, .int 0, .int 0, .int 0, .long 0])), (ma 39, .inl (G.2 0, 6, .inl (fun _ => 0))), (ma 11, .inl (G.2 4, 96, .inr (.inl (fun _ => 0))))]) (wr := []) (As := [.int z_2, .int z_4, .int 0]) (rest := [.int (-1)]) C0 (c_X9_minute l G m0 ma z_2 z_4 0) ok_X9_minute (mW852 : Cond.methodLink RL 128 yX9_minute ∈ wsT) ⟨Nat.le_of_ble_eq_true rfl, Nat.le_of_ble_eq_true rfl⟩ hP hD hS hA hK hN [0, 1, 2] [] rfl rfl (by decide) (by decide) (by decide) rfl rfl rfl rfl hl.1 rfl (Nat.le_of_ble_eq_true rfl) ⟨Nat.le_of_ble_eq_true rfl, Nat.le_of_ble_eq_true rfl⟩ dL_law_1310 (fun r_14 u_15 H locs hr_14 hP hD hS => ?_)
    have hP : va_P G.1 xcl [] H := hP
    have hD : va_D A [] := hD
    obtain rfl : r_14 = (-1) := hr_14
    refine lv_icmp_eq (tgt := 1789) hx hb dL_law_1313 (by decide) (fun c_16 => ?_) (fun c_16 => absurd c_16 (by decide +kernel))
    exact law_tail C0 hr hlocks hX hbl hbA hA2 hS ls (lv_sub hl [0, 3] rfl)
  · refine lv_iconst (v := 1) hx hb dL_law_1278 (by decide) ?_
    refine lv_goto (tgt := 1283) hx hb dL_law_1279 (by decide) ?_
    refine xVwi (rq := 0) (ci := 8) (wc := [(q0, .inr (8, [.ref qb, .ref qk, .ref qg, .ref qr, .int 0, .int 0])), (qr, .inl (G.2 0, 6, .inl (fun _ => 0))), (qb, .inr (0, [.ref (b 0), .ref (b 1), .ref (b 2), .ref (b 3), .ref (b 4), .int 0])), (b 3, .inl (G.2 5, 8, .inr (.inr (.inr (.inr pf))))), (b 16, .inr (4, [.ref (b 24), .ref (b 32), .int 0, .int 0, .int 0, .int 0, .int 0, .int 0, .long 0, .long 0, .long 0])), (b 17, .inr (4, [.ref (b 25), .ref (b 33), .int 0, .int 0, .int 0, .int 0, .int 0, .int 0, .long 0, .long 0, .long 0])), (b 18, .inr (4, [.ref (b 26), .ref (b 34), .int 0, .int 0, .int 0, .int 0, .int 0, .int 0, .long 0, .long 0, .long 0])), (b 19, .inr (4, [.ref (b 27), .ref (b 35), .int 0, .int 0, .int 0, .int 0, .int 0, .int 0, .long 0, .long 0, .long 0])), (b 20, .inr (4, [.ref (b 28), .ref (b 36), .int 0, .int 0, .int 0, .int 0, .int 0, .int 0, .long 0, .long 0, .long 0])), (b 21, .inr (4, [.ref (b 29), .ref (b 37), .int 0, .int 0, .int 0, .int 0, .int 0, .int 0, .long 0, .long 0, .long 0])), (b 22, .inr (4, [.ref (b 30), .ref (b 38), .int 0, .int 0, .int 0, .int 0, .int 0, .int 0, .long 0, .long 0, .long 0])), (b 23, .inr (4, [.ref (b 31), .ref (b 39), .int 0, .int 0, .int 0, .int 0, .int 0, .int 0, .long 0, .long 0, .long 0]))]) (wr := [(m0, .inr (9, [.int 0, .int 0, .int 0, .int (-1), .ref (ma 4), .ref (ma 5), .ref (ma 6), .ref (ma 7), .ref (ma 8), .ref (ma 9), .ref (ma 10), .ref (ma 11), .ref (ma 12), .ref (ma 13), .ref (ma 14), .ref (ma 15), .ref (ma 16), .ref (ma 17), .ref (ma 18), .ref (ma 19), .int 0, .ref (ma 21), .ref (ma 22), .ref (ma 23), .ref (ma 24), .ref (ma 25), .ref (ma 26), .ref (ma 27), .ref (ma 28), .ref (ma 29), .ref (ma 30), .ref (ma 31), .ref (ma 32), .ref (ma 33), .ref (ma 34), .ref (ma 35), .ref (ma 36), .ref (ma 37), .int 0, .ref (ma 39), .ref (ma 40), .ref (ma 41), .ref (ma 42), .ref (ma 43), .ref (ma 44), .ref (ma 45), .ref (ma 46), .ref (ma 47), .ref (ma 48), .int 0, .int 0, .int 0, .int 0, .int 0, .int 0, .int 0, .long 0, .int 0, .long 0, .long 0, .long 0, .long 0, .int 0, .int 0, .int 0, .int 0, .long 0])), (ma 39, .inl (G.2 0, 6, .inl (fun _ => 0))), (ma 11, .inl (G.2 4, 96, .inr (.inl (fun _ => 0))))]) (As := [.int z_2, .int z_4, .int 1]) (rest := []) C0 (c_X8_minute l G q0 qb qk qg qr b pf z_2 z_4 1 hpf) ok_X8_minute (mW688 : Cond.methodLink RL 124 yX8_minute ∈ wsT) ⟨Nat.le_of_ble_eq_true rfl, Nat.le_of_ble_eq_true rfl⟩ hP hD hS hA hK hN [0, 1, 2, 3, 4, 5, 6, 7, 8, 9, 10, 11] [12, 13, 14] rfl rfl (by decide) (by decide) (by decide) rfl rfl rfl rfl hl.1 rfl (Nat.le_of_ble_eq_true rfl) ⟨Nat.le_of_ble_eq_true rfl, Nat.le_of_ble_eq_true rfl⟩ dL_law_1283 (fun r_17 u_18 H locs hr_17 hP hD hS => ?_)
    have hP : va_P G.1 xcl [(m0, .inr (9, [.int 0, .int 0, .int 0, .int (-1), .ref (ma 4), .ref (ma 5), .ref (ma 6), .ref (ma 7), .ref (ma 8), .ref (ma 9), .ref (ma 10), .ref (ma 11), .ref (ma 12), .ref (ma 13), .ref (ma 14), .ref (ma 15), .ref (ma 16), .ref (ma 17), .ref (ma 18), .ref (ma 19), .int 0, .ref (ma 21), .ref (ma 22), .ref (ma 23), .ref (ma 24), .ref (ma 25), .ref (ma 26), .ref (ma 27), .ref (ma 28), .ref (ma 29), .ref (ma 30), .ref (ma 31), .ref (ma 32), .ref (ma 33), .ref (ma 34), .ref (ma 35), .ref (ma 36), .ref (ma 37), .int 0, .ref (ma 39), .ref (ma 40), .ref (ma 41), .ref (ma 42), .ref (ma 43), .ref (ma 44), .ref (ma 45), .ref (ma 46), .ref (ma 47), .ref (ma 48), .int 0, .int 0, .int 0, .int 0, .int 0, .int 0, .int 0, .long 0, .int 0, .long 0, .long 0, .long 0, .long 0, .int 0, .int 0, .int 0, .int 0, .long 0])), (ma 39, .inl (G.2 0, 6, .inl (fun _ => 0))), (ma 11, .inl (G.2 4, 96, .inr (.inl (fun _ => 0))))] H := hP
    have hD : va_D A [(m0, .inr (9, [.int 0, .int 0, .int 0, .int (-1), .ref (ma 4), .ref (ma 5), .ref (ma 6), .ref (ma 7), .ref (ma 8), .ref (ma 9), .ref (ma 10), .ref (ma 11), .ref (ma 12), .ref (ma 13), .ref (ma 14), .ref (ma 15), .ref (ma 16), .ref (ma 17), .ref (ma 18), .ref (ma 19), .int 0, .ref (ma 21), .ref (ma 22), .ref (ma 23), .ref (ma 24), .ref (ma 25), .ref (ma 26), .ref (ma 27), .ref (ma 28), .ref (ma 29), .ref (ma 30), .ref (ma 31), .ref (ma 32), .ref (ma 33), .ref (ma 34), .ref (ma 35), .ref (ma 36), .ref (ma 37), .int 0, .ref (ma 39), .ref (ma 40), .ref (ma 41), .ref (ma 42), .ref (ma 43), .ref (ma 44), .ref (ma 45), .ref (ma 46), .ref (ma 47), .ref (ma 48), .int 0, .int 0, .int 0, .int 0, .int 0, .int 0, .int 0, .long 0, .int 0, .long 0, .long 0, .long 0, .long 0, .int 0, .int 0, .int 0, .int 0, .long 0])), (ma 39, .inl (G.2 0, 6, .inl (fun _ => 0))), (ma 11, .inl (G.2 4, 96, .inr (.inl (fun _ => 0))))] := hD
    obtain rfl : r_17 = (-1) := hr_17
    refine lv_aload_n hx hb dL_law_1286 rfl (lv_at hl 1 rfl) ?_
    refine lv_aload_n hx hb dL_law_1287 rfl (lv_at hl 3 rfl) ?_
    refine lv_iload_n hx hb dL_law_1288 rfl (lv_at hl 0 rfl) ?_
    refine lv_iconst (v := 1) hx hb dL_law_1289 (by decide) ?_
    refine lv_iadd hx hb dL_law_1290 ?_
    refine lv_topi (fun z_19 ez_19 => ?_)
    obtain rfl : z_19 = 1 := ez_19.trans (by first | rfl | decide +kernel)
    refine va_sld hx hb hX hbl hbA hS (by unfold vp_in; decide +kernel) dL_law_1291 ?_
    rw [← ez_2]
    refine lv_aload_n hx hb dL_law_1292 rfl (lv_at hl 3 rfl) ?_
    refine lv_iload_n hx hb dL_law_1293 rfl (lv_at hl 0 rfl) ?_
    refine lv_iconst (v := 2) hx hb dL_law_1294 (by decide) ?_
    refine lv_iadd hx hb dL_law_1295 ?_
    refine lv_topi (fun z_20 ez_20 => ?_)
    obtain rfl : z_20 = 2 := ez_20.trans (by first | rfl | decide +kernel)
    refine va_sld hx hb hX hbl hbA hS (by unfold vp_in; decide +kernel) dL_law_1296 ?_
    rw [← ez_4]
    refine lv_aload_n hx hb dL_law_1297 rfl (lv_at hl 3 rfl) ?_
    refine lv_iload_n hx hb dL_law_1298 rfl (lv_at hl 0 rfl) ?_
    refine lv_iconst (v := 3) hx hb dL_law_1299 (by decide) ?_
    refine lv_iadd hx hb dL_law_1300 ?_
    refine lv_topi (fun z_21 ez_21 => ?_)
    obtain rfl : z_21 = 3 := ez_21.trans (by first | rfl | decide +kernel)
    refine va_sld hx hb hX hbl hbA hS (by unfold vp_in; decide +kernel) dL_law_1301 ?_
    rw [← ez_6]
    refine lv_if_eq (tgt := 1309) hx hb dL_law_1302 (by decide) (fun c_22 => absurd c_22 c_7) (fun c_22 => ?_)
    refine lv_iconst (v := 1) hx hb dL_law_1305 (by decide) ?_
    refine lv_goto (tgt := 1310) hx hb dL_law_1306 (by decide) ?_
    refine xVwi (rq := 0) (ci := 9) (wc := [(m0, .inr (9, [.int 0, .int 0, .int 0, .int (-1), .ref (ma 4), .ref (ma 5), .ref (ma 6), .ref (ma 7), .ref (ma 8), .ref (ma 9), .ref (ma 10), .ref (ma 11), .ref (ma 12), .ref (ma 13), .ref (ma 14), .ref (ma 15), .ref (ma 16), .ref (ma 17), .ref (ma 18), .ref (ma 19), .int 0, .ref (ma 21), .ref (ma 22), .ref (ma 23), .ref (ma 24), .ref (ma 25), .ref (ma 26), .ref (ma 27), .ref (ma 28), .ref (ma 29), .ref (ma 30), .ref (ma 31), .ref (ma 32), .ref (ma 33), .ref (ma 34), .ref (ma 35), .ref (ma 36), .ref (ma 37), .int 0, .ref (ma 39), .ref (ma 40), .ref (ma 41), .ref (ma 42), .ref (ma 43), .ref (ma 44), .ref (ma 45), .ref (ma 46), .ref (ma 47), .ref (ma 48), .int 0, .int 0, .int 0, .int 0, .int 0, .int 0, .int 0, .long 0, .int 0, .long 0, .long 0, .long 0, .long 0, .int 0, .int 0, .int 0, .int 0, .long 0])), (ma 39, .inl (G.2 0, 6, .inl (fun _ => 0))), (ma 11, .inl (G.2 4, 96, .inr (.inl (fun _ => 0))))]) (wr := []) (As := [.int z_2, .int z_4, .int 1]) (rest := [.int (-1)]) C0 (c_X9_minute l G m0 ma z_2 z_4 1) ok_X9_minute (mW852 : Cond.methodLink RL 128 yX9_minute ∈ wsT) ⟨Nat.le_of_ble_eq_true rfl, Nat.le_of_ble_eq_true rfl⟩ hP hD hS hA hK hN [0, 1, 2] [] rfl rfl (by decide) (by decide) (by decide) rfl rfl rfl rfl hl.1 rfl (Nat.le_of_ble_eq_true rfl) ⟨Nat.le_of_ble_eq_true rfl, Nat.le_of_ble_eq_true rfl⟩ dL_law_1310 (fun r_23 u_24 H locs hr_23 hP hD hS => ?_)
    have hP : va_P G.1 xcl [] H := hP
    have hD : va_D A [] := hD
    obtain rfl : r_23 = (-1) := hr_23
    refine lv_icmp_eq (tgt := 1789) hx hb dL_law_1313 (by decide) (fun c_25 => ?_) (fun c_25 => absurd c_25 (by decide +kernel))
    exact law_tail C0 hr hlocks hX hbl hbA hA2 hS ls (lv_sub hl [0, 3] rfl)
theorem dL_law_1318 : decode cL_law 1318 = .ok (.aload_n 1, 1) := by decide +kernel
theorem dL_law_1319 : decode cL_law 1319 = .ok (.aload_n 0, 1) := by decide +kernel
theorem dL_law_1320 : decode cL_law 1320 = .ok (.iload_n 3, 1) := by decide +kernel
theorem dL_law_1321 : decode cL_law 1321 = .ok (.iconst 1, 1) := by decide +kernel
theorem dL_law_1322 : decode cL_law 1322 = .ok (.iadd, 1) := by decide +kernel
theorem dL_law_1323 : decode cL_law 1323 = .ok (.iaload, 1) := by decide +kernel
theorem dL_law_1324 : decode cL_law 1324 = .ok (.aload_n 0, 1) := by decide +kernel
theorem dL_law_1325 : decode cL_law 1325 = .ok (.iload_n 3, 1) := by decide +kernel
theorem dL_law_1326 : decode cL_law 1326 = .ok (.iconst 2, 1) := by decide +kernel
theorem dL_law_1327 : decode cL_law 1327 = .ok (.iadd, 1) := by decide +kernel
theorem dL_law_1328 : decode cL_law 1328 = .ok (.iaload, 1) := by decide +kernel
theorem dL_law_1329 : decode cL_law 1329 = .ok (.aload_n 0, 1) := by decide +kernel
theorem dL_law_1330 : decode cL_law 1330 = .ok (.iload_n 3, 1) := by decide +kernel
theorem dL_law_1331 : decode cL_law 1331 = .ok (.iconst 3, 1) := by decide +kernel
theorem dL_law_1332 : decode cL_law 1332 = .ok (.iadd, 1) := by decide +kernel
theorem dL_law_1333 : decode cL_law 1333 = .ok (.iaload, 1) := by decide +kernel
theorem dL_law_1334 : decode cL_law 1334 = .ok (.ifCond .eq 7, 3) := by decide +kernel
theorem dL_law_1337 : decode cL_law 1337 = .ok (.iconst 1, 1) := by decide +kernel
theorem dL_law_1338 : decode cL_law 1338 = .ok (.goto 4, 3) := by decide +kernel
theorem dL_law_1341 : decode cL_law 1341 = .ok (.iconst 0, 1) := by decide +kernel
theorem dL_law_1342 : decode cL_law 1342 = .ok (.invokevirtual 129, 3) := by decide +kernel
theorem dL_law_1345 : decode cL_law 1345 = .ok (.aload_n 2, 1) := by decide +kernel
theorem dL_law_1346 : decode cL_law 1346 = .ok (.aload_n 0, 1) := by decide +kernel
theorem dL_law_1347 : decode cL_law 1347 = .ok (.iload_n 3, 1) := by decide +kernel
theorem dL_law_1348 : decode cL_law 1348 = .ok (.iconst 1, 1) := by decide +kernel
theorem dL_law_1349 : decode cL_law 1349 = .ok (.iadd, 1) := by decide +kernel
theorem dL_law_1350 : decode cL_law 1350 = .ok (.iaload, 1) := by decide +kernel
theorem dL_law_1351 : decode cL_law 1351 = .ok (.aload_n 0, 1) := by decide +kernel
theorem dL_law_1352 : decode cL_law 1352 = .ok (.iload_n 3, 1) := by decide +kernel
theorem dL_law_1353 : decode cL_law 1353 = .ok (.iconst 2, 1) := by decide +kernel
theorem dL_law_1354 : decode cL_law 1354 = .ok (.iadd, 1) := by decide +kernel
theorem dL_law_1355 : decode cL_law 1355 = .ok (.iaload, 1) := by decide +kernel
theorem dL_law_1356 : decode cL_law 1356 = .ok (.aload_n 0, 1) := by decide +kernel
theorem dL_law_1357 : decode cL_law 1357 = .ok (.iload_n 3, 1) := by decide +kernel
theorem dL_law_1358 : decode cL_law 1358 = .ok (.iconst 3, 1) := by decide +kernel
theorem dL_law_1359 : decode cL_law 1359 = .ok (.iadd, 1) := by decide +kernel
theorem dL_law_1360 : decode cL_law 1360 = .ok (.iaload, 1) := by decide +kernel
theorem dL_law_1361 : decode cL_law 1361 = .ok (.ifCond .eq 7, 3) := by decide +kernel
theorem dL_law_1364 : decode cL_law 1364 = .ok (.iconst 1, 1) := by decide +kernel
theorem dL_law_1365 : decode cL_law 1365 = .ok (.goto 4, 3) := by decide +kernel
theorem dL_law_1368 : decode cL_law 1368 = .ok (.iconst 0, 1) := by decide +kernel
theorem dL_law_1369 : decode cL_law 1369 = .ok (.invokevirtual 132, 3) := by decide +kernel
theorem dL_law_1372 : decode cL_law 1372 = .ok (.if_icmp .eq 417, 3) := by decide +kernel
set_option maxHeartbeats 4000000 in
set_option maxRecDepth 100000 in
/-- case 25: why -/
theorem law_25 {q0 : Nat} {qb : Nat} {qk : Nat} {qg : Nat} {qr : Nat} {b : Nat → Nat} {pf : Nat → Option Nat} {kf : Nat → Int32} {b2 : Nat → Nat} {pf2 : Nat → Option Nat} {kf2 : Nat → Int32} {m0 : Nat} {ma : Nat → Nat} {p : Program} {l : Launch} {e : Env} {s : State} {m : MethodId} {below : List Frame} {meth : Method} {c : Code} {G : xG} {sc : Nat} {xs : Nat → Int32} {A : Nat → Prop} (C0 : CallFix p m c code 4 s #[Value.ref sc] wsT RL) (hr : meth.sig.returnType = ret) (hlocks : meth.locks = false) (hK : va_K G.1 xcl (xty G) s) (hN : xN s) (hX : va_X sc 7 xs s s.heap) (hbl : sc < s.heap.size) (hbA : ¬ A sc) (hA : ∀ q : Nat, s.heap.size ≤ q → A q) (hA2 : ∀ q, A q → s.heap.size ≤ q) (hpf : ∀ k, k < 8 → pf k = some (b (16 + k))) (hpf2 : ∀ k, k < 8 → pf2 k = some (b2 (16 + k))) {H : Heap} {locs : List Loc} {ls : Array Slot} (hP : va_P G.1 xcl [(q0, .inr (8, [.ref qb, .ref qk, .ref qg, .ref qr, .int 0, .int 0])), (qr, .inl (G.2 0, 6, .inl (fun _ => 0))), (qb, .inr (0, [.ref (b 0), .ref (b 1), .ref (b 2), .ref (b 3), .ref (b 4), .int 0])), (b 3, .inl (G.2 5, 8, .inr (.inr (.inr (.inr pf))))), (b 16, .inr (4, [.ref (b 24), .ref (b 32), .int 0, .int 0, .int 0, .int 0, .int 0, .int 0, .long 0, .long 0, .long 0])), (b 17, .inr (4, [.ref (b 25), .ref (b 33), .int 0, .int 0, .int 0, .int 0, .int 0, .int 0, .long 0, .long 0, .long 0])), (b 18, .inr (4, [.ref (b 26), .ref (b 34), .int 0, .int 0, .int 0, .int 0, .int 0, .int 0, .long 0, .long 0, .long 0])), (b 19, .inr (4, [.ref (b 27), .ref (b 35), .int 0, .int 0, .int 0, .int 0, .int 0, .int 0, .long 0, .long 0, .long 0])), (b 20, .inr (4, [.ref (b 28), .ref (b 36), .int 0, .int 0, .int 0, .int 0, .int 0, .int 0, .long 0, .long 0, .long 0])), (b 21, .inr (4, [.ref (b 29), .ref (b 37), .int 0, .int 0, .int 0, .int 0, .int 0, .int 0, .long 0, .long 0, .long 0])), (b 22, .inr (4, [.ref (b 30), .ref (b 38), .int 0, .int 0, .int 0, .int 0, .int 0, .int 0, .long 0, .long 0, .long 0])), (b 23, .inr (4, [.ref (b 31), .ref (b 39), .int 0, .int 0, .int 0, .int 0, .int 0, .int 0, .long 0, .long 0, .long 0])), (m0, .inr (9, [.int 0, .int 0, .int 0, .int (-1), .ref (ma 4), .ref (ma 5), .ref (ma 6), .ref (ma 7), .ref (ma 8), .ref (ma 9), .ref (ma 10), .ref (ma 11), .ref (ma 12), .ref (ma 13), .ref (ma 14), .ref (ma 15), .ref (ma 16), .ref (ma 17), .ref (ma 18), .ref (ma 19), .int 0, .ref (ma 21), .ref (ma 22), .ref (ma 23), .ref (ma 24), .ref (ma 25), .ref (ma 26), .ref (ma 27), .ref (ma 28), .ref (ma 29), .ref (ma 30), .ref (ma 31), .ref (ma 32), .ref (ma 33), .ref (ma 34), .ref (ma 35), .ref (ma 36), .ref (ma 37), .int 0, .ref (ma 39), .ref (ma 40), .ref (ma 41), .ref (ma 42), .ref (ma 43), .ref (ma 44), .ref (ma 45), .ref (ma 46), .ref (ma 47), .ref (ma 48), .int 0, .int 0, .int 0, .int 0, .int 0, .int 0, .int 0, .long 0, .int 0, .long 0, .long 0, .long 0, .long 0, .int 0, .int 0, .int 0, .int 0, .long 0])), (ma 39, .inl (G.2 0, 6, .inl (fun _ => 0))), (ma 11, .inl (G.2 4, 96, .inr (.inl (fun _ => 0))))] H) (hD : va_D A [(q0, .inr (8, [.ref qb, .ref qk, .ref qg, .ref qr, .int 0, .int 0])), (qr, .inl (G.2 0, 6, .inl (fun _ => 0))), (qb, .inr (0, [.ref (b 0), .ref (b 1), .ref (b 2), .ref (b 3), .ref (b 4), .int 0])), (b 3, .inl (G.2 5, 8, .inr (.inr (.inr (.inr pf))))), (b 16, .inr (4, [.ref (b 24), .ref (b 32), .int 0, .int 0, .int 0, .int 0, .int 0, .int 0, .long 0, .long 0, .long 0])), (b 17, .inr (4, [.ref (b 25), .ref (b 33), .int 0, .int 0, .int 0, .int 0, .int 0, .int 0, .long 0, .long 0, .long 0])), (b 18, .inr (4, [.ref (b 26), .ref (b 34), .int 0, .int 0, .int 0, .int 0, .int 0, .int 0, .long 0, .long 0, .long 0])), (b 19, .inr (4, [.ref (b 27), .ref (b 35), .int 0, .int 0, .int 0, .int 0, .int 0, .int 0, .long 0, .long 0, .long 0])), (b 20, .inr (4, [.ref (b 28), .ref (b 36), .int 0, .int 0, .int 0, .int 0, .int 0, .int 0, .long 0, .long 0, .long 0])), (b 21, .inr (4, [.ref (b 29), .ref (b 37), .int 0, .int 0, .int 0, .int 0, .int 0, .int 0, .long 0, .long 0, .long 0])), (b 22, .inr (4, [.ref (b 30), .ref (b 38), .int 0, .int 0, .int 0, .int 0, .int 0, .int 0, .long 0, .long 0, .long 0])), (b 23, .inr (4, [.ref (b 31), .ref (b 39), .int 0, .int 0, .int 0, .int 0, .int 0, .int 0, .long 0, .long 0, .long 0])), (m0, .inr (9, [.int 0, .int 0, .int 0, .int (-1), .ref (ma 4), .ref (ma 5), .ref (ma 6), .ref (ma 7), .ref (ma 8), .ref (ma 9), .ref (ma 10), .ref (ma 11), .ref (ma 12), .ref (ma 13), .ref (ma 14), .ref (ma 15), .ref (ma 16), .ref (ma 17), .ref (ma 18), .ref (ma 19), .int 0, .ref (ma 21), .ref (ma 22), .ref (ma 23), .ref (ma 24), .ref (ma 25), .ref (ma 26), .ref (ma 27), .ref (ma 28), .ref (ma 29), .ref (ma 30), .ref (ma 31), .ref (ma 32), .ref (ma 33), .ref (ma 34), .ref (ma 35), .ref (ma 36), .ref (ma 37), .int 0, .ref (ma 39), .ref (ma 40), .ref (ma 41), .ref (ma 42), .ref (ma 43), .ref (ma 44), .ref (ma 45), .ref (ma 46), .ref (ma 47), .ref (ma 48), .int 0, .int 0, .int 0, .int 0, .int 0, .int 0, .int 0, .long 0, .int 0, .long 0, .long 0, .long 0, .long 0, .int 0, .int 0, .int 0, .int 0, .long 0])), (ma 39, .inl (G.2 0, 6, .inl (fun _ => 0))), (ma 11, .inl (G.2 4, 96, .inr (.inl (fun _ => 0))))]) (hS : va_S A s.heap H locs) (hl : lv_has ls 4 [(3, .int 0), (2, .ref m0), (1, .ref q0), (0, .ref sc)]) : W p l e room_1 s m #[Value.ref sc] below meth c H locs 169 136076 (lw_Z below #[Value.ref sc] s) (F0 m 1318 ls []) := by
  obtain ⟨hx, hb, hml, hown, htl⟩ := id C0
  refine lv_aload_n hx hb dL_law_1318 rfl (lv_at hl 2 rfl) ?_
  refine lv_aload_n hx hb dL_law_1319 rfl (lv_at hl 3 rfl) ?_
  refine lv_iload_n hx hb dL_law_1320 rfl (lv_at hl 0 rfl) ?_
  refine lv_iconst (v := 1) hx hb dL_law_1321 (by decide) ?_
  refine lv_iadd hx hb dL_law_1322 ?_
  refine lv_topi (fun z_1 ez_1 => ?_)
  obtain rfl : z_1 = 1 := ez_1.trans (by first | rfl | decide +kernel)
  refine va_sld hx hb hX hbl hbA hS (by unfold vp_in; decide +kernel) dL_law_1323 ?_
  refine lv_topi (fun z_2 ez_2 => ?_)
  refine lv_aload_n hx hb dL_law_1324 rfl (lv_at hl 3 rfl) ?_
  refine lv_iload_n hx hb dL_law_1325 rfl (lv_at hl 0 rfl) ?_
  refine lv_iconst (v := 2) hx hb dL_law_1326 (by decide) ?_
  refine lv_iadd hx hb dL_law_1327 ?_
  refine lv_topi (fun z_3 ez_3 => ?_)
  obtain rfl : z_3 = 2 := ez_3.trans (by first | rfl | decide +kernel)
  refine va_sld hx hb hX hbl hbA hS (by unfold vp_in; decide +kernel) dL_law_1328 ?_
  refine lv_topi (fun z_4 ez_4 => ?_)
  refine lv_aload_n hx hb dL_law_1329 rfl (lv_at hl 3 rfl) ?_
  refine lv_iload_n hx hb dL_law_1330 rfl (lv_at hl 0 rfl) ?_
  refine lv_iconst (v := 3) hx hb dL_law_1331 (by decide) ?_
  refine lv_iadd hx hb dL_law_1332 ?_
  refine lv_topi (fun z_5 ez_5 => ?_)
  obtain rfl : z_5 = 3 := ez_5.trans (by first | rfl | decide +kernel)
  refine va_sld hx hb hX hbl hbA hS (by unfold vp_in; decide +kernel) dL_law_1333 ?_
  refine lv_topi (fun z_6 ez_6 => ?_)
  refine lv_if_eq (tgt := 1341) hx hb dL_law_1334 (by decide) (fun c_7 => ?_) (fun c_7 => ?_)
  · refine lv_iconst (v := 0) hx hb dL_law_1341 (by decide) ?_
    refine xVwi (rq := 0) (ci := 8) (wc := [(q0, .inr (8, [.ref qb, .ref qk, .ref qg, .ref qr, .int 0, .int 0])), (qr, .inl (G.2 0, 6, .inl (fun _ => 0))), (qb, .inr (0, [.ref (b 0), .ref (b 1), .ref (b 2), .ref (b 3), .ref (b 4), .int 0])), (b 3, .inl (G.2 5, 8, .inr (.inr (.inr (.inr pf))))), (b 16, .inr (4, [.ref (b 24), .ref (b 32), .int 0, .int 0, .int 0, .int 0, .int 0, .int 0, .long 0, .long 0, .long 0])), (b 17, .inr (4, [.ref (b 25), .ref (b 33), .int 0, .int 0, .int 0, .int 0, .int 0, .int 0, .long 0, .long 0, .long 0])), (b 18, .inr (4, [.ref (b 26), .ref (b 34), .int 0, .int 0, .int 0, .int 0, .int 0, .int 0, .long 0, .long 0, .long 0])), (b 19, .inr (4, [.ref (b 27), .ref (b 35), .int 0, .int 0, .int 0, .int 0, .int 0, .int 0, .long 0, .long 0, .long 0])), (b 20, .inr (4, [.ref (b 28), .ref (b 36), .int 0, .int 0, .int 0, .int 0, .int 0, .int 0, .long 0, .long 0, .long 0])), (b 21, .inr (4, [.ref (b 29), .ref (b 37), .int 0, .int 0, .int 0, .int 0, .int 0, .int 0, .long 0, .long 0, .long 0])), (b 22, .inr (4, [.ref (b 30), .ref (b 38), .int 0, .int 0, .int 0, .int 0, .int 0, .int 0, .long 0, .long 0, .long 0])), (b 23, .inr (4, [.ref (b 31), .ref (b 39), .int 0, .int 0, .int 0, .int 0, .int 0, .int 0, .long 0, .long 0, .long 0]))]) (wr := [(m0, .inr (9, [.int 0, .int 0, .int 0, .int (-1), .ref (ma 4), .ref (ma 5), .ref (ma 6), .ref (ma 7), .ref (ma 8), .ref (ma 9), .ref (ma 10), .ref (ma 11), .ref (ma 12), .ref (ma 13), .ref (ma 14), .ref (ma 15), .ref (ma 16), .ref (ma 17), .ref (ma 18), .ref (ma 19), .int 0, .ref (ma 21), .ref (ma 22), .ref (ma 23), .ref (ma 24), .ref (ma 25), .ref (ma 26), .ref (ma 27), .ref (ma 28), .ref (ma 29), .ref (ma 30), .ref (ma 31), .ref (ma 32), .ref (ma 33), .ref (ma 34), .ref (ma 35), .ref (ma 36), .ref (ma 37), .int 0, .ref (ma 39), .ref (ma 40), .ref (ma 41), .ref (ma 42), .ref (ma 43), .ref (ma 44), .ref (ma 45), .ref (ma 46), .ref (ma 47), .ref (ma 48), .int 0, .int 0, .int 0, .int 0, .int 0, .int 0, .int 0, .long 0, .int 0, .long 0, .long 0, .long 0, .long 0, .int 0, .int 0, .int 0, .int 0, .long 0])), (ma 39, .inl (G.2 0, 6, .inl (fun _ => 0))), (ma 11, .inl (G.2 4, 96, .inr (.inl (fun _ => 0))))]) (As := [.int z_2, .int z_4, .int 0]) (rest := []) C0 (c_X8_why l G q0 qb qk qg qr b pf z_2 z_4 0 hpf) ok_X8_why (mW905 : Cond.methodLink RL 129 yX8_why ∈ wsT) ⟨Nat.le_of_ble_eq_true rfl, Nat.le_of_ble_eq_true rfl⟩ hP hD hS hA hK hN [0, 1, 2, 3, 4, 5, 6, 7, 8, 9, 10, 11] [12, 13, 14] rfl rfl (by decide) (by decide) (by decide) rfl rfl rfl rfl hl.1 rfl (Nat.le_of_ble_eq_true rfl) ⟨Nat.le_of_ble_eq_true rfl, Nat.le_of_ble_eq_true rfl⟩ dL_law_1342 (fun r_8 u_9 H locs hr_8 hP hD hS => ?_)
    have hP : va_P G.1 xcl [(m0, .inr (9, [.int 0, .int 0, .int 0, .int (-1), .ref (ma 4), .ref (ma 5), .ref (ma 6), .ref (ma 7), .ref (ma 8), .ref (ma 9), .ref (ma 10), .ref (ma 11), .ref (ma 12), .ref (ma 13), .ref (ma 14), .ref (ma 15), .ref (ma 16), .ref (ma 17), .ref (ma 18), .ref (ma 19), .int 0, .ref (ma 21), .ref (ma 22), .ref (ma 23), .ref (ma 24), .ref (ma 25), .ref (ma 26), .ref (ma 27), .ref (ma 28), .ref (ma 29), .ref (ma 30), .ref (ma 31), .ref (ma 32), .ref (ma 33), .ref (ma 34), .ref (ma 35), .ref (ma 36), .ref (ma 37), .int 0, .ref (ma 39), .ref (ma 40), .ref (ma 41), .ref (ma 42), .ref (ma 43), .ref (ma 44), .ref (ma 45), .ref (ma 46), .ref (ma 47), .ref (ma 48), .int 0, .int 0, .int 0, .int 0, .int 0, .int 0, .int 0, .long 0, .int 0, .long 0, .long 0, .long 0, .long 0, .int 0, .int 0, .int 0, .int 0, .long 0])), (ma 39, .inl (G.2 0, 6, .inl (fun _ => 0))), (ma 11, .inl (G.2 4, 96, .inr (.inl (fun _ => 0))))] H := hP
    have hD : va_D A [(m0, .inr (9, [.int 0, .int 0, .int 0, .int (-1), .ref (ma 4), .ref (ma 5), .ref (ma 6), .ref (ma 7), .ref (ma 8), .ref (ma 9), .ref (ma 10), .ref (ma 11), .ref (ma 12), .ref (ma 13), .ref (ma 14), .ref (ma 15), .ref (ma 16), .ref (ma 17), .ref (ma 18), .ref (ma 19), .int 0, .ref (ma 21), .ref (ma 22), .ref (ma 23), .ref (ma 24), .ref (ma 25), .ref (ma 26), .ref (ma 27), .ref (ma 28), .ref (ma 29), .ref (ma 30), .ref (ma 31), .ref (ma 32), .ref (ma 33), .ref (ma 34), .ref (ma 35), .ref (ma 36), .ref (ma 37), .int 0, .ref (ma 39), .ref (ma 40), .ref (ma 41), .ref (ma 42), .ref (ma 43), .ref (ma 44), .ref (ma 45), .ref (ma 46), .ref (ma 47), .ref (ma 48), .int 0, .int 0, .int 0, .int 0, .int 0, .int 0, .int 0, .long 0, .int 0, .long 0, .long 0, .long 0, .long 0, .int 0, .int 0, .int 0, .int 0, .long 0])), (ma 39, .inl (G.2 0, 6, .inl (fun _ => 0))), (ma 11, .inl (G.2 4, 96, .inr (.inl (fun _ => 0))))] := hD
    obtain rfl : r_8 = (-1) := hr_8
    refine lv_aload_n hx hb dL_law_1345 rfl (lv_at hl 1 rfl) ?_
    refine lv_aload_n hx hb dL_law_1346 rfl (lv_at hl 3 rfl) ?_
    refine lv_iload_n hx hb dL_law_1347 rfl (lv_at hl 0 rfl) ?_
    refine lv_iconst (v := 1) hx hb dL_law_1348 (by decide) ?_
    refine lv_iadd hx hb dL_law_1349 ?_
    refine lv_topi (fun z_10 ez_10 => ?_)
    obtain rfl : z_10 = 1 := ez_10.trans (by first | rfl | decide +kernel)
    refine va_sld hx hb hX hbl hbA hS (by unfold vp_in; decide +kernel) dL_law_1350 ?_
    rw [← ez_2]
    refine lv_aload_n hx hb dL_law_1351 rfl (lv_at hl 3 rfl) ?_
    refine lv_iload_n hx hb dL_law_1352 rfl (lv_at hl 0 rfl) ?_
    refine lv_iconst (v := 2) hx hb dL_law_1353 (by decide) ?_
    refine lv_iadd hx hb dL_law_1354 ?_
    refine lv_topi (fun z_11 ez_11 => ?_)
    obtain rfl : z_11 = 2 := ez_11.trans (by first | rfl | decide +kernel)
    refine va_sld hx hb hX hbl hbA hS (by unfold vp_in; decide +kernel) dL_law_1355 ?_
    rw [← ez_4]
    refine lv_aload_n hx hb dL_law_1356 rfl (lv_at hl 3 rfl) ?_
    refine lv_iload_n hx hb dL_law_1357 rfl (lv_at hl 0 rfl) ?_
    refine lv_iconst (v := 3) hx hb dL_law_1358 (by decide) ?_
    refine lv_iadd hx hb dL_law_1359 ?_
    refine lv_topi (fun z_12 ez_12 => ?_)
    obtain rfl : z_12 = 3 := ez_12.trans (by first | rfl | decide +kernel)
    refine va_sld hx hb hX hbl hbA hS (by unfold vp_in; decide +kernel) dL_law_1360 ?_
    rw [← ez_6]
    refine lv_if_eq (tgt := 1368) hx hb dL_law_1361 (by decide) (fun c_13 => ?_) (fun c_13 => absurd c_7 c_13)
    refine lv_iconst (v := 0) hx hb dL_law_1368 (by decide) ?_
    refine xVwi (rq := 0) (ci := 9) (wc := [(m0, .inr (9, [.int 0, .int 0, .int 0, .int (-1), .ref (ma 4), .ref (ma 5), .ref (ma 6), .ref (ma 7), .ref (ma 8), .ref (ma 9), .ref (ma 10), .ref (ma 11), .ref (ma 12), .ref (ma 13), .ref (ma 14), .ref (ma 15), .ref (ma 16), .ref (ma 17), .ref (ma 18), .ref (ma 19), .int 0, .ref (ma 21), .ref (ma 22), .ref (ma 23), .ref (ma 24), .ref (ma 25), .ref (ma 26), .ref (ma 27), .ref (ma 28), .ref (ma 29), .ref (ma 30), .ref (ma 31), .ref (ma 32), .ref (ma 33), .ref (ma 34), .ref (ma 35), .ref (ma 36), .ref (ma 37), .int 0, .ref (ma 39), .ref (ma 40), .ref (ma 41), .ref (ma 42), .ref (ma 43), .ref (ma 44), .ref (ma 45), .ref (ma 46), .ref (ma 47), .ref (ma 48), .int 0, .int 0, .int 0, .int 0, .int 0, .int 0, .int 0, .long 0, .int 0, .long 0, .long 0, .long 0, .long 0, .int 0, .int 0, .int 0, .int 0, .long 0])), (ma 39, .inl (G.2 0, 6, .inl (fun _ => 0))), (ma 11, .inl (G.2 4, 96, .inr (.inl (fun _ => 0))))]) (wr := []) (As := [.int z_2, .int z_4, .int 0]) (rest := [.int (-1)]) C0 (c_X9_why l G m0 ma z_2 z_4 0) ok_X9_why (mW909 : Cond.methodLink RL 132 yX9_why ∈ wsT) ⟨Nat.le_of_ble_eq_true rfl, Nat.le_of_ble_eq_true rfl⟩ hP hD hS hA hK hN [0, 1, 2] [] rfl rfl (by decide) (by decide) (by decide) rfl rfl rfl rfl hl.1 rfl (Nat.le_of_ble_eq_true rfl) ⟨Nat.le_of_ble_eq_true rfl, Nat.le_of_ble_eq_true rfl⟩ dL_law_1369 (fun r_14 u_15 H locs hr_14 hP hD hS => ?_)
    have hP : va_P G.1 xcl [] H := hP
    have hD : va_D A [] := hD
    obtain rfl : r_14 = (-1) := hr_14
    refine lv_icmp_eq (tgt := 1789) hx hb dL_law_1372 (by decide) (fun c_16 => ?_) (fun c_16 => absurd c_16 (by decide +kernel))
    exact law_tail C0 hr hlocks hX hbl hbA hA2 hS ls (lv_sub hl [0, 3] rfl)
  · refine lv_iconst (v := 1) hx hb dL_law_1337 (by decide) ?_
    refine lv_goto (tgt := 1342) hx hb dL_law_1338 (by decide) ?_
    refine xVwi (rq := 0) (ci := 8) (wc := [(q0, .inr (8, [.ref qb, .ref qk, .ref qg, .ref qr, .int 0, .int 0])), (qr, .inl (G.2 0, 6, .inl (fun _ => 0))), (qb, .inr (0, [.ref (b 0), .ref (b 1), .ref (b 2), .ref (b 3), .ref (b 4), .int 0])), (b 3, .inl (G.2 5, 8, .inr (.inr (.inr (.inr pf))))), (b 16, .inr (4, [.ref (b 24), .ref (b 32), .int 0, .int 0, .int 0, .int 0, .int 0, .int 0, .long 0, .long 0, .long 0])), (b 17, .inr (4, [.ref (b 25), .ref (b 33), .int 0, .int 0, .int 0, .int 0, .int 0, .int 0, .long 0, .long 0, .long 0])), (b 18, .inr (4, [.ref (b 26), .ref (b 34), .int 0, .int 0, .int 0, .int 0, .int 0, .int 0, .long 0, .long 0, .long 0])), (b 19, .inr (4, [.ref (b 27), .ref (b 35), .int 0, .int 0, .int 0, .int 0, .int 0, .int 0, .long 0, .long 0, .long 0])), (b 20, .inr (4, [.ref (b 28), .ref (b 36), .int 0, .int 0, .int 0, .int 0, .int 0, .int 0, .long 0, .long 0, .long 0])), (b 21, .inr (4, [.ref (b 29), .ref (b 37), .int 0, .int 0, .int 0, .int 0, .int 0, .int 0, .long 0, .long 0, .long 0])), (b 22, .inr (4, [.ref (b 30), .ref (b 38), .int 0, .int 0, .int 0, .int 0, .int 0, .int 0, .long 0, .long 0, .long 0])), (b 23, .inr (4, [.ref (b 31), .ref (b 39), .int 0, .int 0, .int 0, .int 0, .int 0, .int 0, .long 0, .long 0, .long 0]))]) (wr := [(m0, .inr (9, [.int 0, .int 0, .int 0, .int (-1), .ref (ma 4), .ref (ma 5), .ref (ma 6), .ref (ma 7), .ref (ma 8), .ref (ma 9), .ref (ma 10), .ref (ma 11), .ref (ma 12), .ref (ma 13), .ref (ma 14), .ref (ma 15), .ref (ma 16), .ref (ma 17), .ref (ma 18), .ref (ma 19), .int 0, .ref (ma 21), .ref (ma 22), .ref (ma 23), .ref (ma 24), .ref (ma 25), .ref (ma 26), .ref (ma 27), .ref (ma 28), .ref (ma 29), .ref (ma 30), .ref (ma 31), .ref (ma 32), .ref (ma 33), .ref (ma 34), .ref (ma 35), .ref (ma 36), .ref (ma 37), .int 0, .ref (ma 39), .ref (ma 40), .ref (ma 41), .ref (ma 42), .ref (ma 43), .ref (ma 44), .ref (ma 45), .ref (ma 46), .ref (ma 47), .ref (ma 48), .int 0, .int 0, .int 0, .int 0, .int 0, .int 0, .int 0, .long 0, .int 0, .long 0, .long 0, .long 0, .long 0, .int 0, .int 0, .int 0, .int 0, .long 0])), (ma 39, .inl (G.2 0, 6, .inl (fun _ => 0))), (ma 11, .inl (G.2 4, 96, .inr (.inl (fun _ => 0))))]) (As := [.int z_2, .int z_4, .int 1]) (rest := []) C0 (c_X8_why l G q0 qb qk qg qr b pf z_2 z_4 1 hpf) ok_X8_why (mW905 : Cond.methodLink RL 129 yX8_why ∈ wsT) ⟨Nat.le_of_ble_eq_true rfl, Nat.le_of_ble_eq_true rfl⟩ hP hD hS hA hK hN [0, 1, 2, 3, 4, 5, 6, 7, 8, 9, 10, 11] [12, 13, 14] rfl rfl (by decide) (by decide) (by decide) rfl rfl rfl rfl hl.1 rfl (Nat.le_of_ble_eq_true rfl) ⟨Nat.le_of_ble_eq_true rfl, Nat.le_of_ble_eq_true rfl⟩ dL_law_1342 (fun r_17 u_18 H locs hr_17 hP hD hS => ?_)
    have hP : va_P G.1 xcl [(m0, .inr (9, [.int 0, .int 0, .int 0, .int (-1), .ref (ma 4), .ref (ma 5), .ref (ma 6), .ref (ma 7), .ref (ma 8), .ref (ma 9), .ref (ma 10), .ref (ma 11), .ref (ma 12), .ref (ma 13), .ref (ma 14), .ref (ma 15), .ref (ma 16), .ref (ma 17), .ref (ma 18), .ref (ma 19), .int 0, .ref (ma 21), .ref (ma 22), .ref (ma 23), .ref (ma 24), .ref (ma 25), .ref (ma 26), .ref (ma 27), .ref (ma 28), .ref (ma 29), .ref (ma 30), .ref (ma 31), .ref (ma 32), .ref (ma 33), .ref (ma 34), .ref (ma 35), .ref (ma 36), .ref (ma 37), .int 0, .ref (ma 39), .ref (ma 40), .ref (ma 41), .ref (ma 42), .ref (ma 43), .ref (ma 44), .ref (ma 45), .ref (ma 46), .ref (ma 47), .ref (ma 48), .int 0, .int 0, .int 0, .int 0, .int 0, .int 0, .int 0, .long 0, .int 0, .long 0, .long 0, .long 0, .long 0, .int 0, .int 0, .int 0, .int 0, .long 0])), (ma 39, .inl (G.2 0, 6, .inl (fun _ => 0))), (ma 11, .inl (G.2 4, 96, .inr (.inl (fun _ => 0))))] H := hP
    have hD : va_D A [(m0, .inr (9, [.int 0, .int 0, .int 0, .int (-1), .ref (ma 4), .ref (ma 5), .ref (ma 6), .ref (ma 7), .ref (ma 8), .ref (ma 9), .ref (ma 10), .ref (ma 11), .ref (ma 12), .ref (ma 13), .ref (ma 14), .ref (ma 15), .ref (ma 16), .ref (ma 17), .ref (ma 18), .ref (ma 19), .int 0, .ref (ma 21), .ref (ma 22), .ref (ma 23), .ref (ma 24), .ref (ma 25), .ref (ma 26), .ref (ma 27), .ref (ma 28), .ref (ma 29), .ref (ma 30), .ref (ma 31), .ref (ma 32), .ref (ma 33), .ref (ma 34), .ref (ma 35), .ref (ma 36), .ref (ma 37), .int 0, .ref (ma 39), .ref (ma 40), .ref (ma 41), .ref (ma 42), .ref (ma 43), .ref (ma 44), .ref (ma 45), .ref (ma 46), .ref (ma 47), .ref (ma 48), .int 0, .int 0, .int 0, .int 0, .int 0, .int 0, .int 0, .long 0, .int 0, .long 0, .long 0, .long 0, .long 0, .int 0, .int 0, .int 0, .int 0, .long 0])), (ma 39, .inl (G.2 0, 6, .inl (fun _ => 0))), (ma 11, .inl (G.2 4, 96, .inr (.inl (fun _ => 0))))] := hD
    obtain rfl : r_17 = (-1) := hr_17
    refine lv_aload_n hx hb dL_law_1345 rfl (lv_at hl 1 rfl) ?_
    refine lv_aload_n hx hb dL_law_1346 rfl (lv_at hl 3 rfl) ?_
    refine lv_iload_n hx hb dL_law_1347 rfl (lv_at hl 0 rfl) ?_
    refine lv_iconst (v := 1) hx hb dL_law_1348 (by decide) ?_
    refine lv_iadd hx hb dL_law_1349 ?_
    refine lv_topi (fun z_19 ez_19 => ?_)
    obtain rfl : z_19 = 1 := ez_19.trans (by first | rfl | decide +kernel)
    refine va_sld hx hb hX hbl hbA hS (by unfold vp_in; decide +kernel) dL_law_1350 ?_
    rw [← ez_2]
    refine lv_aload_n hx hb dL_law_1351 rfl (lv_at hl 3 rfl) ?_
    refine lv_iload_n hx hb dL_law_1352 rfl (lv_at hl 0 rfl) ?_
    refine lv_iconst (v := 2) hx hb dL_law_1353 (by decide) ?_
    refine lv_iadd hx hb dL_law_1354 ?_
    refine lv_topi (fun z_20 ez_20 => ?_)
    obtain rfl : z_20 = 2 := ez_20.trans (by first | rfl | decide +kernel)
    refine va_sld hx hb hX hbl hbA hS (by unfold vp_in; decide +kernel) dL_law_1355 ?_
    rw [← ez_4]
    refine lv_aload_n hx hb dL_law_1356 rfl (lv_at hl 3 rfl) ?_
    refine lv_iload_n hx hb dL_law_1357 rfl (lv_at hl 0 rfl) ?_
    refine lv_iconst (v := 3) hx hb dL_law_1358 (by decide) ?_
    refine lv_iadd hx hb dL_law_1359 ?_
    refine lv_topi (fun z_21 ez_21 => ?_)
    obtain rfl : z_21 = 3 := ez_21.trans (by first | rfl | decide +kernel)
    refine va_sld hx hb hX hbl hbA hS (by unfold vp_in; decide +kernel) dL_law_1360 ?_
    rw [← ez_6]
    refine lv_if_eq (tgt := 1368) hx hb dL_law_1361 (by decide) (fun c_22 => absurd c_22 c_7) (fun c_22 => ?_)
    refine lv_iconst (v := 1) hx hb dL_law_1364 (by decide) ?_
    refine lv_goto (tgt := 1369) hx hb dL_law_1365 (by decide) ?_
    refine xVwi (rq := 0) (ci := 9) (wc := [(m0, .inr (9, [.int 0, .int 0, .int 0, .int (-1), .ref (ma 4), .ref (ma 5), .ref (ma 6), .ref (ma 7), .ref (ma 8), .ref (ma 9), .ref (ma 10), .ref (ma 11), .ref (ma 12), .ref (ma 13), .ref (ma 14), .ref (ma 15), .ref (ma 16), .ref (ma 17), .ref (ma 18), .ref (ma 19), .int 0, .ref (ma 21), .ref (ma 22), .ref (ma 23), .ref (ma 24), .ref (ma 25), .ref (ma 26), .ref (ma 27), .ref (ma 28), .ref (ma 29), .ref (ma 30), .ref (ma 31), .ref (ma 32), .ref (ma 33), .ref (ma 34), .ref (ma 35), .ref (ma 36), .ref (ma 37), .int 0, .ref (ma 39), .ref (ma 40), .ref (ma 41), .ref (ma 42), .ref (ma 43), .ref (ma 44), .ref (ma 45), .ref (ma 46), .ref (ma 47), .ref (ma 48), .int 0, .int 0, .int 0, .int 0, .int 0, .int 0, .int 0, .long 0, .int 0, .long 0, .long 0, .long 0, .long 0, .int 0, .int 0, .int 0, .int 0, .long 0])), (ma 39, .inl (G.2 0, 6, .inl (fun _ => 0))), (ma 11, .inl (G.2 4, 96, .inr (.inl (fun _ => 0))))]) (wr := []) (As := [.int z_2, .int z_4, .int 1]) (rest := [.int (-1)]) C0 (c_X9_why l G m0 ma z_2 z_4 1) ok_X9_why (mW909 : Cond.methodLink RL 132 yX9_why ∈ wsT) ⟨Nat.le_of_ble_eq_true rfl, Nat.le_of_ble_eq_true rfl⟩ hP hD hS hA hK hN [0, 1, 2] [] rfl rfl (by decide) (by decide) (by decide) rfl rfl rfl rfl hl.1 rfl (Nat.le_of_ble_eq_true rfl) ⟨Nat.le_of_ble_eq_true rfl, Nat.le_of_ble_eq_true rfl⟩ dL_law_1369 (fun r_23 u_24 H locs hr_23 hP hD hS => ?_)
    have hP : va_P G.1 xcl [] H := hP
    have hD : va_D A [] := hD
    obtain rfl : r_23 = (-1) := hr_23
    refine lv_icmp_eq (tgt := 1789) hx hb dL_law_1372 (by decide) (fun c_25 => ?_) (fun c_25 => absurd c_25 (by decide +kernel))
    exact law_tail C0 hr hlocks hX hbl hbA hA2 hS ls (lv_sub hl [0, 3] rfl)
theorem dL_law_1377 : decode cL_law 1377 = .ok (.aload_n 1, 1) := by decide +kernel
theorem dL_law_1378 : decode cL_law 1378 = .ok (.aload_n 0, 1) := by decide +kernel
theorem dL_law_1379 : decode cL_law 1379 = .ok (.iload_n 3, 1) := by decide +kernel
theorem dL_law_1380 : decode cL_law 1380 = .ok (.iconst 1, 1) := by decide +kernel
theorem dL_law_1381 : decode cL_law 1381 = .ok (.iadd, 1) := by decide +kernel
theorem dL_law_1382 : decode cL_law 1382 = .ok (.iaload, 1) := by decide +kernel
theorem dL_law_1383 : decode cL_law 1383 = .ok (.aload_n 0, 1) := by decide +kernel
theorem dL_law_1384 : decode cL_law 1384 = .ok (.iload_n 3, 1) := by decide +kernel
theorem dL_law_1385 : decode cL_law 1385 = .ok (.iconst 2, 1) := by decide +kernel
theorem dL_law_1386 : decode cL_law 1386 = .ok (.iadd, 1) := by decide +kernel
theorem dL_law_1387 : decode cL_law 1387 = .ok (.iaload, 1) := by decide +kernel
theorem dL_law_1388 : decode cL_law 1388 = .ok (.aload_n 0, 1) := by decide +kernel
theorem dL_law_1389 : decode cL_law 1389 = .ok (.iload_n 3, 1) := by decide +kernel
theorem dL_law_1390 : decode cL_law 1390 = .ok (.iconst 3, 1) := by decide +kernel
theorem dL_law_1391 : decode cL_law 1391 = .ok (.iadd, 1) := by decide +kernel
theorem dL_law_1392 : decode cL_law 1392 = .ok (.iaload, 1) := by decide +kernel
theorem dL_law_1393 : decode cL_law 1393 = .ok (.aload_n 0, 1) := by decide +kernel
theorem dL_law_1394 : decode cL_law 1394 = .ok (.iload_n 3, 1) := by decide +kernel
theorem dL_law_1395 : decode cL_law 1395 = .ok (.iconst 4, 1) := by decide +kernel
theorem dL_law_1396 : decode cL_law 1396 = .ok (.iadd, 1) := by decide +kernel
theorem dL_law_1397 : decode cL_law 1397 = .ok (.iaload, 1) := by decide +kernel
theorem dL_law_1398 : decode cL_law 1398 = .ok (.ifCond .eq 7, 3) := by decide +kernel
theorem dL_law_1401 : decode cL_law 1401 = .ok (.iconst 1, 1) := by decide +kernel
theorem dL_law_1402 : decode cL_law 1402 = .ok (.goto 4, 3) := by decide +kernel
theorem dL_law_1405 : decode cL_law 1405 = .ok (.iconst 0, 1) := by decide +kernel
theorem dL_law_1406 : decode cL_law 1406 = .ok (.invokevirtual 133, 3) := by decide +kernel
theorem dL_law_1409 : decode cL_law 1409 = .ok (.aload_n 2, 1) := by decide +kernel
theorem dL_law_1410 : decode cL_law 1410 = .ok (.aload_n 0, 1) := by decide +kernel
theorem dL_law_1411 : decode cL_law 1411 = .ok (.iload_n 3, 1) := by decide +kernel
theorem dL_law_1412 : decode cL_law 1412 = .ok (.iconst 1, 1) := by decide +kernel
theorem dL_law_1413 : decode cL_law 1413 = .ok (.iadd, 1) := by decide +kernel
theorem dL_law_1414 : decode cL_law 1414 = .ok (.iaload, 1) := by decide +kernel
theorem dL_law_1415 : decode cL_law 1415 = .ok (.aload_n 0, 1) := by decide +kernel
theorem dL_law_1416 : decode cL_law 1416 = .ok (.iload_n 3, 1) := by decide +kernel
theorem dL_law_1417 : decode cL_law 1417 = .ok (.iconst 2, 1) := by decide +kernel
theorem dL_law_1418 : decode cL_law 1418 = .ok (.iadd, 1) := by decide +kernel
theorem dL_law_1419 : decode cL_law 1419 = .ok (.iaload, 1) := by decide +kernel
theorem dL_law_1420 : decode cL_law 1420 = .ok (.aload_n 0, 1) := by decide +kernel
theorem dL_law_1421 : decode cL_law 1421 = .ok (.iload_n 3, 1) := by decide +kernel
theorem dL_law_1422 : decode cL_law 1422 = .ok (.iconst 3, 1) := by decide +kernel
theorem dL_law_1423 : decode cL_law 1423 = .ok (.iadd, 1) := by decide +kernel
theorem dL_law_1424 : decode cL_law 1424 = .ok (.iaload, 1) := by decide +kernel
theorem dL_law_1425 : decode cL_law 1425 = .ok (.aload_n 0, 1) := by decide +kernel
theorem dL_law_1426 : decode cL_law 1426 = .ok (.iload_n 3, 1) := by decide +kernel
theorem dL_law_1427 : decode cL_law 1427 = .ok (.iconst 4, 1) := by decide +kernel
theorem dL_law_1428 : decode cL_law 1428 = .ok (.iadd, 1) := by decide +kernel
theorem dL_law_1429 : decode cL_law 1429 = .ok (.iaload, 1) := by decide +kernel
theorem dL_law_1430 : decode cL_law 1430 = .ok (.ifCond .eq 7, 3) := by decide +kernel
theorem dL_law_1433 : decode cL_law 1433 = .ok (.iconst 1, 1) := by decide +kernel
theorem dL_law_1434 : decode cL_law 1434 = .ok (.goto 4, 3) := by decide +kernel
theorem dL_law_1437 : decode cL_law 1437 = .ok (.iconst 0, 1) := by decide +kernel
theorem dL_law_1438 : decode cL_law 1438 = .ok (.invokevirtual 137, 3) := by decide +kernel
theorem dL_law_1441 : decode cL_law 1441 = .ok (.if_icmp .eq 348, 3) := by decide +kernel
set_option maxHeartbeats 4000000 in
set_option maxRecDepth 100000 in
/-- case 26: counts -/
theorem law_26 {q0 : Nat} {qb : Nat} {qk : Nat} {qg : Nat} {qr : Nat} {b : Nat → Nat} {pf : Nat → Option Nat} {kf : Nat → Int32} {b2 : Nat → Nat} {pf2 : Nat → Option Nat} {kf2 : Nat → Int32} {m0 : Nat} {ma : Nat → Nat} {p : Program} {l : Launch} {e : Env} {s : State} {m : MethodId} {below : List Frame} {meth : Method} {c : Code} {G : xG} {sc : Nat} {xs : Nat → Int32} {A : Nat → Prop} (C0 : CallFix p m c code 4 s #[Value.ref sc] wsT RL) (hr : meth.sig.returnType = ret) (hlocks : meth.locks = false) (hK : va_K G.1 xcl (xty G) s) (hN : xN s) (hX : va_X sc 7 xs s s.heap) (hbl : sc < s.heap.size) (hbA : ¬ A sc) (hA : ∀ q : Nat, s.heap.size ≤ q → A q) (hA2 : ∀ q, A q → s.heap.size ≤ q) (hpf : ∀ k, k < 8 → pf k = some (b (16 + k))) (hpf2 : ∀ k, k < 8 → pf2 k = some (b2 (16 + k))) {H : Heap} {locs : List Loc} {ls : Array Slot} (hP : va_P G.1 xcl [(q0, .inr (8, [.ref qb, .ref qk, .ref qg, .ref qr, .int 0, .int 0])), (qr, .inl (G.2 0, 6, .inl (fun _ => 0))), (qb, .inr (0, [.ref (b 0), .ref (b 1), .ref (b 2), .ref (b 3), .ref (b 4), .int 0])), (b 3, .inl (G.2 5, 8, .inr (.inr (.inr (.inr pf))))), (b 16, .inr (4, [.ref (b 24), .ref (b 32), .int 0, .int 0, .int 0, .int 0, .int 0, .int 0, .long 0, .long 0, .long 0])), (b 17, .inr (4, [.ref (b 25), .ref (b 33), .int 0, .int 0, .int 0, .int 0, .int 0, .int 0, .long 0, .long 0, .long 0])), (b 18, .inr (4, [.ref (b 26), .ref (b 34), .int 0, .int 0, .int 0, .int 0, .int 0, .int 0, .long 0, .long 0, .long 0])), (b 19, .inr (4, [.ref (b 27), .ref (b 35), .int 0, .int 0, .int 0, .int 0, .int 0, .int 0, .long 0, .long 0, .long 0])), (b 20, .inr (4, [.ref (b 28), .ref (b 36), .int 0, .int 0, .int 0, .int 0, .int 0, .int 0, .long 0, .long 0, .long 0])), (b 21, .inr (4, [.ref (b 29), .ref (b 37), .int 0, .int 0, .int 0, .int 0, .int 0, .int 0, .long 0, .long 0, .long 0])), (b 22, .inr (4, [.ref (b 30), .ref (b 38), .int 0, .int 0, .int 0, .int 0, .int 0, .int 0, .long 0, .long 0, .long 0])), (b 23, .inr (4, [.ref (b 31), .ref (b 39), .int 0, .int 0, .int 0, .int 0, .int 0, .int 0, .long 0, .long 0, .long 0])), (m0, .inr (9, [.int 0, .int 0, .int 0, .int (-1), .ref (ma 4), .ref (ma 5), .ref (ma 6), .ref (ma 7), .ref (ma 8), .ref (ma 9), .ref (ma 10), .ref (ma 11), .ref (ma 12), .ref (ma 13), .ref (ma 14), .ref (ma 15), .ref (ma 16), .ref (ma 17), .ref (ma 18), .ref (ma 19), .int 0, .ref (ma 21), .ref (ma 22), .ref (ma 23), .ref (ma 24), .ref (ma 25), .ref (ma 26), .ref (ma 27), .ref (ma 28), .ref (ma 29), .ref (ma 30), .ref (ma 31), .ref (ma 32), .ref (ma 33), .ref (ma 34), .ref (ma 35), .ref (ma 36), .ref (ma 37), .int 0, .ref (ma 39), .ref (ma 40), .ref (ma 41), .ref (ma 42), .ref (ma 43), .ref (ma 44), .ref (ma 45), .ref (ma 46), .ref (ma 47), .ref (ma 48), .int 0, .int 0, .int 0, .int 0, .int 0, .int 0, .int 0, .long 0, .int 0, .long 0, .long 0, .long 0, .long 0, .int 0, .int 0, .int 0, .int 0, .long 0])), (ma 39, .inl (G.2 0, 6, .inl (fun _ => 0))), (ma 11, .inl (G.2 4, 96, .inr (.inl (fun _ => 0))))] H) (hD : va_D A [(q0, .inr (8, [.ref qb, .ref qk, .ref qg, .ref qr, .int 0, .int 0])), (qr, .inl (G.2 0, 6, .inl (fun _ => 0))), (qb, .inr (0, [.ref (b 0), .ref (b 1), .ref (b 2), .ref (b 3), .ref (b 4), .int 0])), (b 3, .inl (G.2 5, 8, .inr (.inr (.inr (.inr pf))))), (b 16, .inr (4, [.ref (b 24), .ref (b 32), .int 0, .int 0, .int 0, .int 0, .int 0, .int 0, .long 0, .long 0, .long 0])), (b 17, .inr (4, [.ref (b 25), .ref (b 33), .int 0, .int 0, .int 0, .int 0, .int 0, .int 0, .long 0, .long 0, .long 0])), (b 18, .inr (4, [.ref (b 26), .ref (b 34), .int 0, .int 0, .int 0, .int 0, .int 0, .int 0, .long 0, .long 0, .long 0])), (b 19, .inr (4, [.ref (b 27), .ref (b 35), .int 0, .int 0, .int 0, .int 0, .int 0, .int 0, .long 0, .long 0, .long 0])), (b 20, .inr (4, [.ref (b 28), .ref (b 36), .int 0, .int 0, .int 0, .int 0, .int 0, .int 0, .long 0, .long 0, .long 0])), (b 21, .inr (4, [.ref (b 29), .ref (b 37), .int 0, .int 0, .int 0, .int 0, .int 0, .int 0, .long 0, .long 0, .long 0])), (b 22, .inr (4, [.ref (b 30), .ref (b 38), .int 0, .int 0, .int 0, .int 0, .int 0, .int 0, .long 0, .long 0, .long 0])), (b 23, .inr (4, [.ref (b 31), .ref (b 39), .int 0, .int 0, .int 0, .int 0, .int 0, .int 0, .long 0, .long 0, .long 0])), (m0, .inr (9, [.int 0, .int 0, .int 0, .int (-1), .ref (ma 4), .ref (ma 5), .ref (ma 6), .ref (ma 7), .ref (ma 8), .ref (ma 9), .ref (ma 10), .ref (ma 11), .ref (ma 12), .ref (ma 13), .ref (ma 14), .ref (ma 15), .ref (ma 16), .ref (ma 17), .ref (ma 18), .ref (ma 19), .int 0, .ref (ma 21), .ref (ma 22), .ref (ma 23), .ref (ma 24), .ref (ma 25), .ref (ma 26), .ref (ma 27), .ref (ma 28), .ref (ma 29), .ref (ma 30), .ref (ma 31), .ref (ma 32), .ref (ma 33), .ref (ma 34), .ref (ma 35), .ref (ma 36), .ref (ma 37), .int 0, .ref (ma 39), .ref (ma 40), .ref (ma 41), .ref (ma 42), .ref (ma 43), .ref (ma 44), .ref (ma 45), .ref (ma 46), .ref (ma 47), .ref (ma 48), .int 0, .int 0, .int 0, .int 0, .int 0, .int 0, .int 0, .long 0, .int 0, .long 0, .long 0, .long 0, .long 0, .int 0, .int 0, .int 0, .int 0, .long 0])), (ma 39, .inl (G.2 0, 6, .inl (fun _ => 0))), (ma 11, .inl (G.2 4, 96, .inr (.inl (fun _ => 0))))]) (hS : va_S A s.heap H locs) (hl : lv_has ls 4 [(3, .int 0), (2, .ref m0), (1, .ref q0), (0, .ref sc)]) : W p l e room_1 s m #[Value.ref sc] below meth c H locs 169 136076 (lw_Z below #[Value.ref sc] s) (F0 m 1377 ls []) := by
  obtain ⟨hx, hb, hml, hown, htl⟩ := id C0
  refine lv_aload_n hx hb dL_law_1377 rfl (lv_at hl 2 rfl) ?_
  refine lv_aload_n hx hb dL_law_1378 rfl (lv_at hl 3 rfl) ?_
  refine lv_iload_n hx hb dL_law_1379 rfl (lv_at hl 0 rfl) ?_
  refine lv_iconst (v := 1) hx hb dL_law_1380 (by decide) ?_
  refine lv_iadd hx hb dL_law_1381 ?_
  refine lv_topi (fun z_1 ez_1 => ?_)
  obtain rfl : z_1 = 1 := ez_1.trans (by first | rfl | decide +kernel)
  refine va_sld hx hb hX hbl hbA hS (by unfold vp_in; decide +kernel) dL_law_1382 ?_
  refine lv_topi (fun z_2 ez_2 => ?_)
  refine lv_aload_n hx hb dL_law_1383 rfl (lv_at hl 3 rfl) ?_
  refine lv_iload_n hx hb dL_law_1384 rfl (lv_at hl 0 rfl) ?_
  refine lv_iconst (v := 2) hx hb dL_law_1385 (by decide) ?_
  refine lv_iadd hx hb dL_law_1386 ?_
  refine lv_topi (fun z_3 ez_3 => ?_)
  obtain rfl : z_3 = 2 := ez_3.trans (by first | rfl | decide +kernel)
  refine va_sld hx hb hX hbl hbA hS (by unfold vp_in; decide +kernel) dL_law_1387 ?_
  refine lv_topi (fun z_4 ez_4 => ?_)
  refine lv_aload_n hx hb dL_law_1388 rfl (lv_at hl 3 rfl) ?_
  refine lv_iload_n hx hb dL_law_1389 rfl (lv_at hl 0 rfl) ?_
  refine lv_iconst (v := 3) hx hb dL_law_1390 (by decide) ?_
  refine lv_iadd hx hb dL_law_1391 ?_
  refine lv_topi (fun z_5 ez_5 => ?_)
  obtain rfl : z_5 = 3 := ez_5.trans (by first | rfl | decide +kernel)
  refine va_sld hx hb hX hbl hbA hS (by unfold vp_in; decide +kernel) dL_law_1392 ?_
  refine lv_topi (fun z_6 ez_6 => ?_)
  refine lv_aload_n hx hb dL_law_1393 rfl (lv_at hl 3 rfl) ?_
  refine lv_iload_n hx hb dL_law_1394 rfl (lv_at hl 0 rfl) ?_
  refine lv_iconst (v := 4) hx hb dL_law_1395 (by decide) ?_
  refine lv_iadd hx hb dL_law_1396 ?_
  refine lv_topi (fun z_7 ez_7 => ?_)
  obtain rfl : z_7 = 4 := ez_7.trans (by first | rfl | decide +kernel)
  refine va_sld hx hb hX hbl hbA hS (by unfold vp_in; decide +kernel) dL_law_1397 ?_
  refine lv_topi (fun z_8 ez_8 => ?_)
  refine lv_if_eq (tgt := 1405) hx hb dL_law_1398 (by decide) (fun c_9 => ?_) (fun c_9 => ?_)
  · refine lv_iconst (v := 0) hx hb dL_law_1405 (by decide) ?_
    refine xVwi (rq := 0) (ci := 8) (wc := [(q0, .inr (8, [.ref qb, .ref qk, .ref qg, .ref qr, .int 0, .int 0])), (qr, .inl (G.2 0, 6, .inl (fun _ => 0))), (qb, .inr (0, [.ref (b 0), .ref (b 1), .ref (b 2), .ref (b 3), .ref (b 4), .int 0])), (b 3, .inl (G.2 5, 8, .inr (.inr (.inr (.inr pf))))), (b 16, .inr (4, [.ref (b 24), .ref (b 32), .int 0, .int 0, .int 0, .int 0, .int 0, .int 0, .long 0, .long 0, .long 0])), (b 17, .inr (4, [.ref (b 25), .ref (b 33), .int 0, .int 0, .int 0, .int 0, .int 0, .int 0, .long 0, .long 0, .long 0])), (b 18, .inr (4, [.ref (b 26), .ref (b 34), .int 0, .int 0, .int 0, .int 0, .int 0, .int 0, .long 0, .long 0, .long 0])), (b 19, .inr (4, [.ref (b 27), .ref (b 35), .int 0, .int 0, .int 0, .int 0, .int 0, .int 0, .long 0, .long 0, .long 0])), (b 20, .inr (4, [.ref (b 28), .ref (b 36), .int 0, .int 0, .int 0, .int 0, .int 0, .int 0, .long 0, .long 0, .long 0])), (b 21, .inr (4, [.ref (b 29), .ref (b 37), .int 0, .int 0, .int 0, .int 0, .int 0, .int 0, .long 0, .long 0, .long 0])), (b 22, .inr (4, [.ref (b 30), .ref (b 38), .int 0, .int 0, .int 0, .int 0, .int 0, .int 0, .long 0, .long 0, .long 0])), (b 23, .inr (4, [.ref (b 31), .ref (b 39), .int 0, .int 0, .int 0, .int 0, .int 0, .int 0, .long 0, .long 0, .long 0]))]) (wr := [(m0, .inr (9, [.int 0, .int 0, .int 0, .int (-1), .ref (ma 4), .ref (ma 5), .ref (ma 6), .ref (ma 7), .ref (ma 8), .ref (ma 9), .ref (ma 10), .ref (ma 11), .ref (ma 12), .ref (ma 13), .ref (ma 14), .ref (ma 15), .ref (ma 16), .ref (ma 17), .ref (ma 18), .ref (ma 19), .int 0, .ref (ma 21), .ref (ma 22), .ref (ma 23), .ref (ma 24), .ref (ma 25), .ref (ma 26), .ref (ma 27), .ref (ma 28), .ref (ma 29), .ref (ma 30), .ref (ma 31), .ref (ma 32), .ref (ma 33), .ref (ma 34), .ref (ma 35), .ref (ma 36), .ref (ma 37), .int 0, .ref (ma 39), .ref (ma 40), .ref (ma 41), .ref (ma 42), .ref (ma 43), .ref (ma 44), .ref (ma 45), .ref (ma 46), .ref (ma 47), .ref (ma 48), .int 0, .int 0, .int 0, .int 0, .int 0, .int 0, .int 0, .long 0, .int 0, .long 0, .long 0, .long 0, .long 0, .int 0, .int 0, .int 0, .int 0, .long 0])), (ma 39, .inl (G.2 0, 6, .inl (fun _ => 0))), (ma 11, .inl (G.2 4, 96, .inr (.inl (fun _ => 0))))]) (As := [.int z_2, .int z_4, .int z_6, .int 0]) (rest := []) C0 (c_X8_counts l G q0 qb qk qg qr b pf z_2 z_4 z_6 0 hpf) ok_X8_counts (mW913 : Cond.methodLink RL 133 yX8_counts ∈ wsT) ⟨Nat.le_of_ble_eq_true rfl, Nat.le_of_ble_eq_true rfl⟩ hP hD hS hA hK hN [0, 1, 2, 3, 4, 5, 6, 7, 8, 9, 10, 11] [12, 13, 14] rfl rfl (by decide) (by decide) (by decide) rfl rfl rfl rfl hl.1 rfl (Nat.le_of_ble_eq_true rfl) ⟨Nat.le_of_ble_eq_true rfl, Nat.le_of_ble_eq_true rfl⟩ dL_law_1406 (fun r_10 u_11 H locs hr_10 hP hD hS => ?_)
    have hP : va_P G.1 xcl [(m0, .inr (9, [.int 0, .int 0, .int 0, .int (-1), .ref (ma 4), .ref (ma 5), .ref (ma 6), .ref (ma 7), .ref (ma 8), .ref (ma 9), .ref (ma 10), .ref (ma 11), .ref (ma 12), .ref (ma 13), .ref (ma 14), .ref (ma 15), .ref (ma 16), .ref (ma 17), .ref (ma 18), .ref (ma 19), .int 0, .ref (ma 21), .ref (ma 22), .ref (ma 23), .ref (ma 24), .ref (ma 25), .ref (ma 26), .ref (ma 27), .ref (ma 28), .ref (ma 29), .ref (ma 30), .ref (ma 31), .ref (ma 32), .ref (ma 33), .ref (ma 34), .ref (ma 35), .ref (ma 36), .ref (ma 37), .int 0, .ref (ma 39), .ref (ma 40), .ref (ma 41), .ref (ma 42), .ref (ma 43), .ref (ma 44), .ref (ma 45), .ref (ma 46), .ref (ma 47), .ref (ma 48), .int 0, .int 0, .int 0, .int 0, .int 0, .int 0, .int 0, .long 0, .int 0, .long 0, .long 0, .long 0, .long 0, .int 0, .int 0, .int 0, .int 0, .long 0])), (ma 39, .inl (G.2 0, 6, .inl (fun _ => 0))), (ma 11, .inl (G.2 4, 96, .inr (.inl (fun _ => 0))))] H := hP
    have hD : va_D A [(m0, .inr (9, [.int 0, .int 0, .int 0, .int (-1), .ref (ma 4), .ref (ma 5), .ref (ma 6), .ref (ma 7), .ref (ma 8), .ref (ma 9), .ref (ma 10), .ref (ma 11), .ref (ma 12), .ref (ma 13), .ref (ma 14), .ref (ma 15), .ref (ma 16), .ref (ma 17), .ref (ma 18), .ref (ma 19), .int 0, .ref (ma 21), .ref (ma 22), .ref (ma 23), .ref (ma 24), .ref (ma 25), .ref (ma 26), .ref (ma 27), .ref (ma 28), .ref (ma 29), .ref (ma 30), .ref (ma 31), .ref (ma 32), .ref (ma 33), .ref (ma 34), .ref (ma 35), .ref (ma 36), .ref (ma 37), .int 0, .ref (ma 39), .ref (ma 40), .ref (ma 41), .ref (ma 42), .ref (ma 43), .ref (ma 44), .ref (ma 45), .ref (ma 46), .ref (ma 47), .ref (ma 48), .int 0, .int 0, .int 0, .int 0, .int 0, .int 0, .int 0, .long 0, .int 0, .long 0, .long 0, .long 0, .long 0, .int 0, .int 0, .int 0, .int 0, .long 0])), (ma 39, .inl (G.2 0, 6, .inl (fun _ => 0))), (ma 11, .inl (G.2 4, 96, .inr (.inl (fun _ => 0))))] := hD
    obtain rfl : r_10 = (-1) := hr_10
    refine lv_aload_n hx hb dL_law_1409 rfl (lv_at hl 1 rfl) ?_
    refine lv_aload_n hx hb dL_law_1410 rfl (lv_at hl 3 rfl) ?_
    refine lv_iload_n hx hb dL_law_1411 rfl (lv_at hl 0 rfl) ?_
    refine lv_iconst (v := 1) hx hb dL_law_1412 (by decide) ?_
    refine lv_iadd hx hb dL_law_1413 ?_
    refine lv_topi (fun z_12 ez_12 => ?_)
    obtain rfl : z_12 = 1 := ez_12.trans (by first | rfl | decide +kernel)
    refine va_sld hx hb hX hbl hbA hS (by unfold vp_in; decide +kernel) dL_law_1414 ?_
    rw [← ez_2]
    refine lv_aload_n hx hb dL_law_1415 rfl (lv_at hl 3 rfl) ?_
    refine lv_iload_n hx hb dL_law_1416 rfl (lv_at hl 0 rfl) ?_
    refine lv_iconst (v := 2) hx hb dL_law_1417 (by decide) ?_
    refine lv_iadd hx hb dL_law_1418 ?_
    refine lv_topi (fun z_13 ez_13 => ?_)
    obtain rfl : z_13 = 2 := ez_13.trans (by first | rfl | decide +kernel)
    refine va_sld hx hb hX hbl hbA hS (by unfold vp_in; decide +kernel) dL_law_1419 ?_
    rw [← ez_4]
    refine lv_aload_n hx hb dL_law_1420 rfl (lv_at hl 3 rfl) ?_
    refine lv_iload_n hx hb dL_law_1421 rfl (lv_at hl 0 rfl) ?_
    refine lv_iconst (v := 3) hx hb dL_law_1422 (by decide) ?_
    refine lv_iadd hx hb dL_law_1423 ?_
    refine lv_topi (fun z_14 ez_14 => ?_)
    obtain rfl : z_14 = 3 := ez_14.trans (by first | rfl | decide +kernel)
    refine va_sld hx hb hX hbl hbA hS (by unfold vp_in; decide +kernel) dL_law_1424 ?_
    rw [← ez_6]
    refine lv_aload_n hx hb dL_law_1425 rfl (lv_at hl 3 rfl) ?_
    refine lv_iload_n hx hb dL_law_1426 rfl (lv_at hl 0 rfl) ?_
    refine lv_iconst (v := 4) hx hb dL_law_1427 (by decide) ?_
    refine lv_iadd hx hb dL_law_1428 ?_
    refine lv_topi (fun z_15 ez_15 => ?_)
    obtain rfl : z_15 = 4 := ez_15.trans (by first | rfl | decide +kernel)
    refine va_sld hx hb hX hbl hbA hS (by unfold vp_in; decide +kernel) dL_law_1429 ?_
    rw [← ez_8]
    refine lv_if_eq (tgt := 1437) hx hb dL_law_1430 (by decide) (fun c_16 => ?_) (fun c_16 => absurd c_9 c_16)
    refine lv_iconst (v := 0) hx hb dL_law_1437 (by decide) ?_
    refine xVwi (rq := 0) (ci := 9) (wc := [(m0, .inr (9, [.int 0, .int 0, .int 0, .int (-1), .ref (ma 4), .ref (ma 5), .ref (ma 6), .ref (ma 7), .ref (ma 8), .ref (ma 9), .ref (ma 10), .ref (ma 11), .ref (ma 12), .ref (ma 13), .ref (ma 14), .ref (ma 15), .ref (ma 16), .ref (ma 17), .ref (ma 18), .ref (ma 19), .int 0, .ref (ma 21), .ref (ma 22), .ref (ma 23), .ref (ma 24), .ref (ma 25), .ref (ma 26), .ref (ma 27), .ref (ma 28), .ref (ma 29), .ref (ma 30), .ref (ma 31), .ref (ma 32), .ref (ma 33), .ref (ma 34), .ref (ma 35), .ref (ma 36), .ref (ma 37), .int 0, .ref (ma 39), .ref (ma 40), .ref (ma 41), .ref (ma 42), .ref (ma 43), .ref (ma 44), .ref (ma 45), .ref (ma 46), .ref (ma 47), .ref (ma 48), .int 0, .int 0, .int 0, .int 0, .int 0, .int 0, .int 0, .long 0, .int 0, .long 0, .long 0, .long 0, .long 0, .int 0, .int 0, .int 0, .int 0, .long 0])), (ma 39, .inl (G.2 0, 6, .inl (fun _ => 0))), (ma 11, .inl (G.2 4, 96, .inr (.inl (fun _ => 0))))]) (wr := []) (As := [.int z_2, .int z_4, .int z_6, .int 0]) (rest := [.int (-1)]) C0 (c_X9_counts l G m0 ma z_2 z_4 z_6 0) ok_X9_counts (mW922 : Cond.methodLink RL 137 yX9_counts ∈ wsT) ⟨Nat.le_of_ble_eq_true rfl, Nat.le_of_ble_eq_true rfl⟩ hP hD hS hA hK hN [0, 1, 2] [] rfl rfl (by decide) (by decide) (by decide) rfl rfl rfl rfl hl.1 rfl (Nat.le_of_ble_eq_true rfl) ⟨Nat.le_of_ble_eq_true rfl, Nat.le_of_ble_eq_true rfl⟩ dL_law_1438 (fun r_17 u_18 H locs hr_17 hP hD hS => ?_)
    have hP : va_P G.1 xcl [] H := hP
    have hD : va_D A [] := hD
    obtain rfl : r_17 = (-1) := hr_17
    refine lv_icmp_eq (tgt := 1789) hx hb dL_law_1441 (by decide) (fun c_19 => ?_) (fun c_19 => absurd c_19 (by decide +kernel))
    exact law_tail C0 hr hlocks hX hbl hbA hA2 hS ls (lv_sub hl [0, 3] rfl)
  · refine lv_iconst (v := 1) hx hb dL_law_1401 (by decide) ?_
    refine lv_goto (tgt := 1406) hx hb dL_law_1402 (by decide) ?_
    refine xVwi (rq := 0) (ci := 8) (wc := [(q0, .inr (8, [.ref qb, .ref qk, .ref qg, .ref qr, .int 0, .int 0])), (qr, .inl (G.2 0, 6, .inl (fun _ => 0))), (qb, .inr (0, [.ref (b 0), .ref (b 1), .ref (b 2), .ref (b 3), .ref (b 4), .int 0])), (b 3, .inl (G.2 5, 8, .inr (.inr (.inr (.inr pf))))), (b 16, .inr (4, [.ref (b 24), .ref (b 32), .int 0, .int 0, .int 0, .int 0, .int 0, .int 0, .long 0, .long 0, .long 0])), (b 17, .inr (4, [.ref (b 25), .ref (b 33), .int 0, .int 0, .int 0, .int 0, .int 0, .int 0, .long 0, .long 0, .long 0])), (b 18, .inr (4, [.ref (b 26), .ref (b 34), .int 0, .int 0, .int 0, .int 0, .int 0, .int 0, .long 0, .long 0, .long 0])), (b 19, .inr (4, [.ref (b 27), .ref (b 35), .int 0, .int 0, .int 0, .int 0, .int 0, .int 0, .long 0, .long 0, .long 0])), (b 20, .inr (4, [.ref (b 28), .ref (b 36), .int 0, .int 0, .int 0, .int 0, .int 0, .int 0, .long 0, .long 0, .long 0])), (b 21, .inr (4, [.ref (b 29), .ref (b 37), .int 0, .int 0, .int 0, .int 0, .int 0, .int 0, .long 0, .long 0, .long 0])), (b 22, .inr (4, [.ref (b 30), .ref (b 38), .int 0, .int 0, .int 0, .int 0, .int 0, .int 0, .long 0, .long 0, .long 0])), (b 23, .inr (4, [.ref (b 31), .ref (b 39), .int 0, .int 0, .int 0, .int 0, .int 0, .int 0, .long 0, .long 0, .long 0]))]) (wr := [(m0, .inr (9, [.int 0, .int 0, .int 0, .int (-1), .ref (ma 4), .ref (ma 5), .ref (ma 6), .ref (ma 7), .ref (ma 8), .ref (ma 9), .ref (ma 10), .ref (ma 11), .ref (ma 12), .ref (ma 13), .ref (ma 14), .ref (ma 15), .ref (ma 16), .ref (ma 17), .ref (ma 18), .ref (ma 19), .int 0, .ref (ma 21), .ref (ma 22), .ref (ma 23), .ref (ma 24), .ref (ma 25), .ref (ma 26), .ref (ma 27), .ref (ma 28), .ref (ma 29), .ref (ma 30), .ref (ma 31), .ref (ma 32), .ref (ma 33), .ref (ma 34), .ref (ma 35), .ref (ma 36), .ref (ma 37), .int 0, .ref (ma 39), .ref (ma 40), .ref (ma 41), .ref (ma 42), .ref (ma 43), .ref (ma 44), .ref (ma 45), .ref (ma 46), .ref (ma 47), .ref (ma 48), .int 0, .int 0, .int 0, .int 0, .int 0, .int 0, .int 0, .long 0, .int 0, .long 0, .long 0, .long 0, .long 0, .int 0, .int 0, .int 0, .int 0, .long 0])), (ma 39, .inl (G.2 0, 6, .inl (fun _ => 0))), (ma 11, .inl (G.2 4, 96, .inr (.inl (fun _ => 0))))]) (As := [.int z_2, .int z_4, .int z_6, .int 1]) (rest := []) C0 (c_X8_counts l G q0 qb qk qg qr b pf z_2 z_4 z_6 1 hpf) ok_X8_counts (mW913 : Cond.methodLink RL 133 yX8_counts ∈ wsT) ⟨Nat.le_of_ble_eq_true rfl, Nat.le_of_ble_eq_true rfl⟩ hP hD hS hA hK hN [0, 1, 2, 3, 4, 5, 6, 7, 8, 9, 10, 11] [12, 13, 14] rfl rfl (by decide) (by decide) (by decide) rfl rfl rfl rfl hl.1 rfl (Nat.le_of_ble_eq_true rfl) ⟨Nat.le_of_ble_eq_true rfl, Nat.le_of_ble_eq_true rfl⟩ dL_law_1406 (fun r_20 u_21 H locs hr_20 hP hD hS => ?_)
    have hP : va_P G.1 xcl [(m0, .inr (9, [.int 0, .int 0, .int 0, .int (-1), .ref (ma 4), .ref (ma 5), .ref (ma 6), .ref (ma 7), .ref (ma 8), .ref (ma 9), .ref (ma 10), .ref (ma 11), .ref (ma 12), .ref (ma 13), .ref (ma 14), .ref (ma 15), .ref (ma 16), .ref (ma 17), .ref (ma 18), .ref (ma 19), .int 0, .ref (ma 21), .ref (ma 22), .ref (ma 23), .ref (ma 24), .ref (ma 25), .ref (ma 26), .ref (ma 27), .ref (ma 28), .ref (ma 29), .ref (ma 30), .ref (ma 31), .ref (ma 32), .ref (ma 33), .ref (ma 34), .ref (ma 35), .ref (ma 36), .ref (ma 37), .int 0, .ref (ma 39), .ref (ma 40), .ref (ma 41), .ref (ma 42), .ref (ma 43), .ref (ma 44), .ref (ma 45), .ref (ma 46), .ref (ma 47), .ref (ma 48), .int 0, .int 0, .int 0, .int 0, .int 0, .int 0, .int 0, .long 0, .int 0, .long 0, .long 0, .long 0, .long 0, .int 0, .int 0, .int 0, .int 0, .long 0])), (ma 39, .inl (G.2 0, 6, .inl (fun _ => 0))), (ma 11, .inl (G.2 4, 96, .inr (.inl (fun _ => 0))))] H := hP
    have hD : va_D A [(m0, .inr (9, [.int 0, .int 0, .int 0, .int (-1), .ref (ma 4), .ref (ma 5), .ref (ma 6), .ref (ma 7), .ref (ma 8), .ref (ma 9), .ref (ma 10), .ref (ma 11), .ref (ma 12), .ref (ma 13), .ref (ma 14), .ref (ma 15), .ref (ma 16), .ref (ma 17), .ref (ma 18), .ref (ma 19), .int 0, .ref (ma 21), .ref (ma 22), .ref (ma 23), .ref (ma 24), .ref (ma 25), .ref (ma 26), .ref (ma 27), .ref (ma 28), .ref (ma 29), .ref (ma 30), .ref (ma 31), .ref (ma 32), .ref (ma 33), .ref (ma 34), .ref (ma 35), .ref (ma 36), .ref (ma 37), .int 0, .ref (ma 39), .ref (ma 40), .ref (ma 41), .ref (ma 42), .ref (ma 43), .ref (ma 44), .ref (ma 45), .ref (ma 46), .ref (ma 47), .ref (ma 48), .int 0, .int 0, .int 0, .int 0, .int 0, .int 0, .int 0, .long 0, .int 0, .long 0, .long 0, .long 0, .long 0, .int 0, .int 0, .int 0, .int 0, .long 0])), (ma 39, .inl (G.2 0, 6, .inl (fun _ => 0))), (ma 11, .inl (G.2 4, 96, .inr (.inl (fun _ => 0))))] := hD
    obtain rfl : r_20 = (-1) := hr_20
    refine lv_aload_n hx hb dL_law_1409 rfl (lv_at hl 1 rfl) ?_
    refine lv_aload_n hx hb dL_law_1410 rfl (lv_at hl 3 rfl) ?_
    refine lv_iload_n hx hb dL_law_1411 rfl (lv_at hl 0 rfl) ?_
    refine lv_iconst (v := 1) hx hb dL_law_1412 (by decide) ?_
    refine lv_iadd hx hb dL_law_1413 ?_
    refine lv_topi (fun z_22 ez_22 => ?_)
    obtain rfl : z_22 = 1 := ez_22.trans (by first | rfl | decide +kernel)
    refine va_sld hx hb hX hbl hbA hS (by unfold vp_in; decide +kernel) dL_law_1414 ?_
    rw [← ez_2]
    refine lv_aload_n hx hb dL_law_1415 rfl (lv_at hl 3 rfl) ?_
    refine lv_iload_n hx hb dL_law_1416 rfl (lv_at hl 0 rfl) ?_
    refine lv_iconst (v := 2) hx hb dL_law_1417 (by decide) ?_
    refine lv_iadd hx hb dL_law_1418 ?_
    refine lv_topi (fun z_23 ez_23 => ?_)
    obtain rfl : z_23 = 2 := ez_23.trans (by first | rfl | decide +kernel)
    refine va_sld hx hb hX hbl hbA hS (by unfold vp_in; decide +kernel) dL_law_1419 ?_
    rw [← ez_4]
    refine lv_aload_n hx hb dL_law_1420 rfl (lv_at hl 3 rfl) ?_
    refine lv_iload_n hx hb dL_law_1421 rfl (lv_at hl 0 rfl) ?_
    refine lv_iconst (v := 3) hx hb dL_law_1422 (by decide) ?_
    refine lv_iadd hx hb dL_law_1423 ?_
    refine lv_topi (fun z_24 ez_24 => ?_)
    obtain rfl : z_24 = 3 := ez_24.trans (by first | rfl | decide +kernel)
    refine va_sld hx hb hX hbl hbA hS (by unfold vp_in; decide +kernel) dL_law_1424 ?_
    rw [← ez_6]
    refine lv_aload_n hx hb dL_law_1425 rfl (lv_at hl 3 rfl) ?_
    refine lv_iload_n hx hb dL_law_1426 rfl (lv_at hl 0 rfl) ?_
    refine lv_iconst (v := 4) hx hb dL_law_1427 (by decide) ?_
    refine lv_iadd hx hb dL_law_1428 ?_
    refine lv_topi (fun z_25 ez_25 => ?_)
    obtain rfl : z_25 = 4 := ez_25.trans (by first | rfl | decide +kernel)
    refine va_sld hx hb hX hbl hbA hS (by unfold vp_in; decide +kernel) dL_law_1429 ?_
    rw [← ez_8]
    refine lv_if_eq (tgt := 1437) hx hb dL_law_1430 (by decide) (fun c_26 => absurd c_26 c_9) (fun c_26 => ?_)
    refine lv_iconst (v := 1) hx hb dL_law_1433 (by decide) ?_
    refine lv_goto (tgt := 1438) hx hb dL_law_1434 (by decide) ?_
    refine xVwi (rq := 0) (ci := 9) (wc := [(m0, .inr (9, [.int 0, .int 0, .int 0, .int (-1), .ref (ma 4), .ref (ma 5), .ref (ma 6), .ref (ma 7), .ref (ma 8), .ref (ma 9), .ref (ma 10), .ref (ma 11), .ref (ma 12), .ref (ma 13), .ref (ma 14), .ref (ma 15), .ref (ma 16), .ref (ma 17), .ref (ma 18), .ref (ma 19), .int 0, .ref (ma 21), .ref (ma 22), .ref (ma 23), .ref (ma 24), .ref (ma 25), .ref (ma 26), .ref (ma 27), .ref (ma 28), .ref (ma 29), .ref (ma 30), .ref (ma 31), .ref (ma 32), .ref (ma 33), .ref (ma 34), .ref (ma 35), .ref (ma 36), .ref (ma 37), .int 0, .ref (ma 39), .ref (ma 40), .ref (ma 41), .ref (ma 42), .ref (ma 43), .ref (ma 44), .ref (ma 45), .ref (ma 46), .ref (ma 47), .ref (ma 48), .int 0, .int 0, .int 0, .int 0, .int 0, .int 0, .int 0, .long 0, .int 0, .long 0, .long 0, .long 0, .long 0, .int 0, .int 0, .int 0, .int 0, .long 0])), (ma 39, .inl (G.2 0, 6, .inl (fun _ => 0))), (ma 11, .inl (G.2 4, 96, .inr (.inl (fun _ => 0))))]) (wr := []) (As := [.int z_2, .int z_4, .int z_6, .int 1]) (rest := [.int (-1)]) C0 (c_X9_counts l G m0 ma z_2 z_4 z_6 1) ok_X9_counts (mW922 : Cond.methodLink RL 137 yX9_counts ∈ wsT) ⟨Nat.le_of_ble_eq_true rfl, Nat.le_of_ble_eq_true rfl⟩ hP hD hS hA hK hN [0, 1, 2] [] rfl rfl (by decide) (by decide) (by decide) rfl rfl rfl rfl hl.1 rfl (Nat.le_of_ble_eq_true rfl) ⟨Nat.le_of_ble_eq_true rfl, Nat.le_of_ble_eq_true rfl⟩ dL_law_1438 (fun r_27 u_28 H locs hr_27 hP hD hS => ?_)
    have hP : va_P G.1 xcl [] H := hP
    have hD : va_D A [] := hD
    obtain rfl : r_27 = (-1) := hr_27
    refine lv_icmp_eq (tgt := 1789) hx hb dL_law_1441 (by decide) (fun c_29 => ?_) (fun c_29 => absurd c_29 (by decide +kernel))
    exact law_tail C0 hr hlocks hX hbl hbA hA2 hS ls (lv_sub hl [0, 3] rfl)
theorem dL_law_1446 : decode cL_law 1446 = .ok (.aload_n 1, 1) := by decide +kernel
theorem dL_law_1447 : decode cL_law 1447 = .ok (.aload_n 0, 1) := by decide +kernel
theorem dL_law_1448 : decode cL_law 1448 = .ok (.iload_n 3, 1) := by decide +kernel
theorem dL_law_1449 : decode cL_law 1449 = .ok (.iconst 1, 1) := by decide +kernel
theorem dL_law_1450 : decode cL_law 1450 = .ok (.iadd, 1) := by decide +kernel
theorem dL_law_1451 : decode cL_law 1451 = .ok (.iaload, 1) := by decide +kernel
theorem dL_law_1452 : decode cL_law 1452 = .ok (.aload_n 0, 1) := by decide +kernel
theorem dL_law_1453 : decode cL_law 1453 = .ok (.iload_n 3, 1) := by decide +kernel
theorem dL_law_1454 : decode cL_law 1454 = .ok (.iconst 2, 1) := by decide +kernel
theorem dL_law_1455 : decode cL_law 1455 = .ok (.iadd, 1) := by decide +kernel
theorem dL_law_1456 : decode cL_law 1456 = .ok (.iaload, 1) := by decide +kernel
theorem dL_law_1457 : decode cL_law 1457 = .ok (.aload_n 0, 1) := by decide +kernel
theorem dL_law_1458 : decode cL_law 1458 = .ok (.iload_n 3, 1) := by decide +kernel
theorem dL_law_1459 : decode cL_law 1459 = .ok (.iconst 3, 1) := by decide +kernel
theorem dL_law_1460 : decode cL_law 1460 = .ok (.iadd, 1) := by decide +kernel
theorem dL_law_1461 : decode cL_law 1461 = .ok (.iaload, 1) := by decide +kernel
theorem dL_law_1462 : decode cL_law 1462 = .ok (.ifCond .eq 7, 3) := by decide +kernel
theorem dL_law_1465 : decode cL_law 1465 = .ok (.iconst 1, 1) := by decide +kernel
theorem dL_law_1466 : decode cL_law 1466 = .ok (.goto 4, 3) := by decide +kernel
theorem dL_law_1469 : decode cL_law 1469 = .ok (.iconst 0, 1) := by decide +kernel
theorem dL_law_1470 : decode cL_law 1470 = .ok (.invokevirtual 138, 3) := by decide +kernel
theorem dL_law_1473 : decode cL_law 1473 = .ok (.aload_n 2, 1) := by decide +kernel
theorem dL_law_1474 : decode cL_law 1474 = .ok (.aload_n 0, 1) := by decide +kernel
theorem dL_law_1475 : decode cL_law 1475 = .ok (.iload_n 3, 1) := by decide +kernel
theorem dL_law_1476 : decode cL_law 1476 = .ok (.iconst 1, 1) := by decide +kernel
theorem dL_law_1477 : decode cL_law 1477 = .ok (.iadd, 1) := by decide +kernel
theorem dL_law_1478 : decode cL_law 1478 = .ok (.iaload, 1) := by decide +kernel
theorem dL_law_1479 : decode cL_law 1479 = .ok (.aload_n 0, 1) := by decide +kernel
theorem dL_law_1480 : decode cL_law 1480 = .ok (.iload_n 3, 1) := by decide +kernel
theorem dL_law_1481 : decode cL_law 1481 = .ok (.iconst 2, 1) := by decide +kernel
theorem dL_law_1482 : decode cL_law 1482 = .ok (.iadd, 1) := by decide +kernel
theorem dL_law_1483 : decode cL_law 1483 = .ok (.iaload, 1) := by decide +kernel
theorem dL_law_1484 : decode cL_law 1484 = .ok (.aload_n 0, 1) := by decide +kernel
theorem dL_law_1485 : decode cL_law 1485 = .ok (.iload_n 3, 1) := by decide +kernel
theorem dL_law_1486 : decode cL_law 1486 = .ok (.iconst 3, 1) := by decide +kernel
theorem dL_law_1487 : decode cL_law 1487 = .ok (.iadd, 1) := by decide +kernel
theorem dL_law_1488 : decode cL_law 1488 = .ok (.iaload, 1) := by decide +kernel
theorem dL_law_1489 : decode cL_law 1489 = .ok (.ifCond .eq 7, 3) := by decide +kernel
theorem dL_law_1492 : decode cL_law 1492 = .ok (.iconst 1, 1) := by decide +kernel
theorem dL_law_1493 : decode cL_law 1493 = .ok (.goto 4, 3) := by decide +kernel
theorem dL_law_1496 : decode cL_law 1496 = .ok (.iconst 0, 1) := by decide +kernel
theorem dL_law_1497 : decode cL_law 1497 = .ok (.invokevirtual 141, 3) := by decide +kernel
theorem dL_law_1500 : decode cL_law 1500 = .ok (.if_icmp .eq 289, 3) := by decide +kernel
set_option maxHeartbeats 4000000 in
set_option maxRecDepth 100000 in
/-- case 27: by -/
theorem law_27 {q0 : Nat} {qb : Nat} {qk : Nat} {qg : Nat} {qr : Nat} {b : Nat → Nat} {pf : Nat → Option Nat} {kf : Nat → Int32} {b2 : Nat → Nat} {pf2 : Nat → Option Nat} {kf2 : Nat → Int32} {m0 : Nat} {ma : Nat → Nat} {p : Program} {l : Launch} {e : Env} {s : State} {m : MethodId} {below : List Frame} {meth : Method} {c : Code} {G : xG} {sc : Nat} {xs : Nat → Int32} {A : Nat → Prop} (C0 : CallFix p m c code 4 s #[Value.ref sc] wsT RL) (hr : meth.sig.returnType = ret) (hlocks : meth.locks = false) (hK : va_K G.1 xcl (xty G) s) (hN : xN s) (hX : va_X sc 7 xs s s.heap) (hbl : sc < s.heap.size) (hbA : ¬ A sc) (hA : ∀ q : Nat, s.heap.size ≤ q → A q) (hA2 : ∀ q, A q → s.heap.size ≤ q) (hpf : ∀ k, k < 8 → pf k = some (b (16 + k))) (hpf2 : ∀ k, k < 8 → pf2 k = some (b2 (16 + k))) {H : Heap} {locs : List Loc} {ls : Array Slot} (hP : va_P G.1 xcl [(q0, .inr (8, [.ref qb, .ref qk, .ref qg, .ref qr, .int 0, .int 0])), (qr, .inl (G.2 0, 6, .inl (fun _ => 0))), (qb, .inr (0, [.ref (b 0), .ref (b 1), .ref (b 2), .ref (b 3), .ref (b 4), .int 0])), (b 3, .inl (G.2 5, 8, .inr (.inr (.inr (.inr pf))))), (b 16, .inr (4, [.ref (b 24), .ref (b 32), .int 0, .int 0, .int 0, .int 0, .int 0, .int 0, .long 0, .long 0, .long 0])), (b 17, .inr (4, [.ref (b 25), .ref (b 33), .int 0, .int 0, .int 0, .int 0, .int 0, .int 0, .long 0, .long 0, .long 0])), (b 18, .inr (4, [.ref (b 26), .ref (b 34), .int 0, .int 0, .int 0, .int 0, .int 0, .int 0, .long 0, .long 0, .long 0])), (b 19, .inr (4, [.ref (b 27), .ref (b 35), .int 0, .int 0, .int 0, .int 0, .int 0, .int 0, .long 0, .long 0, .long 0])), (b 20, .inr (4, [.ref (b 28), .ref (b 36), .int 0, .int 0, .int 0, .int 0, .int 0, .int 0, .long 0, .long 0, .long 0])), (b 21, .inr (4, [.ref (b 29), .ref (b 37), .int 0, .int 0, .int 0, .int 0, .int 0, .int 0, .long 0, .long 0, .long 0])), (b 22, .inr (4, [.ref (b 30), .ref (b 38), .int 0, .int 0, .int 0, .int 0, .int 0, .int 0, .long 0, .long 0, .long 0])), (b 23, .inr (4, [.ref (b 31), .ref (b 39), .int 0, .int 0, .int 0, .int 0, .int 0, .int 0, .long 0, .long 0, .long 0])), (m0, .inr (9, [.int 0, .int 0, .int 0, .int (-1), .ref (ma 4), .ref (ma 5), .ref (ma 6), .ref (ma 7), .ref (ma 8), .ref (ma 9), .ref (ma 10), .ref (ma 11), .ref (ma 12), .ref (ma 13), .ref (ma 14), .ref (ma 15), .ref (ma 16), .ref (ma 17), .ref (ma 18), .ref (ma 19), .int 0, .ref (ma 21), .ref (ma 22), .ref (ma 23), .ref (ma 24), .ref (ma 25), .ref (ma 26), .ref (ma 27), .ref (ma 28), .ref (ma 29), .ref (ma 30), .ref (ma 31), .ref (ma 32), .ref (ma 33), .ref (ma 34), .ref (ma 35), .ref (ma 36), .ref (ma 37), .int 0, .ref (ma 39), .ref (ma 40), .ref (ma 41), .ref (ma 42), .ref (ma 43), .ref (ma 44), .ref (ma 45), .ref (ma 46), .ref (ma 47), .ref (ma 48), .int 0, .int 0, .int 0, .int 0, .int 0, .int 0, .int 0, .long 0, .int 0, .long 0, .long 0, .long 0, .long 0, .int 0, .int 0, .int 0, .int 0, .long 0])), (ma 39, .inl (G.2 0, 6, .inl (fun _ => 0))), (ma 11, .inl (G.2 4, 96, .inr (.inl (fun _ => 0))))] H) (hD : va_D A [(q0, .inr (8, [.ref qb, .ref qk, .ref qg, .ref qr, .int 0, .int 0])), (qr, .inl (G.2 0, 6, .inl (fun _ => 0))), (qb, .inr (0, [.ref (b 0), .ref (b 1), .ref (b 2), .ref (b 3), .ref (b 4), .int 0])), (b 3, .inl (G.2 5, 8, .inr (.inr (.inr (.inr pf))))), (b 16, .inr (4, [.ref (b 24), .ref (b 32), .int 0, .int 0, .int 0, .int 0, .int 0, .int 0, .long 0, .long 0, .long 0])), (b 17, .inr (4, [.ref (b 25), .ref (b 33), .int 0, .int 0, .int 0, .int 0, .int 0, .int 0, .long 0, .long 0, .long 0])), (b 18, .inr (4, [.ref (b 26), .ref (b 34), .int 0, .int 0, .int 0, .int 0, .int 0, .int 0, .long 0, .long 0, .long 0])), (b 19, .inr (4, [.ref (b 27), .ref (b 35), .int 0, .int 0, .int 0, .int 0, .int 0, .int 0, .long 0, .long 0, .long 0])), (b 20, .inr (4, [.ref (b 28), .ref (b 36), .int 0, .int 0, .int 0, .int 0, .int 0, .int 0, .long 0, .long 0, .long 0])), (b 21, .inr (4, [.ref (b 29), .ref (b 37), .int 0, .int 0, .int 0, .int 0, .int 0, .int 0, .long 0, .long 0, .long 0])), (b 22, .inr (4, [.ref (b 30), .ref (b 38), .int 0, .int 0, .int 0, .int 0, .int 0, .int 0, .long 0, .long 0, .long 0])), (b 23, .inr (4, [.ref (b 31), .ref (b 39), .int 0, .int 0, .int 0, .int 0, .int 0, .int 0, .long 0, .long 0, .long 0])), (m0, .inr (9, [.int 0, .int 0, .int 0, .int (-1), .ref (ma 4), .ref (ma 5), .ref (ma 6), .ref (ma 7), .ref (ma 8), .ref (ma 9), .ref (ma 10), .ref (ma 11), .ref (ma 12), .ref (ma 13), .ref (ma 14), .ref (ma 15), .ref (ma 16), .ref (ma 17), .ref (ma 18), .ref (ma 19), .int 0, .ref (ma 21), .ref (ma 22), .ref (ma 23), .ref (ma 24), .ref (ma 25), .ref (ma 26), .ref (ma 27), .ref (ma 28), .ref (ma 29), .ref (ma 30), .ref (ma 31), .ref (ma 32), .ref (ma 33), .ref (ma 34), .ref (ma 35), .ref (ma 36), .ref (ma 37), .int 0, .ref (ma 39), .ref (ma 40), .ref (ma 41), .ref (ma 42), .ref (ma 43), .ref (ma 44), .ref (ma 45), .ref (ma 46), .ref (ma 47), .ref (ma 48), .int 0, .int 0, .int 0, .int 0, .int 0, .int 0, .int 0, .long 0, .int 0, .long 0, .long 0, .long 0, .long 0, .int 0, .int 0, .int 0, .int 0, .long 0])), (ma 39, .inl (G.2 0, 6, .inl (fun _ => 0))), (ma 11, .inl (G.2 4, 96, .inr (.inl (fun _ => 0))))]) (hS : va_S A s.heap H locs) (hl : lv_has ls 4 [(3, .int 0), (2, .ref m0), (1, .ref q0), (0, .ref sc)]) : W p l e room_1 s m #[Value.ref sc] below meth c H locs 169 136076 (lw_Z below #[Value.ref sc] s) (F0 m 1446 ls []) := by
  obtain ⟨hx, hb, hml, hown, htl⟩ := id C0
  refine lv_aload_n hx hb dL_law_1446 rfl (lv_at hl 2 rfl) ?_
  refine lv_aload_n hx hb dL_law_1447 rfl (lv_at hl 3 rfl) ?_
  refine lv_iload_n hx hb dL_law_1448 rfl (lv_at hl 0 rfl) ?_
  refine lv_iconst (v := 1) hx hb dL_law_1449 (by decide) ?_
  refine lv_iadd hx hb dL_law_1450 ?_
  refine lv_topi (fun z_1 ez_1 => ?_)
  obtain rfl : z_1 = 1 := ez_1.trans (by first | rfl | decide +kernel)
  refine va_sld hx hb hX hbl hbA hS (by unfold vp_in; decide +kernel) dL_law_1451 ?_
  refine lv_topi (fun z_2 ez_2 => ?_)
  refine lv_aload_n hx hb dL_law_1452 rfl (lv_at hl 3 rfl) ?_
  refine lv_iload_n hx hb dL_law_1453 rfl (lv_at hl 0 rfl) ?_
  refine lv_iconst (v := 2) hx hb dL_law_1454 (by decide) ?_
  refine lv_iadd hx hb dL_law_1455 ?_
  refine lv_topi (fun z_3 ez_3 => ?_)
  obtain rfl : z_3 = 2 := ez_3.trans (by first | rfl | decide +kernel)
  refine va_sld hx hb hX hbl hbA hS (by unfold vp_in; decide +kernel) dL_law_1456 ?_
  refine lv_topi (fun z_4 ez_4 => ?_)
  refine lv_aload_n hx hb dL_law_1457 rfl (lv_at hl 3 rfl) ?_
  refine lv_iload_n hx hb dL_law_1458 rfl (lv_at hl 0 rfl) ?_
  refine lv_iconst (v := 3) hx hb dL_law_1459 (by decide) ?_
  refine lv_iadd hx hb dL_law_1460 ?_
  refine lv_topi (fun z_5 ez_5 => ?_)
  obtain rfl : z_5 = 3 := ez_5.trans (by first | rfl | decide +kernel)
  refine va_sld hx hb hX hbl hbA hS (by unfold vp_in; decide +kernel) dL_law_1461 ?_
  refine lv_topi (fun z_6 ez_6 => ?_)
  refine lv_if_eq (tgt := 1469) hx hb dL_law_1462 (by decide) (fun c_7 => ?_) (fun c_7 => ?_)
  · refine lv_iconst (v := 0) hx hb dL_law_1469 (by decide) ?_
    refine xVwi (rq := 0) (ci := 8) (wc := [(q0, .inr (8, [.ref qb, .ref qk, .ref qg, .ref qr, .int 0, .int 0])), (qr, .inl (G.2 0, 6, .inl (fun _ => 0))), (qb, .inr (0, [.ref (b 0), .ref (b 1), .ref (b 2), .ref (b 3), .ref (b 4), .int 0])), (b 3, .inl (G.2 5, 8, .inr (.inr (.inr (.inr pf))))), (b 16, .inr (4, [.ref (b 24), .ref (b 32), .int 0, .int 0, .int 0, .int 0, .int 0, .int 0, .long 0, .long 0, .long 0])), (b 17, .inr (4, [.ref (b 25), .ref (b 33), .int 0, .int 0, .int 0, .int 0, .int 0, .int 0, .long 0, .long 0, .long 0])), (b 18, .inr (4, [.ref (b 26), .ref (b 34), .int 0, .int 0, .int 0, .int 0, .int 0, .int 0, .long 0, .long 0, .long 0])), (b 19, .inr (4, [.ref (b 27), .ref (b 35), .int 0, .int 0, .int 0, .int 0, .int 0, .int 0, .long 0, .long 0, .long 0])), (b 20, .inr (4, [.ref (b 28), .ref (b 36), .int 0, .int 0, .int 0, .int 0, .int 0, .int 0, .long 0, .long 0, .long 0])), (b 21, .inr (4, [.ref (b 29), .ref (b 37), .int 0, .int 0, .int 0, .int 0, .int 0, .int 0, .long 0, .long 0, .long 0])), (b 22, .inr (4, [.ref (b 30), .ref (b 38), .int 0, .int 0, .int 0, .int 0, .int 0, .int 0, .long 0, .long 0, .long 0])), (b 23, .inr (4, [.ref (b 31), .ref (b 39), .int 0, .int 0, .int 0, .int 0, .int 0, .int 0, .long 0, .long 0, .long 0]))]) (wr := [(m0, .inr (9, [.int 0, .int 0, .int 0, .int (-1), .ref (ma 4), .ref (ma 5), .ref (ma 6), .ref (ma 7), .ref (ma 8), .ref (ma 9), .ref (ma 10), .ref (ma 11), .ref (ma 12), .ref (ma 13), .ref (ma 14), .ref (ma 15), .ref (ma 16), .ref (ma 17), .ref (ma 18), .ref (ma 19), .int 0, .ref (ma 21), .ref (ma 22), .ref (ma 23), .ref (ma 24), .ref (ma 25), .ref (ma 26), .ref (ma 27), .ref (ma 28), .ref (ma 29), .ref (ma 30), .ref (ma 31), .ref (ma 32), .ref (ma 33), .ref (ma 34), .ref (ma 35), .ref (ma 36), .ref (ma 37), .int 0, .ref (ma 39), .ref (ma 40), .ref (ma 41), .ref (ma 42), .ref (ma 43), .ref (ma 44), .ref (ma 45), .ref (ma 46), .ref (ma 47), .ref (ma 48), .int 0, .int 0, .int 0, .int 0, .int 0, .int 0, .int 0, .long 0, .int 0, .long 0, .long 0, .long 0, .long 0, .int 0, .int 0, .int 0, .int 0, .long 0])), (ma 39, .inl (G.2 0, 6, .inl (fun _ => 0))), (ma 11, .inl (G.2 4, 96, .inr (.inl (fun _ => 0))))]) (As := [.int z_2, .int z_4, .int 0]) (rest := []) C0 (c_X8_by l G q0 qb qk qg qr b pf z_2 z_4 0 hpf) ok_X8_by (mW926 : Cond.methodLink RL 138 yX8_by ∈ wsT) ⟨Nat.le_of_ble_eq_true rfl, Nat.le_of_ble_eq_true rfl⟩ hP hD hS hA hK hN [0, 1, 2, 3, 4, 5, 6, 7, 8, 9, 10, 11] [12, 13, 14] rfl rfl (by decide) (by decide) (by decide) rfl rfl rfl rfl hl.1 rfl (Nat.le_of_ble_eq_true rfl) ⟨Nat.le_of_ble_eq_true rfl, Nat.le_of_ble_eq_true rfl⟩ dL_law_1470 (fun r_8 u_9 H locs hr_8 hP hD hS => ?_)
    have hP : va_P G.1 xcl [(m0, .inr (9, [.int 0, .int 0, .int 0, .int (-1), .ref (ma 4), .ref (ma 5), .ref (ma 6), .ref (ma 7), .ref (ma 8), .ref (ma 9), .ref (ma 10), .ref (ma 11), .ref (ma 12), .ref (ma 13), .ref (ma 14), .ref (ma 15), .ref (ma 16), .ref (ma 17), .ref (ma 18), .ref (ma 19), .int 0, .ref (ma 21), .ref (ma 22), .ref (ma 23), .ref (ma 24), .ref (ma 25), .ref (ma 26), .ref (ma 27), .ref (ma 28), .ref (ma 29), .ref (ma 30), .ref (ma 31), .ref (ma 32), .ref (ma 33), .ref (ma 34), .ref (ma 35), .ref (ma 36), .ref (ma 37), .int 0, .ref (ma 39), .ref (ma 40), .ref (ma 41), .ref (ma 42), .ref (ma 43), .ref (ma 44), .ref (ma 45), .ref (ma 46), .ref (ma 47), .ref (ma 48), .int 0, .int 0, .int 0, .int 0, .int 0, .int 0, .int 0, .long 0, .int 0, .long 0, .long 0, .long 0, .long 0, .int 0, .int 0, .int 0, .int 0, .long 0])), (ma 39, .inl (G.2 0, 6, .inl (fun _ => 0))), (ma 11, .inl (G.2 4, 96, .inr (.inl (fun _ => 0))))] H := hP
    have hD : va_D A [(m0, .inr (9, [.int 0, .int 0, .int 0, .int (-1), .ref (ma 4), .ref (ma 5), .ref (ma 6), .ref (ma 7), .ref (ma 8), .ref (ma 9), .ref (ma 10), .ref (ma 11), .ref (ma 12), .ref (ma 13), .ref (ma 14), .ref (ma 15), .ref (ma 16), .ref (ma 17), .ref (ma 18), .ref (ma 19), .int 0, .ref (ma 21), .ref (ma 22), .ref (ma 23), .ref (ma 24), .ref (ma 25), .ref (ma 26), .ref (ma 27), .ref (ma 28), .ref (ma 29), .ref (ma 30), .ref (ma 31), .ref (ma 32), .ref (ma 33), .ref (ma 34), .ref (ma 35), .ref (ma 36), .ref (ma 37), .int 0, .ref (ma 39), .ref (ma 40), .ref (ma 41), .ref (ma 42), .ref (ma 43), .ref (ma 44), .ref (ma 45), .ref (ma 46), .ref (ma 47), .ref (ma 48), .int 0, .int 0, .int 0, .int 0, .int 0, .int 0, .int 0, .long 0, .int 0, .long 0, .long 0, .long 0, .long 0, .int 0, .int 0, .int 0, .int 0, .long 0])), (ma 39, .inl (G.2 0, 6, .inl (fun _ => 0))), (ma 11, .inl (G.2 4, 96, .inr (.inl (fun _ => 0))))] := hD
    obtain rfl : r_8 = (-1) := hr_8
    refine lv_aload_n hx hb dL_law_1473 rfl (lv_at hl 1 rfl) ?_
    refine lv_aload_n hx hb dL_law_1474 rfl (lv_at hl 3 rfl) ?_
    refine lv_iload_n hx hb dL_law_1475 rfl (lv_at hl 0 rfl) ?_
    refine lv_iconst (v := 1) hx hb dL_law_1476 (by decide) ?_
    refine lv_iadd hx hb dL_law_1477 ?_
    refine lv_topi (fun z_10 ez_10 => ?_)
    obtain rfl : z_10 = 1 := ez_10.trans (by first | rfl | decide +kernel)
    refine va_sld hx hb hX hbl hbA hS (by unfold vp_in; decide +kernel) dL_law_1478 ?_
    rw [← ez_2]
    refine lv_aload_n hx hb dL_law_1479 rfl (lv_at hl 3 rfl) ?_
    refine lv_iload_n hx hb dL_law_1480 rfl (lv_at hl 0 rfl) ?_
    refine lv_iconst (v := 2) hx hb dL_law_1481 (by decide) ?_
    refine lv_iadd hx hb dL_law_1482 ?_
    refine lv_topi (fun z_11 ez_11 => ?_)
    obtain rfl : z_11 = 2 := ez_11.trans (by first | rfl | decide +kernel)
    refine va_sld hx hb hX hbl hbA hS (by unfold vp_in; decide +kernel) dL_law_1483 ?_
    rw [← ez_4]
    refine lv_aload_n hx hb dL_law_1484 rfl (lv_at hl 3 rfl) ?_
    refine lv_iload_n hx hb dL_law_1485 rfl (lv_at hl 0 rfl) ?_
    refine lv_iconst (v := 3) hx hb dL_law_1486 (by decide) ?_
    refine lv_iadd hx hb dL_law_1487 ?_
    refine lv_topi (fun z_12 ez_12 => ?_)
    obtain rfl : z_12 = 3 := ez_12.trans (by first | rfl | decide +kernel)
    refine va_sld hx hb hX hbl hbA hS (by unfold vp_in; decide +kernel) dL_law_1488 ?_
    rw [← ez_6]
    refine lv_if_eq (tgt := 1496) hx hb dL_law_1489 (by decide) (fun c_13 => ?_) (fun c_13 => absurd c_7 c_13)
    refine lv_iconst (v := 0) hx hb dL_law_1496 (by decide) ?_
    refine xVwi (rq := 0) (ci := 9) (wc := [(m0, .inr (9, [.int 0, .int 0, .int 0, .int (-1), .ref (ma 4), .ref (ma 5), .ref (ma 6), .ref (ma 7), .ref (ma 8), .ref (ma 9), .ref (ma 10), .ref (ma 11), .ref (ma 12), .ref (ma 13), .ref (ma 14), .ref (ma 15), .ref (ma 16), .ref (ma 17), .ref (ma 18), .ref (ma 19), .int 0, .ref (ma 21), .ref (ma 22), .ref (ma 23), .ref (ma 24), .ref (ma 25), .ref (ma 26), .ref (ma 27), .ref (ma 28), .ref (ma 29), .ref (ma 30), .ref (ma 31), .ref (ma 32), .ref (ma 33), .ref (ma 34), .ref (ma 35), .ref (ma 36), .ref (ma 37), .int 0, .ref (ma 39), .ref (ma 40), .ref (ma 41), .ref (ma 42), .ref (ma 43), .ref (ma 44), .ref (ma 45), .ref (ma 46), .ref (ma 47), .ref (ma 48), .int 0, .int 0, .int 0, .int 0, .int 0, .int 0, .int 0, .long 0, .int 0, .long 0, .long 0, .long 0, .long 0, .int 0, .int 0, .int 0, .int 0, .long 0])), (ma 39, .inl (G.2 0, 6, .inl (fun _ => 0))), (ma 11, .inl (G.2 4, 96, .inr (.inl (fun _ => 0))))]) (wr := []) (As := [.int z_2, .int z_4, .int 0]) (rest := [.int (-1)]) C0 (c_X9_by l G m0 ma z_2 z_4 0) ok_X9_by (mW939 : Cond.methodLink RL 141 yX9_by ∈ wsT) ⟨Nat.le_of_ble_eq_true rfl, Nat.le_of_ble_eq_true rfl⟩ hP hD hS hA hK hN [0, 1, 2] [] rfl rfl (by decide) (by decide) (by decide) rfl rfl rfl rfl hl.1 rfl (Nat.le_of_ble_eq_true rfl) ⟨Nat.le_of_ble_eq_true rfl, Nat.le_of_ble_eq_true rfl⟩ dL_law_1497 (fun r_14 u_15 H locs hr_14 hP hD hS => ?_)
    have hP : va_P G.1 xcl [] H := hP
    have hD : va_D A [] := hD
    obtain rfl : r_14 = (-1) := hr_14
    refine lv_icmp_eq (tgt := 1789) hx hb dL_law_1500 (by decide) (fun c_16 => ?_) (fun c_16 => absurd c_16 (by decide +kernel))
    exact law_tail C0 hr hlocks hX hbl hbA hA2 hS ls (lv_sub hl [0, 3] rfl)
  · refine lv_iconst (v := 1) hx hb dL_law_1465 (by decide) ?_
    refine lv_goto (tgt := 1470) hx hb dL_law_1466 (by decide) ?_
    refine xVwi (rq := 0) (ci := 8) (wc := [(q0, .inr (8, [.ref qb, .ref qk, .ref qg, .ref qr, .int 0, .int 0])), (qr, .inl (G.2 0, 6, .inl (fun _ => 0))), (qb, .inr (0, [.ref (b 0), .ref (b 1), .ref (b 2), .ref (b 3), .ref (b 4), .int 0])), (b 3, .inl (G.2 5, 8, .inr (.inr (.inr (.inr pf))))), (b 16, .inr (4, [.ref (b 24), .ref (b 32), .int 0, .int 0, .int 0, .int 0, .int 0, .int 0, .long 0, .long 0, .long 0])), (b 17, .inr (4, [.ref (b 25), .ref (b 33), .int 0, .int 0, .int 0, .int 0, .int 0, .int 0, .long 0, .long 0, .long 0])), (b 18, .inr (4, [.ref (b 26), .ref (b 34), .int 0, .int 0, .int 0, .int 0, .int 0, .int 0, .long 0, .long 0, .long 0])), (b 19, .inr (4, [.ref (b 27), .ref (b 35), .int 0, .int 0, .int 0, .int 0, .int 0, .int 0, .long 0, .long 0, .long 0])), (b 20, .inr (4, [.ref (b 28), .ref (b 36), .int 0, .int 0, .int 0, .int 0, .int 0, .int 0, .long 0, .long 0, .long 0])), (b 21, .inr (4, [.ref (b 29), .ref (b 37), .int 0, .int 0, .int 0, .int 0, .int 0, .int 0, .long 0, .long 0, .long 0])), (b 22, .inr (4, [.ref (b 30), .ref (b 38), .int 0, .int 0, .int 0, .int 0, .int 0, .int 0, .long 0, .long 0, .long 0])), (b 23, .inr (4, [.ref (b 31), .ref (b 39), .int 0, .int 0, .int 0, .int 0, .int 0, .int 0, .long 0, .long 0, .long 0]))]) (wr := [(m0, .inr (9, [.int 0, .int 0, .int 0, .int (-1), .ref (ma 4), .ref (ma 5), .ref (ma 6), .ref (ma 7), .ref (ma 8), .ref (ma 9), .ref (ma 10), .ref (ma 11), .ref (ma 12), .ref (ma 13), .ref (ma 14), .ref (ma 15), .ref (ma 16), .ref (ma 17), .ref (ma 18), .ref (ma 19), .int 0, .ref (ma 21), .ref (ma 22), .ref (ma 23), .ref (ma 24), .ref (ma 25), .ref (ma 26), .ref (ma 27), .ref (ma 28), .ref (ma 29), .ref (ma 30), .ref (ma 31), .ref (ma 32), .ref (ma 33), .ref (ma 34), .ref (ma 35), .ref (ma 36), .ref (ma 37), .int 0, .ref (ma 39), .ref (ma 40), .ref (ma 41), .ref (ma 42), .ref (ma 43), .ref (ma 44), .ref (ma 45), .ref (ma 46), .ref (ma 47), .ref (ma 48), .int 0, .int 0, .int 0, .int 0, .int 0, .int 0, .int 0, .long 0, .int 0, .long 0, .long 0, .long 0, .long 0, .int 0, .int 0, .int 0, .int 0, .long 0])), (ma 39, .inl (G.2 0, 6, .inl (fun _ => 0))), (ma 11, .inl (G.2 4, 96, .inr (.inl (fun _ => 0))))]) (As := [.int z_2, .int z_4, .int 1]) (rest := []) C0 (c_X8_by l G q0 qb qk qg qr b pf z_2 z_4 1 hpf) ok_X8_by (mW926 : Cond.methodLink RL 138 yX8_by ∈ wsT) ⟨Nat.le_of_ble_eq_true rfl, Nat.le_of_ble_eq_true rfl⟩ hP hD hS hA hK hN [0, 1, 2, 3, 4, 5, 6, 7, 8, 9, 10, 11] [12, 13, 14] rfl rfl (by decide) (by decide) (by decide) rfl rfl rfl rfl hl.1 rfl (Nat.le_of_ble_eq_true rfl) ⟨Nat.le_of_ble_eq_true rfl, Nat.le_of_ble_eq_true rfl⟩ dL_law_1470 (fun r_17 u_18 H locs hr_17 hP hD hS => ?_)
    have hP : va_P G.1 xcl [(m0, .inr (9, [.int 0, .int 0, .int 0, .int (-1), .ref (ma 4), .ref (ma 5), .ref (ma 6), .ref (ma 7), .ref (ma 8), .ref (ma 9), .ref (ma 10), .ref (ma 11), .ref (ma 12), .ref (ma 13), .ref (ma 14), .ref (ma 15), .ref (ma 16), .ref (ma 17), .ref (ma 18), .ref (ma 19), .int 0, .ref (ma 21), .ref (ma 22), .ref (ma 23), .ref (ma 24), .ref (ma 25), .ref (ma 26), .ref (ma 27), .ref (ma 28), .ref (ma 29), .ref (ma 30), .ref (ma 31), .ref (ma 32), .ref (ma 33), .ref (ma 34), .ref (ma 35), .ref (ma 36), .ref (ma 37), .int 0, .ref (ma 39), .ref (ma 40), .ref (ma 41), .ref (ma 42), .ref (ma 43), .ref (ma 44), .ref (ma 45), .ref (ma 46), .ref (ma 47), .ref (ma 48), .int 0, .int 0, .int 0, .int 0, .int 0, .int 0, .int 0, .long 0, .int 0, .long 0, .long 0, .long 0, .long 0, .int 0, .int 0, .int 0, .int 0, .long 0])), (ma 39, .inl (G.2 0, 6, .inl (fun _ => 0))), (ma 11, .inl (G.2 4, 96, .inr (.inl (fun _ => 0))))] H := hP
    have hD : va_D A [(m0, .inr (9, [.int 0, .int 0, .int 0, .int (-1), .ref (ma 4), .ref (ma 5), .ref (ma 6), .ref (ma 7), .ref (ma 8), .ref (ma 9), .ref (ma 10), .ref (ma 11), .ref (ma 12), .ref (ma 13), .ref (ma 14), .ref (ma 15), .ref (ma 16), .ref (ma 17), .ref (ma 18), .ref (ma 19), .int 0, .ref (ma 21), .ref (ma 22), .ref (ma 23), .ref (ma 24), .ref (ma 25), .ref (ma 26), .ref (ma 27), .ref (ma 28), .ref (ma 29), .ref (ma 30), .ref (ma 31), .ref (ma 32), .ref (ma 33), .ref (ma 34), .ref (ma 35), .ref (ma 36), .ref (ma 37), .int 0, .ref (ma 39), .ref (ma 40), .ref (ma 41), .ref (ma 42), .ref (ma 43), .ref (ma 44), .ref (ma 45), .ref (ma 46), .ref (ma 47), .ref (ma 48), .int 0, .int 0, .int 0, .int 0, .int 0, .int 0, .int 0, .long 0, .int 0, .long 0, .long 0, .long 0, .long 0, .int 0, .int 0, .int 0, .int 0, .long 0])), (ma 39, .inl (G.2 0, 6, .inl (fun _ => 0))), (ma 11, .inl (G.2 4, 96, .inr (.inl (fun _ => 0))))] := hD
    obtain rfl : r_17 = (-1) := hr_17
    refine lv_aload_n hx hb dL_law_1473 rfl (lv_at hl 1 rfl) ?_
    refine lv_aload_n hx hb dL_law_1474 rfl (lv_at hl 3 rfl) ?_
    refine lv_iload_n hx hb dL_law_1475 rfl (lv_at hl 0 rfl) ?_
    refine lv_iconst (v := 1) hx hb dL_law_1476 (by decide) ?_
    refine lv_iadd hx hb dL_law_1477 ?_
    refine lv_topi (fun z_19 ez_19 => ?_)
    obtain rfl : z_19 = 1 := ez_19.trans (by first | rfl | decide +kernel)
    refine va_sld hx hb hX hbl hbA hS (by unfold vp_in; decide +kernel) dL_law_1478 ?_
    rw [← ez_2]
    refine lv_aload_n hx hb dL_law_1479 rfl (lv_at hl 3 rfl) ?_
    refine lv_iload_n hx hb dL_law_1480 rfl (lv_at hl 0 rfl) ?_
    refine lv_iconst (v := 2) hx hb dL_law_1481 (by decide) ?_
    refine lv_iadd hx hb dL_law_1482 ?_
    refine lv_topi (fun z_20 ez_20 => ?_)
    obtain rfl : z_20 = 2 := ez_20.trans (by first | rfl | decide +kernel)
    refine va_sld hx hb hX hbl hbA hS (by unfold vp_in; decide +kernel) dL_law_1483 ?_
    rw [← ez_4]
    refine lv_aload_n hx hb dL_law_1484 rfl (lv_at hl 3 rfl) ?_
    refine lv_iload_n hx hb dL_law_1485 rfl (lv_at hl 0 rfl) ?_
    refine lv_iconst (v := 3) hx hb dL_law_1486 (by decide) ?_
    refine lv_iadd hx hb dL_law_1487 ?_
    refine lv_topi (fun z_21 ez_21 => ?_)
    obtain rfl : z_21 = 3 := ez_21.trans (by first | rfl | decide +kernel)
    refine va_sld hx hb hX hbl hbA hS (by unfold vp_in; decide +kernel) dL_law_1488 ?_
    rw [← ez_6]
    refine lv_if_eq (tgt := 1496) hx hb dL_law_1489 (by decide) (fun c_22 => absurd c_22 c_7) (fun c_22 => ?_)
    refine lv_iconst (v := 1) hx hb dL_law_1492 (by decide) ?_
    refine lv_goto (tgt := 1497) hx hb dL_law_1493 (by decide) ?_
    refine xVwi (rq := 0) (ci := 9) (wc := [(m0, .inr (9, [.int 0, .int 0, .int 0, .int (-1), .ref (ma 4), .ref (ma 5), .ref (ma 6), .ref (ma 7), .ref (ma 8), .ref (ma 9), .ref (ma 10), .ref (ma 11), .ref (ma 12), .ref (ma 13), .ref (ma 14), .ref (ma 15), .ref (ma 16), .ref (ma 17), .ref (ma 18), .ref (ma 19), .int 0, .ref (ma 21), .ref (ma 22), .ref (ma 23), .ref (ma 24), .ref (ma 25), .ref (ma 26), .ref (ma 27), .ref (ma 28), .ref (ma 29), .ref (ma 30), .ref (ma 31), .ref (ma 32), .ref (ma 33), .ref (ma 34), .ref (ma 35), .ref (ma 36), .ref (ma 37), .int 0, .ref (ma 39), .ref (ma 40), .ref (ma 41), .ref (ma 42), .ref (ma 43), .ref (ma 44), .ref (ma 45), .ref (ma 46), .ref (ma 47), .ref (ma 48), .int 0, .int 0, .int 0, .int 0, .int 0, .int 0, .int 0, .long 0, .int 0, .long 0, .long 0, .long 0, .long 0, .int 0, .int 0, .int 0, .int 0, .long 0])), (ma 39, .inl (G.2 0, 6, .inl (fun _ => 0))), (ma 11, .inl (G.2 4, 96, .inr (.inl (fun _ => 0))))]) (wr := []) (As := [.int z_2, .int z_4, .int 1]) (rest := [.int (-1)]) C0 (c_X9_by l G m0 ma z_2 z_4 1) ok_X9_by (mW939 : Cond.methodLink RL 141 yX9_by ∈ wsT) ⟨Nat.le_of_ble_eq_true rfl, Nat.le_of_ble_eq_true rfl⟩ hP hD hS hA hK hN [0, 1, 2] [] rfl rfl (by decide) (by decide) (by decide) rfl rfl rfl rfl hl.1 rfl (Nat.le_of_ble_eq_true rfl) ⟨Nat.le_of_ble_eq_true rfl, Nat.le_of_ble_eq_true rfl⟩ dL_law_1497 (fun r_23 u_24 H locs hr_23 hP hD hS => ?_)
    have hP : va_P G.1 xcl [] H := hP
    have hD : va_D A [] := hD
    obtain rfl : r_23 = (-1) := hr_23
    refine lv_icmp_eq (tgt := 1789) hx hb dL_law_1500 (by decide) (fun c_25 => ?_) (fun c_25 => absurd c_25 (by decide +kernel))
    exact law_tail C0 hr hlocks hX hbl hbA hA2 hS ls (lv_sub hl [0, 3] rfl)
theorem dL_law_1505 : decode cL_law 1505 = .ok (.aload_n 1, 1) := by decide +kernel
theorem dL_law_1506 : decode cL_law 1506 = .ok (.aload_n 0, 1) := by decide +kernel
theorem dL_law_1507 : decode cL_law 1507 = .ok (.iload_n 3, 1) := by decide +kernel
theorem dL_law_1508 : decode cL_law 1508 = .ok (.iconst 1, 1) := by decide +kernel
theorem dL_law_1509 : decode cL_law 1509 = .ok (.iadd, 1) := by decide +kernel
theorem dL_law_1510 : decode cL_law 1510 = .ok (.iaload, 1) := by decide +kernel
theorem dL_law_1511 : decode cL_law 1511 = .ok (.aload_n 0, 1) := by decide +kernel
theorem dL_law_1512 : decode cL_law 1512 = .ok (.iload_n 3, 1) := by decide +kernel
theorem dL_law_1513 : decode cL_law 1513 = .ok (.iconst 2, 1) := by decide +kernel
theorem dL_law_1514 : decode cL_law 1514 = .ok (.iadd, 1) := by decide +kernel
theorem dL_law_1515 : decode cL_law 1515 = .ok (.iaload, 1) := by decide +kernel
theorem dL_law_1516 : decode cL_law 1516 = .ok (.aload_n 0, 1) := by decide +kernel
theorem dL_law_1517 : decode cL_law 1517 = .ok (.iload_n 3, 1) := by decide +kernel
theorem dL_law_1518 : decode cL_law 1518 = .ok (.iconst 3, 1) := by decide +kernel
theorem dL_law_1519 : decode cL_law 1519 = .ok (.iadd, 1) := by decide +kernel
theorem dL_law_1520 : decode cL_law 1520 = .ok (.iaload, 1) := by decide +kernel
theorem dL_law_1521 : decode cL_law 1521 = .ok (.ifCond .eq 7, 3) := by decide +kernel
theorem dL_law_1524 : decode cL_law 1524 = .ok (.iconst 1, 1) := by decide +kernel
theorem dL_law_1525 : decode cL_law 1525 = .ok (.goto 4, 3) := by decide +kernel
theorem dL_law_1528 : decode cL_law 1528 = .ok (.iconst 0, 1) := by decide +kernel
theorem dL_law_1529 : decode cL_law 1529 = .ok (.invokevirtual 142, 3) := by decide +kernel
theorem dL_law_1532 : decode cL_law 1532 = .ok (.aload_n 2, 1) := by decide +kernel
theorem dL_law_1533 : decode cL_law 1533 = .ok (.aload_n 0, 1) := by decide +kernel
theorem dL_law_1534 : decode cL_law 1534 = .ok (.iload_n 3, 1) := by decide +kernel
theorem dL_law_1535 : decode cL_law 1535 = .ok (.iconst 1, 1) := by decide +kernel
theorem dL_law_1536 : decode cL_law 1536 = .ok (.iadd, 1) := by decide +kernel
theorem dL_law_1537 : decode cL_law 1537 = .ok (.iaload, 1) := by decide +kernel
theorem dL_law_1538 : decode cL_law 1538 = .ok (.aload_n 0, 1) := by decide +kernel
theorem dL_law_1539 : decode cL_law 1539 = .ok (.iload_n 3, 1) := by decide +kernel
theorem dL_law_1540 : decode cL_law 1540 = .ok (.iconst 2, 1) := by decide +kernel
theorem dL_law_1541 : decode cL_law 1541 = .ok (.iadd, 1) := by decide +kernel
theorem dL_law_1542 : decode cL_law 1542 = .ok (.iaload, 1) := by decide +kernel
theorem dL_law_1543 : decode cL_law 1543 = .ok (.aload_n 0, 1) := by decide +kernel
theorem dL_law_1544 : decode cL_law 1544 = .ok (.iload_n 3, 1) := by decide +kernel
theorem dL_law_1545 : decode cL_law 1545 = .ok (.iconst 3, 1) := by decide +kernel
theorem dL_law_1546 : decode cL_law 1546 = .ok (.iadd, 1) := by decide +kernel
theorem dL_law_1547 : decode cL_law 1547 = .ok (.iaload, 1) := by decide +kernel
theorem dL_law_1548 : decode cL_law 1548 = .ok (.ifCond .eq 7, 3) := by decide +kernel
theorem dL_law_1551 : decode cL_law 1551 = .ok (.iconst 1, 1) := by decide +kernel
theorem dL_law_1552 : decode cL_law 1552 = .ok (.goto 4, 3) := by decide +kernel
theorem dL_law_1555 : decode cL_law 1555 = .ok (.iconst 0, 1) := by decide +kernel
theorem dL_law_1556 : decode cL_law 1556 = .ok (.invokevirtual 146, 3) := by decide +kernel
theorem dL_law_1559 : decode cL_law 1559 = .ok (.lcmp, 1) := by decide +kernel
theorem dL_law_1560 : decode cL_law 1560 = .ok (.ifCond .eq 229, 3) := by decide +kernel
set_option maxHeartbeats 4000000 in
set_option maxRecDepth 100000 in
/-- case 28: sum -/
theorem law_28 {q0 : Nat} {qb : Nat} {qk : Nat} {qg : Nat} {qr : Nat} {b : Nat → Nat} {pf : Nat → Option Nat} {kf : Nat → Int32} {b2 : Nat → Nat} {pf2 : Nat → Option Nat} {kf2 : Nat → Int32} {m0 : Nat} {ma : Nat → Nat} {p : Program} {l : Launch} {e : Env} {s : State} {m : MethodId} {below : List Frame} {meth : Method} {c : Code} {G : xG} {sc : Nat} {xs : Nat → Int32} {A : Nat → Prop} (C0 : CallFix p m c code 4 s #[Value.ref sc] wsT RL) (hr : meth.sig.returnType = ret) (hlocks : meth.locks = false) (hK : va_K G.1 xcl (xty G) s) (hN : xN s) (hX : va_X sc 7 xs s s.heap) (hbl : sc < s.heap.size) (hbA : ¬ A sc) (hA : ∀ q : Nat, s.heap.size ≤ q → A q) (hA2 : ∀ q, A q → s.heap.size ≤ q) (hpf : ∀ k, k < 8 → pf k = some (b (16 + k))) (hpf2 : ∀ k, k < 8 → pf2 k = some (b2 (16 + k))) {H : Heap} {locs : List Loc} {ls : Array Slot} (hP : va_P G.1 xcl [(q0, .inr (8, [.ref qb, .ref qk, .ref qg, .ref qr, .int 0, .int 0])), (qr, .inl (G.2 0, 6, .inl (fun _ => 0))), (qb, .inr (0, [.ref (b 0), .ref (b 1), .ref (b 2), .ref (b 3), .ref (b 4), .int 0])), (b 3, .inl (G.2 5, 8, .inr (.inr (.inr (.inr pf))))), (b 16, .inr (4, [.ref (b 24), .ref (b 32), .int 0, .int 0, .int 0, .int 0, .int 0, .int 0, .long 0, .long 0, .long 0])), (b 17, .inr (4, [.ref (b 25), .ref (b 33), .int 0, .int 0, .int 0, .int 0, .int 0, .int 0, .long 0, .long 0, .long 0])), (b 18, .inr (4, [.ref (b 26), .ref (b 34), .int 0, .int 0, .int 0, .int 0, .int 0, .int 0, .long 0, .long 0, .long 0])), (b 19, .inr (4, [.ref (b 27), .ref (b 35), .int 0, .int 0, .int 0, .int 0, .int 0, .int 0, .long 0, .long 0, .long 0])), (b 20, .inr (4, [.ref (b 28), .ref (b 36), .int 0, .int 0, .int 0, .int 0, .int 0, .int 0, .long 0, .long 0, .long 0])), (b 21, .inr (4, [.ref (b 29), .ref (b 37), .int 0, .int 0, .int 0, .int 0, .int 0, .int 0, .long 0, .long 0, .long 0])), (b 22, .inr (4, [.ref (b 30), .ref (b 38), .int 0, .int 0, .int 0, .int 0, .int 0, .int 0, .long 0, .long 0, .long 0])), (b 23, .inr (4, [.ref (b 31), .ref (b 39), .int 0, .int 0, .int 0, .int 0, .int 0, .int 0, .long 0, .long 0, .long 0])), (m0, .inr (9, [.int 0, .int 0, .int 0, .int (-1), .ref (ma 4), .ref (ma 5), .ref (ma 6), .ref (ma 7), .ref (ma 8), .ref (ma 9), .ref (ma 10), .ref (ma 11), .ref (ma 12), .ref (ma 13), .ref (ma 14), .ref (ma 15), .ref (ma 16), .ref (ma 17), .ref (ma 18), .ref (ma 19), .int 0, .ref (ma 21), .ref (ma 22), .ref (ma 23), .ref (ma 24), .ref (ma 25), .ref (ma 26), .ref (ma 27), .ref (ma 28), .ref (ma 29), .ref (ma 30), .ref (ma 31), .ref (ma 32), .ref (ma 33), .ref (ma 34), .ref (ma 35), .ref (ma 36), .ref (ma 37), .int 0, .ref (ma 39), .ref (ma 40), .ref (ma 41), .ref (ma 42), .ref (ma 43), .ref (ma 44), .ref (ma 45), .ref (ma 46), .ref (ma 47), .ref (ma 48), .int 0, .int 0, .int 0, .int 0, .int 0, .int 0, .int 0, .long 0, .int 0, .long 0, .long 0, .long 0, .long 0, .int 0, .int 0, .int 0, .int 0, .long 0])), (ma 39, .inl (G.2 0, 6, .inl (fun _ => 0))), (ma 11, .inl (G.2 4, 96, .inr (.inl (fun _ => 0))))] H) (hD : va_D A [(q0, .inr (8, [.ref qb, .ref qk, .ref qg, .ref qr, .int 0, .int 0])), (qr, .inl (G.2 0, 6, .inl (fun _ => 0))), (qb, .inr (0, [.ref (b 0), .ref (b 1), .ref (b 2), .ref (b 3), .ref (b 4), .int 0])), (b 3, .inl (G.2 5, 8, .inr (.inr (.inr (.inr pf))))), (b 16, .inr (4, [.ref (b 24), .ref (b 32), .int 0, .int 0, .int 0, .int 0, .int 0, .int 0, .long 0, .long 0, .long 0])), (b 17, .inr (4, [.ref (b 25), .ref (b 33), .int 0, .int 0, .int 0, .int 0, .int 0, .int 0, .long 0, .long 0, .long 0])), (b 18, .inr (4, [.ref (b 26), .ref (b 34), .int 0, .int 0, .int 0, .int 0, .int 0, .int 0, .long 0, .long 0, .long 0])), (b 19, .inr (4, [.ref (b 27), .ref (b 35), .int 0, .int 0, .int 0, .int 0, .int 0, .int 0, .long 0, .long 0, .long 0])), (b 20, .inr (4, [.ref (b 28), .ref (b 36), .int 0, .int 0, .int 0, .int 0, .int 0, .int 0, .long 0, .long 0, .long 0])), (b 21, .inr (4, [.ref (b 29), .ref (b 37), .int 0, .int 0, .int 0, .int 0, .int 0, .int 0, .long 0, .long 0, .long 0])), (b 22, .inr (4, [.ref (b 30), .ref (b 38), .int 0, .int 0, .int 0, .int 0, .int 0, .int 0, .long 0, .long 0, .long 0])), (b 23, .inr (4, [.ref (b 31), .ref (b 39), .int 0, .int 0, .int 0, .int 0, .int 0, .int 0, .long 0, .long 0, .long 0])), (m0, .inr (9, [.int 0, .int 0, .int 0, .int (-1), .ref (ma 4), .ref (ma 5), .ref (ma 6), .ref (ma 7), .ref (ma 8), .ref (ma 9), .ref (ma 10), .ref (ma 11), .ref (ma 12), .ref (ma 13), .ref (ma 14), .ref (ma 15), .ref (ma 16), .ref (ma 17), .ref (ma 18), .ref (ma 19), .int 0, .ref (ma 21), .ref (ma 22), .ref (ma 23), .ref (ma 24), .ref (ma 25), .ref (ma 26), .ref (ma 27), .ref (ma 28), .ref (ma 29), .ref (ma 30), .ref (ma 31), .ref (ma 32), .ref (ma 33), .ref (ma 34), .ref (ma 35), .ref (ma 36), .ref (ma 37), .int 0, .ref (ma 39), .ref (ma 40), .ref (ma 41), .ref (ma 42), .ref (ma 43), .ref (ma 44), .ref (ma 45), .ref (ma 46), .ref (ma 47), .ref (ma 48), .int 0, .int 0, .int 0, .int 0, .int 0, .int 0, .int 0, .long 0, .int 0, .long 0, .long 0, .long 0, .long 0, .int 0, .int 0, .int 0, .int 0, .long 0])), (ma 39, .inl (G.2 0, 6, .inl (fun _ => 0))), (ma 11, .inl (G.2 4, 96, .inr (.inl (fun _ => 0))))]) (hS : va_S A s.heap H locs) (hl : lv_has ls 4 [(3, .int 0), (2, .ref m0), (1, .ref q0), (0, .ref sc)]) : W p l e room_1 s m #[Value.ref sc] below meth c H locs 169 136076 (lw_Z below #[Value.ref sc] s) (F0 m 1505 ls []) := by
  obtain ⟨hx, hb, hml, hown, htl⟩ := id C0
  refine lv_aload_n hx hb dL_law_1505 rfl (lv_at hl 2 rfl) ?_
  refine lv_aload_n hx hb dL_law_1506 rfl (lv_at hl 3 rfl) ?_
  refine lv_iload_n hx hb dL_law_1507 rfl (lv_at hl 0 rfl) ?_
  refine lv_iconst (v := 1) hx hb dL_law_1508 (by decide) ?_
  refine lv_iadd hx hb dL_law_1509 ?_
  refine lv_topi (fun z_1 ez_1 => ?_)
  obtain rfl : z_1 = 1 := ez_1.trans (by first | rfl | decide +kernel)
  refine va_sld hx hb hX hbl hbA hS (by unfold vp_in; decide +kernel) dL_law_1510 ?_
  refine lv_topi (fun z_2 ez_2 => ?_)
  refine lv_aload_n hx hb dL_law_1511 rfl (lv_at hl 3 rfl) ?_
  refine lv_iload_n hx hb dL_law_1512 rfl (lv_at hl 0 rfl) ?_
  refine lv_iconst (v := 2) hx hb dL_law_1513 (by decide) ?_
  refine lv_iadd hx hb dL_law_1514 ?_
  refine lv_topi (fun z_3 ez_3 => ?_)
  obtain rfl : z_3 = 2 := ez_3.trans (by first | rfl | decide +kernel)
  refine va_sld hx hb hX hbl hbA hS (by unfold vp_in; decide +kernel) dL_law_1515 ?_
  refine lv_topi (fun z_4 ez_4 => ?_)
  refine lv_aload_n hx hb dL_law_1516 rfl (lv_at hl 3 rfl) ?_
  refine lv_iload_n hx hb dL_law_1517 rfl (lv_at hl 0 rfl) ?_
  refine lv_iconst (v := 3) hx hb dL_law_1518 (by decide) ?_
  refine lv_iadd hx hb dL_law_1519 ?_
  refine lv_topi (fun z_5 ez_5 => ?_)
  obtain rfl : z_5 = 3 := ez_5.trans (by first | rfl | decide +kernel)
  refine va_sld hx hb hX hbl hbA hS (by unfold vp_in; decide +kernel) dL_law_1520 ?_
  refine lv_topi (fun z_6 ez_6 => ?_)
  refine lv_if_eq (tgt := 1528) hx hb dL_law_1521 (by decide) (fun c_7 => ?_) (fun c_7 => ?_)
  · refine lv_iconst (v := 0) hx hb dL_law_1528 (by decide) ?_
    refine xVwl (rq := 0) (ci := 8) (wc := [(q0, .inr (8, [.ref qb, .ref qk, .ref qg, .ref qr, .int 0, .int 0])), (qr, .inl (G.2 0, 6, .inl (fun _ => 0))), (qb, .inr (0, [.ref (b 0), .ref (b 1), .ref (b 2), .ref (b 3), .ref (b 4), .int 0])), (b 3, .inl (G.2 5, 8, .inr (.inr (.inr (.inr pf))))), (b 16, .inr (4, [.ref (b 24), .ref (b 32), .int 0, .int 0, .int 0, .int 0, .int 0, .int 0, .long 0, .long 0, .long 0])), (b 17, .inr (4, [.ref (b 25), .ref (b 33), .int 0, .int 0, .int 0, .int 0, .int 0, .int 0, .long 0, .long 0, .long 0])), (b 18, .inr (4, [.ref (b 26), .ref (b 34), .int 0, .int 0, .int 0, .int 0, .int 0, .int 0, .long 0, .long 0, .long 0])), (b 19, .inr (4, [.ref (b 27), .ref (b 35), .int 0, .int 0, .int 0, .int 0, .int 0, .int 0, .long 0, .long 0, .long 0])), (b 20, .inr (4, [.ref (b 28), .ref (b 36), .int 0, .int 0, .int 0, .int 0, .int 0, .int 0, .long 0, .long 0, .long 0])), (b 21, .inr (4, [.ref (b 29), .ref (b 37), .int 0, .int 0, .int 0, .int 0, .int 0, .int 0, .long 0, .long 0, .long 0])), (b 22, .inr (4, [.ref (b 30), .ref (b 38), .int 0, .int 0, .int 0, .int 0, .int 0, .int 0, .long 0, .long 0, .long 0])), (b 23, .inr (4, [.ref (b 31), .ref (b 39), .int 0, .int 0, .int 0, .int 0, .int 0, .int 0, .long 0, .long 0, .long 0]))]) (wr := [(m0, .inr (9, [.int 0, .int 0, .int 0, .int (-1), .ref (ma 4), .ref (ma 5), .ref (ma 6), .ref (ma 7), .ref (ma 8), .ref (ma 9), .ref (ma 10), .ref (ma 11), .ref (ma 12), .ref (ma 13), .ref (ma 14), .ref (ma 15), .ref (ma 16), .ref (ma 17), .ref (ma 18), .ref (ma 19), .int 0, .ref (ma 21), .ref (ma 22), .ref (ma 23), .ref (ma 24), .ref (ma 25), .ref (ma 26), .ref (ma 27), .ref (ma 28), .ref (ma 29), .ref (ma 30), .ref (ma 31), .ref (ma 32), .ref (ma 33), .ref (ma 34), .ref (ma 35), .ref (ma 36), .ref (ma 37), .int 0, .ref (ma 39), .ref (ma 40), .ref (ma 41), .ref (ma 42), .ref (ma 43), .ref (ma 44), .ref (ma 45), .ref (ma 46), .ref (ma 47), .ref (ma 48), .int 0, .int 0, .int 0, .int 0, .int 0, .int 0, .int 0, .long 0, .int 0, .long 0, .long 0, .long 0, .long 0, .int 0, .int 0, .int 0, .int 0, .long 0])), (ma 39, .inl (G.2 0, 6, .inl (fun _ => 0))), (ma 11, .inl (G.2 4, 96, .inr (.inl (fun _ => 0))))]) (As := [.int z_2, .int z_4, .int 0]) (rest := []) C0 (c_X8_sum l G q0 qb qk qg qr b pf z_2 z_4 0 hpf) ok_X8_sum (mW943 : Cond.methodLink RL 142 yX8_sum ∈ wsT) ⟨Nat.le_of_ble_eq_true rfl, Nat.le_of_ble_eq_true rfl⟩ hP hD hS hA hK hN [0, 1, 2, 3, 4, 5, 6, 7, 8, 9, 10, 11] [12, 13, 14] rfl rfl (by decide) (by decide) (by decide) rfl rfl rfl rfl hl.1 rfl (Nat.le_of_ble_eq_true rfl) ⟨Nat.le_of_ble_eq_true rfl, Nat.le_of_ble_eq_true rfl⟩ dL_law_1529 (fun r_8 u_9 H locs hr_8 hP hD hS => ?_)
    have hP : va_P G.1 xcl [(m0, .inr (9, [.int 0, .int 0, .int 0, .int (-1), .ref (ma 4), .ref (ma 5), .ref (ma 6), .ref (ma 7), .ref (ma 8), .ref (ma 9), .ref (ma 10), .ref (ma 11), .ref (ma 12), .ref (ma 13), .ref (ma 14), .ref (ma 15), .ref (ma 16), .ref (ma 17), .ref (ma 18), .ref (ma 19), .int 0, .ref (ma 21), .ref (ma 22), .ref (ma 23), .ref (ma 24), .ref (ma 25), .ref (ma 26), .ref (ma 27), .ref (ma 28), .ref (ma 29), .ref (ma 30), .ref (ma 31), .ref (ma 32), .ref (ma 33), .ref (ma 34), .ref (ma 35), .ref (ma 36), .ref (ma 37), .int 0, .ref (ma 39), .ref (ma 40), .ref (ma 41), .ref (ma 42), .ref (ma 43), .ref (ma 44), .ref (ma 45), .ref (ma 46), .ref (ma 47), .ref (ma 48), .int 0, .int 0, .int 0, .int 0, .int 0, .int 0, .int 0, .long 0, .int 0, .long 0, .long 0, .long 0, .long 0, .int 0, .int 0, .int 0, .int 0, .long 0])), (ma 39, .inl (G.2 0, 6, .inl (fun _ => 0))), (ma 11, .inl (G.2 4, 96, .inr (.inl (fun _ => 0))))] H := hP
    have hD : va_D A [(m0, .inr (9, [.int 0, .int 0, .int 0, .int (-1), .ref (ma 4), .ref (ma 5), .ref (ma 6), .ref (ma 7), .ref (ma 8), .ref (ma 9), .ref (ma 10), .ref (ma 11), .ref (ma 12), .ref (ma 13), .ref (ma 14), .ref (ma 15), .ref (ma 16), .ref (ma 17), .ref (ma 18), .ref (ma 19), .int 0, .ref (ma 21), .ref (ma 22), .ref (ma 23), .ref (ma 24), .ref (ma 25), .ref (ma 26), .ref (ma 27), .ref (ma 28), .ref (ma 29), .ref (ma 30), .ref (ma 31), .ref (ma 32), .ref (ma 33), .ref (ma 34), .ref (ma 35), .ref (ma 36), .ref (ma 37), .int 0, .ref (ma 39), .ref (ma 40), .ref (ma 41), .ref (ma 42), .ref (ma 43), .ref (ma 44), .ref (ma 45), .ref (ma 46), .ref (ma 47), .ref (ma 48), .int 0, .int 0, .int 0, .int 0, .int 0, .int 0, .int 0, .long 0, .int 0, .long 0, .long 0, .long 0, .long 0, .int 0, .int 0, .int 0, .int 0, .long 0])), (ma 39, .inl (G.2 0, 6, .inl (fun _ => 0))), (ma 11, .inl (G.2 4, 96, .inr (.inl (fun _ => 0))))] := hD
    obtain rfl : r_8 = (-1) := hr_8
    refine lv_aload_n hx hb dL_law_1532 rfl (lv_at hl 1 rfl) ?_
    refine lv_aload_n hx hb dL_law_1533 rfl (lv_at hl 3 rfl) ?_
    refine lv_iload_n hx hb dL_law_1534 rfl (lv_at hl 0 rfl) ?_
    refine lv_iconst (v := 1) hx hb dL_law_1535 (by decide) ?_
    refine lv_iadd hx hb dL_law_1536 ?_
    refine lv_topi (fun z_10 ez_10 => ?_)
    obtain rfl : z_10 = 1 := ez_10.trans (by first | rfl | decide +kernel)
    refine va_sld hx hb hX hbl hbA hS (by unfold vp_in; decide +kernel) dL_law_1537 ?_
    rw [← ez_2]
    refine lv_aload_n hx hb dL_law_1538 rfl (lv_at hl 3 rfl) ?_
    refine lv_iload_n hx hb dL_law_1539 rfl (lv_at hl 0 rfl) ?_
    refine lv_iconst (v := 2) hx hb dL_law_1540 (by decide) ?_
    refine lv_iadd hx hb dL_law_1541 ?_
    refine lv_topi (fun z_11 ez_11 => ?_)
    obtain rfl : z_11 = 2 := ez_11.trans (by first | rfl | decide +kernel)
    refine va_sld hx hb hX hbl hbA hS (by unfold vp_in; decide +kernel) dL_law_1542 ?_
    rw [← ez_4]
    refine lv_aload_n hx hb dL_law_1543 rfl (lv_at hl 3 rfl) ?_
    refine lv_iload_n hx hb dL_law_1544 rfl (lv_at hl 0 rfl) ?_
    refine lv_iconst (v := 3) hx hb dL_law_1545 (by decide) ?_
    refine lv_iadd hx hb dL_law_1546 ?_
    refine lv_topi (fun z_12 ez_12 => ?_)
    obtain rfl : z_12 = 3 := ez_12.trans (by first | rfl | decide +kernel)
    refine va_sld hx hb hX hbl hbA hS (by unfold vp_in; decide +kernel) dL_law_1547 ?_
    rw [← ez_6]
    refine lv_if_eq (tgt := 1555) hx hb dL_law_1548 (by decide) (fun c_13 => ?_) (fun c_13 => absurd c_7 c_13)
    refine lv_iconst (v := 0) hx hb dL_law_1555 (by decide) ?_
    refine xVwl (rq := 0) (ci := 9) (wc := [(m0, .inr (9, [.int 0, .int 0, .int 0, .int (-1), .ref (ma 4), .ref (ma 5), .ref (ma 6), .ref (ma 7), .ref (ma 8), .ref (ma 9), .ref (ma 10), .ref (ma 11), .ref (ma 12), .ref (ma 13), .ref (ma 14), .ref (ma 15), .ref (ma 16), .ref (ma 17), .ref (ma 18), .ref (ma 19), .int 0, .ref (ma 21), .ref (ma 22), .ref (ma 23), .ref (ma 24), .ref (ma 25), .ref (ma 26), .ref (ma 27), .ref (ma 28), .ref (ma 29), .ref (ma 30), .ref (ma 31), .ref (ma 32), .ref (ma 33), .ref (ma 34), .ref (ma 35), .ref (ma 36), .ref (ma 37), .int 0, .ref (ma 39), .ref (ma 40), .ref (ma 41), .ref (ma 42), .ref (ma 43), .ref (ma 44), .ref (ma 45), .ref (ma 46), .ref (ma 47), .ref (ma 48), .int 0, .int 0, .int 0, .int 0, .int 0, .int 0, .int 0, .long 0, .int 0, .long 0, .long 0, .long 0, .long 0, .int 0, .int 0, .int 0, .int 0, .long 0])), (ma 39, .inl (G.2 0, 6, .inl (fun _ => 0))), (ma 11, .inl (G.2 4, 96, .inr (.inl (fun _ => 0))))]) (wr := []) (As := [.int z_2, .int z_4, .int 0]) (rest := [.long (-1)]) C0 (c_X9_sum l G m0 ma z_2 z_4 0) ok_X9_sum (mW987 : Cond.methodLink RL 146 yX9_sum ∈ wsT) ⟨Nat.le_of_ble_eq_true rfl, Nat.le_of_ble_eq_true rfl⟩ hP hD hS hA hK hN [0, 1, 2] [] rfl rfl (by decide) (by decide) (by decide) rfl rfl rfl rfl hl.1 rfl (Nat.le_of_ble_eq_true rfl) ⟨Nat.le_of_ble_eq_true rfl, Nat.le_of_ble_eq_true rfl⟩ dL_law_1556 (fun r_14 u_15 H locs hr_14 hP hD hS => ?_)
    have hP : va_P G.1 xcl [] H := hP
    have hD : va_D A [] := hD
    obtain rfl : r_14 = (-1) := hr_14
    refine W.lcmp hx hb dL_law_1559 ?_
    refine lv_topi (fun z_16 ez_16 => ?_)
    obtain rfl : z_16 = 0 := ez_16.trans (by first | rfl | decide +kernel)
    refine lv_if_eq (tgt := 1789) hx hb dL_law_1560 (by decide) (fun c_17 => ?_) (fun c_17 => absurd c_17 (by decide +kernel))
    exact law_tail C0 hr hlocks hX hbl hbA hA2 hS ls (lv_sub hl [0, 3] rfl)
  · refine lv_iconst (v := 1) hx hb dL_law_1524 (by decide) ?_
    refine lv_goto (tgt := 1529) hx hb dL_law_1525 (by decide) ?_
    refine xVwl (rq := 0) (ci := 8) (wc := [(q0, .inr (8, [.ref qb, .ref qk, .ref qg, .ref qr, .int 0, .int 0])), (qr, .inl (G.2 0, 6, .inl (fun _ => 0))), (qb, .inr (0, [.ref (b 0), .ref (b 1), .ref (b 2), .ref (b 3), .ref (b 4), .int 0])), (b 3, .inl (G.2 5, 8, .inr (.inr (.inr (.inr pf))))), (b 16, .inr (4, [.ref (b 24), .ref (b 32), .int 0, .int 0, .int 0, .int 0, .int 0, .int 0, .long 0, .long 0, .long 0])), (b 17, .inr (4, [.ref (b 25), .ref (b 33), .int 0, .int 0, .int 0, .int 0, .int 0, .int 0, .long 0, .long 0, .long 0])), (b 18, .inr (4, [.ref (b 26), .ref (b 34), .int 0, .int 0, .int 0, .int 0, .int 0, .int 0, .long 0, .long 0, .long 0])), (b 19, .inr (4, [.ref (b 27), .ref (b 35), .int 0, .int 0, .int 0, .int 0, .int 0, .int 0, .long 0, .long 0, .long 0])), (b 20, .inr (4, [.ref (b 28), .ref (b 36), .int 0, .int 0, .int 0, .int 0, .int 0, .int 0, .long 0, .long 0, .long 0])), (b 21, .inr (4, [.ref (b 29), .ref (b 37), .int 0, .int 0, .int 0, .int 0, .int 0, .int 0, .long 0, .long 0, .long 0])), (b 22, .inr (4, [.ref (b 30), .ref (b 38), .int 0, .int 0, .int 0, .int 0, .int 0, .int 0, .long 0, .long 0, .long 0])), (b 23, .inr (4, [.ref (b 31), .ref (b 39), .int 0, .int 0, .int 0, .int 0, .int 0, .int 0, .long 0, .long 0, .long 0]))]) (wr := [(m0, .inr (9, [.int 0, .int 0, .int 0, .int (-1), .ref (ma 4), .ref (ma 5), .ref (ma 6), .ref (ma 7), .ref (ma 8), .ref (ma 9), .ref (ma 10), .ref (ma 11), .ref (ma 12), .ref (ma 13), .ref (ma 14), .ref (ma 15), .ref (ma 16), .ref (ma 17), .ref (ma 18), .ref (ma 19), .int 0, .ref (ma 21), .ref (ma 22), .ref (ma 23), .ref (ma 24), .ref (ma 25), .ref (ma 26), .ref (ma 27), .ref (ma 28), .ref (ma 29), .ref (ma 30), .ref (ma 31), .ref (ma 32), .ref (ma 33), .ref (ma 34), .ref (ma 35), .ref (ma 36), .ref (ma 37), .int 0, .ref (ma 39), .ref (ma 40), .ref (ma 41), .ref (ma 42), .ref (ma 43), .ref (ma 44), .ref (ma 45), .ref (ma 46), .ref (ma 47), .ref (ma 48), .int 0, .int 0, .int 0, .int 0, .int 0, .int 0, .int 0, .long 0, .int 0, .long 0, .long 0, .long 0, .long 0, .int 0, .int 0, .int 0, .int 0, .long 0])), (ma 39, .inl (G.2 0, 6, .inl (fun _ => 0))), (ma 11, .inl (G.2 4, 96, .inr (.inl (fun _ => 0))))]) (As := [.int z_2, .int z_4, .int 1]) (rest := []) C0 (c_X8_sum l G q0 qb qk qg qr b pf z_2 z_4 1 hpf) ok_X8_sum (mW943 : Cond.methodLink RL 142 yX8_sum ∈ wsT) ⟨Nat.le_of_ble_eq_true rfl, Nat.le_of_ble_eq_true rfl⟩ hP hD hS hA hK hN [0, 1, 2, 3, 4, 5, 6, 7, 8, 9, 10, 11] [12, 13, 14] rfl rfl (by decide) (by decide) (by decide) rfl rfl rfl rfl hl.1 rfl (Nat.le_of_ble_eq_true rfl) ⟨Nat.le_of_ble_eq_true rfl, Nat.le_of_ble_eq_true rfl⟩ dL_law_1529 (fun r_18 u_19 H locs hr_18 hP hD hS => ?_)
    have hP : va_P G.1 xcl [(m0, .inr (9, [.int 0, .int 0, .int 0, .int (-1), .ref (ma 4), .ref (ma 5), .ref (ma 6), .ref (ma 7), .ref (ma 8), .ref (ma 9), .ref (ma 10), .ref (ma 11), .ref (ma 12), .ref (ma 13), .ref (ma 14), .ref (ma 15), .ref (ma 16), .ref (ma 17), .ref (ma 18), .ref (ma 19), .int 0, .ref (ma 21), .ref (ma 22), .ref (ma 23), .ref (ma 24), .ref (ma 25), .ref (ma 26), .ref (ma 27), .ref (ma 28), .ref (ma 29), .ref (ma 30), .ref (ma 31), .ref (ma 32), .ref (ma 33), .ref (ma 34), .ref (ma 35), .ref (ma 36), .ref (ma 37), .int 0, .ref (ma 39), .ref (ma 40), .ref (ma 41), .ref (ma 42), .ref (ma 43), .ref (ma 44), .ref (ma 45), .ref (ma 46), .ref (ma 47), .ref (ma 48), .int 0, .int 0, .int 0, .int 0, .int 0, .int 0, .int 0, .long 0, .int 0, .long 0, .long 0, .long 0, .long 0, .int 0, .int 0, .int 0, .int 0, .long 0])), (ma 39, .inl (G.2 0, 6, .inl (fun _ => 0))), (ma 11, .inl (G.2 4, 96, .inr (.inl (fun _ => 0))))] H := hP
    have hD : va_D A [(m0, .inr (9, [.int 0, .int 0, .int 0, .int (-1), .ref (ma 4), .ref (ma 5), .ref (ma 6), .ref (ma 7), .ref (ma 8), .ref (ma 9), .ref (ma 10), .ref (ma 11), .ref (ma 12), .ref (ma 13), .ref (ma 14), .ref (ma 15), .ref (ma 16), .ref (ma 17), .ref (ma 18), .ref (ma 19), .int 0, .ref (ma 21), .ref (ma 22), .ref (ma 23), .ref (ma 24), .ref (ma 25), .ref (ma 26), .ref (ma 27), .ref (ma 28), .ref (ma 29), .ref (ma 30), .ref (ma 31), .ref (ma 32), .ref (ma 33), .ref (ma 34), .ref (ma 35), .ref (ma 36), .ref (ma 37), .int 0, .ref (ma 39), .ref (ma 40), .ref (ma 41), .ref (ma 42), .ref (ma 43), .ref (ma 44), .ref (ma 45), .ref (ma 46), .ref (ma 47), .ref (ma 48), .int 0, .int 0, .int 0, .int 0, .int 0, .int 0, .int 0, .long 0, .int 0, .long 0, .long 0, .long 0, .long 0, .int 0, .int 0, .int 0, .int 0, .long 0])), (ma 39, .inl (G.2 0, 6, .inl (fun _ => 0))), (ma 11, .inl (G.2 4, 96, .inr (.inl (fun _ => 0))))] := hD
    obtain rfl : r_18 = (-1) := hr_18
    refine lv_aload_n hx hb dL_law_1532 rfl (lv_at hl 1 rfl) ?_
    refine lv_aload_n hx hb dL_law_1533 rfl (lv_at hl 3 rfl) ?_
    refine lv_iload_n hx hb dL_law_1534 rfl (lv_at hl 0 rfl) ?_
    refine lv_iconst (v := 1) hx hb dL_law_1535 (by decide) ?_
    refine lv_iadd hx hb dL_law_1536 ?_
    refine lv_topi (fun z_20 ez_20 => ?_)
    obtain rfl : z_20 = 1 := ez_20.trans (by first | rfl | decide +kernel)
    refine va_sld hx hb hX hbl hbA hS (by unfold vp_in; decide +kernel) dL_law_1537 ?_
    rw [← ez_2]
    refine lv_aload_n hx hb dL_law_1538 rfl (lv_at hl 3 rfl) ?_
    refine lv_iload_n hx hb dL_law_1539 rfl (lv_at hl 0 rfl) ?_
    refine lv_iconst (v := 2) hx hb dL_law_1540 (by decide) ?_
    refine lv_iadd hx hb dL_law_1541 ?_
    refine lv_topi (fun z_21 ez_21 => ?_)
    obtain rfl : z_21 = 2 := ez_21.trans (by first | rfl | decide +kernel)
    refine va_sld hx hb hX hbl hbA hS (by unfold vp_in; decide +kernel) dL_law_1542 ?_
    rw [← ez_4]
    refine lv_aload_n hx hb dL_law_1543 rfl (lv_at hl 3 rfl) ?_
    refine lv_iload_n hx hb dL_law_1544 rfl (lv_at hl 0 rfl) ?_
    refine lv_iconst (v := 3) hx hb dL_law_1545 (by decide) ?_
    refine lv_iadd hx hb dL_law_1546 ?_
    refine lv_topi (fun z_22 ez_22 => ?_)
    obtain rfl : z_22 = 3 := ez_22.trans (by first | rfl | decide +kernel)
    refine va_sld hx hb hX hbl hbA hS (by unfold vp_in; decide +kernel) dL_law_1547 ?_
    rw [← ez_6]
    refine lv_if_eq (tgt := 1555) hx hb dL_law_1548 (by decide) (fun c_23 => absurd c_23 c_7) (fun c_23 => ?_)
    refine lv_iconst (v := 1) hx hb dL_law_1551 (by decide) ?_
    refine lv_goto (tgt := 1556) hx hb dL_law_1552 (by decide) ?_
    refine xVwl (rq := 0) (ci := 9) (wc := [(m0, .inr (9, [.int 0, .int 0, .int 0, .int (-1), .ref (ma 4), .ref (ma 5), .ref (ma 6), .ref (ma 7), .ref (ma 8), .ref (ma 9), .ref (ma 10), .ref (ma 11), .ref (ma 12), .ref (ma 13), .ref (ma 14), .ref (ma 15), .ref (ma 16), .ref (ma 17), .ref (ma 18), .ref (ma 19), .int 0, .ref (ma 21), .ref (ma 22), .ref (ma 23), .ref (ma 24), .ref (ma 25), .ref (ma 26), .ref (ma 27), .ref (ma 28), .ref (ma 29), .ref (ma 30), .ref (ma 31), .ref (ma 32), .ref (ma 33), .ref (ma 34), .ref (ma 35), .ref (ma 36), .ref (ma 37), .int 0, .ref (ma 39), .ref (ma 40), .ref (ma 41), .ref (ma 42), .ref (ma 43), .ref (ma 44), .ref (ma 45), .ref (ma 46), .ref (ma 47), .ref (ma 48), .int 0, .int 0, .int 0, .int 0, .int 0, .int 0, .int 0, .long 0, .int 0, .long 0, .long 0, .long 0, .long 0, .int 0, .int 0, .int 0, .int 0, .long 0])), (ma 39, .inl (G.2 0, 6, .inl (fun _ => 0))), (ma 11, .inl (G.2 4, 96, .inr (.inl (fun _ => 0))))]) (wr := []) (As := [.int z_2, .int z_4, .int 1]) (rest := [.long (-1)]) C0 (c_X9_sum l G m0 ma z_2 z_4 1) ok_X9_sum (mW987 : Cond.methodLink RL 146 yX9_sum ∈ wsT) ⟨Nat.le_of_ble_eq_true rfl, Nat.le_of_ble_eq_true rfl⟩ hP hD hS hA hK hN [0, 1, 2] [] rfl rfl (by decide) (by decide) (by decide) rfl rfl rfl rfl hl.1 rfl (Nat.le_of_ble_eq_true rfl) ⟨Nat.le_of_ble_eq_true rfl, Nat.le_of_ble_eq_true rfl⟩ dL_law_1556 (fun r_24 u_25 H locs hr_24 hP hD hS => ?_)
    have hP : va_P G.1 xcl [] H := hP
    have hD : va_D A [] := hD
    obtain rfl : r_24 = (-1) := hr_24
    refine W.lcmp hx hb dL_law_1559 ?_
    refine lv_topi (fun z_26 ez_26 => ?_)
    obtain rfl : z_26 = 0 := ez_26.trans (by first | rfl | decide +kernel)
    refine lv_if_eq (tgt := 1789) hx hb dL_law_1560 (by decide) (fun c_27 => ?_) (fun c_27 => absurd c_27 (by decide +kernel))
    exact law_tail C0 hr hlocks hX hbl hbA hA2 hS ls (lv_sub hl [0, 3] rfl)
theorem dL_law_1565 : decode cL_law 1565 = .ok (.aload_n 1, 1) := by decide +kernel
theorem dL_law_1566 : decode cL_law 1566 = .ok (.aload_n 0, 1) := by decide +kernel
theorem dL_law_1567 : decode cL_law 1567 = .ok (.iload_n 3, 1) := by decide +kernel
theorem dL_law_1568 : decode cL_law 1568 = .ok (.iconst 1, 1) := by decide +kernel
theorem dL_law_1569 : decode cL_law 1569 = .ok (.iadd, 1) := by decide +kernel
theorem dL_law_1570 : decode cL_law 1570 = .ok (.iaload, 1) := by decide +kernel
theorem dL_law_1571 : decode cL_law 1571 = .ok (.aload_n 0, 1) := by decide +kernel
theorem dL_law_1572 : decode cL_law 1572 = .ok (.iload_n 3, 1) := by decide +kernel
theorem dL_law_1573 : decode cL_law 1573 = .ok (.iconst 2, 1) := by decide +kernel
theorem dL_law_1574 : decode cL_law 1574 = .ok (.iadd, 1) := by decide +kernel
theorem dL_law_1575 : decode cL_law 1575 = .ok (.iaload, 1) := by decide +kernel
theorem dL_law_1576 : decode cL_law 1576 = .ok (.aload_n 0, 1) := by decide +kernel
theorem dL_law_1577 : decode cL_law 1577 = .ok (.iload_n 3, 1) := by decide +kernel
theorem dL_law_1578 : decode cL_law 1578 = .ok (.iconst 3, 1) := by decide +kernel
theorem dL_law_1579 : decode cL_law 1579 = .ok (.iadd, 1) := by decide +kernel
theorem dL_law_1580 : decode cL_law 1580 = .ok (.iaload, 1) := by decide +kernel
theorem dL_law_1581 : decode cL_law 1581 = .ok (.aload_n 0, 1) := by decide +kernel
theorem dL_law_1582 : decode cL_law 1582 = .ok (.iload_n 3, 1) := by decide +kernel
theorem dL_law_1583 : decode cL_law 1583 = .ok (.iconst 4, 1) := by decide +kernel
theorem dL_law_1584 : decode cL_law 1584 = .ok (.iadd, 1) := by decide +kernel
theorem dL_law_1585 : decode cL_law 1585 = .ok (.iaload, 1) := by decide +kernel
theorem dL_law_1586 : decode cL_law 1586 = .ok (.ifCond .eq 7, 3) := by decide +kernel
theorem dL_law_1589 : decode cL_law 1589 = .ok (.iconst 1, 1) := by decide +kernel
theorem dL_law_1590 : decode cL_law 1590 = .ok (.goto 4, 3) := by decide +kernel
theorem dL_law_1593 : decode cL_law 1593 = .ok (.iconst 0, 1) := by decide +kernel
theorem dL_law_1594 : decode cL_law 1594 = .ok (.invokevirtual 147, 3) := by decide +kernel
theorem dL_law_1597 : decode cL_law 1597 = .ok (.aload_n 2, 1) := by decide +kernel
theorem dL_law_1598 : decode cL_law 1598 = .ok (.aload_n 0, 1) := by decide +kernel
theorem dL_law_1599 : decode cL_law 1599 = .ok (.iload_n 3, 1) := by decide +kernel
theorem dL_law_1600 : decode cL_law 1600 = .ok (.iconst 1, 1) := by decide +kernel
theorem dL_law_1601 : decode cL_law 1601 = .ok (.iadd, 1) := by decide +kernel
theorem dL_law_1602 : decode cL_law 1602 = .ok (.iaload, 1) := by decide +kernel
theorem dL_law_1603 : decode cL_law 1603 = .ok (.aload_n 0, 1) := by decide +kernel
theorem dL_law_1604 : decode cL_law 1604 = .ok (.iload_n 3, 1) := by decide +kernel
theorem dL_law_1605 : decode cL_law 1605 = .ok (.iconst 2, 1) := by decide +kernel
theorem dL_law_1606 : decode cL_law 1606 = .ok (.iadd, 1) := by decide +kernel
theorem dL_law_1607 : decode cL_law 1607 = .ok (.iaload, 1) := by decide +kernel
theorem dL_law_1608 : decode cL_law 1608 = .ok (.aload_n 0, 1) := by decide +kernel
theorem dL_law_1609 : decode cL_law 1609 = .ok (.iload_n 3, 1) := by decide +kernel
theorem dL_law_1610 : decode cL_law 1610 = .ok (.iconst 3, 1) := by decide +kernel
theorem dL_law_1611 : decode cL_law 1611 = .ok (.iadd, 1) := by decide +kernel
theorem dL_law_1612 : decode cL_law 1612 = .ok (.iaload, 1) := by decide +kernel
theorem dL_law_1613 : decode cL_law 1613 = .ok (.aload_n 0, 1) := by decide +kernel
theorem dL_law_1614 : decode cL_law 1614 = .ok (.iload_n 3, 1) := by decide +kernel
theorem dL_law_1615 : decode cL_law 1615 = .ok (.iconst 4, 1) := by decide +kernel
theorem dL_law_1616 : decode cL_law 1616 = .ok (.iadd, 1) := by decide +kernel
theorem dL_law_1617 : decode cL_law 1617 = .ok (.iaload, 1) := by decide +kernel
theorem dL_law_1618 : decode cL_law 1618 = .ok (.ifCond .eq 7, 3) := by decide +kernel
theorem dL_law_1621 : decode cL_law 1621 = .ok (.iconst 1, 1) := by decide +kernel
theorem dL_law_1622 : decode cL_law 1622 = .ok (.goto 4, 3) := by decide +kernel
theorem dL_law_1625 : decode cL_law 1625 = .ok (.iconst 0, 1) := by decide +kernel
theorem dL_law_1626 : decode cL_law 1626 = .ok (.invokevirtual 151, 3) := by decide +kernel
theorem dL_law_1629 : decode cL_law 1629 = .ok (.lcmp, 1) := by decide +kernel
theorem dL_law_1630 : decode cL_law 1630 = .ok (.ifCond .eq 159, 3) := by decide +kernel
set_option maxHeartbeats 4000000 in
set_option maxRecDepth 100000 in
/-- case 29: as -/
theorem law_29 {q0 : Nat} {qb : Nat} {qk : Nat} {qg : Nat} {qr : Nat} {b : Nat → Nat} {pf : Nat → Option Nat} {kf : Nat → Int32} {b2 : Nat → Nat} {pf2 : Nat → Option Nat} {kf2 : Nat → Int32} {m0 : Nat} {ma : Nat → Nat} {p : Program} {l : Launch} {e : Env} {s : State} {m : MethodId} {below : List Frame} {meth : Method} {c : Code} {G : xG} {sc : Nat} {xs : Nat → Int32} {A : Nat → Prop} (C0 : CallFix p m c code 4 s #[Value.ref sc] wsT RL) (hr : meth.sig.returnType = ret) (hlocks : meth.locks = false) (hK : va_K G.1 xcl (xty G) s) (hN : xN s) (hX : va_X sc 7 xs s s.heap) (hbl : sc < s.heap.size) (hbA : ¬ A sc) (hA : ∀ q : Nat, s.heap.size ≤ q → A q) (hA2 : ∀ q, A q → s.heap.size ≤ q) (hpf : ∀ k, k < 8 → pf k = some (b (16 + k))) (hpf2 : ∀ k, k < 8 → pf2 k = some (b2 (16 + k))) {H : Heap} {locs : List Loc} {ls : Array Slot} (hP : va_P G.1 xcl [(q0, .inr (8, [.ref qb, .ref qk, .ref qg, .ref qr, .int 0, .int 0])), (qr, .inl (G.2 0, 6, .inl (fun _ => 0))), (qb, .inr (0, [.ref (b 0), .ref (b 1), .ref (b 2), .ref (b 3), .ref (b 4), .int 0])), (b 3, .inl (G.2 5, 8, .inr (.inr (.inr (.inr pf))))), (b 16, .inr (4, [.ref (b 24), .ref (b 32), .int 0, .int 0, .int 0, .int 0, .int 0, .int 0, .long 0, .long 0, .long 0])), (b 17, .inr (4, [.ref (b 25), .ref (b 33), .int 0, .int 0, .int 0, .int 0, .int 0, .int 0, .long 0, .long 0, .long 0])), (b 18, .inr (4, [.ref (b 26), .ref (b 34), .int 0, .int 0, .int 0, .int 0, .int 0, .int 0, .long 0, .long 0, .long 0])), (b 19, .inr (4, [.ref (b 27), .ref (b 35), .int 0, .int 0, .int 0, .int 0, .int 0, .int 0, .long 0, .long 0, .long 0])), (b 20, .inr (4, [.ref (b 28), .ref (b 36), .int 0, .int 0, .int 0, .int 0, .int 0, .int 0, .long 0, .long 0, .long 0])), (b 21, .inr (4, [.ref (b 29), .ref (b 37), .int 0, .int 0, .int 0, .int 0, .int 0, .int 0, .long 0, .long 0, .long 0])), (b 22, .inr (4, [.ref (b 30), .ref (b 38), .int 0, .int 0, .int 0, .int 0, .int 0, .int 0, .long 0, .long 0, .long 0])), (b 23, .inr (4, [.ref (b 31), .ref (b 39), .int 0, .int 0, .int 0, .int 0, .int 0, .int 0, .long 0, .long 0, .long 0])), (m0, .inr (9, [.int 0, .int 0, .int 0, .int (-1), .ref (ma 4), .ref (ma 5), .ref (ma 6), .ref (ma 7), .ref (ma 8), .ref (ma 9), .ref (ma 10), .ref (ma 11), .ref (ma 12), .ref (ma 13), .ref (ma 14), .ref (ma 15), .ref (ma 16), .ref (ma 17), .ref (ma 18), .ref (ma 19), .int 0, .ref (ma 21), .ref (ma 22), .ref (ma 23), .ref (ma 24), .ref (ma 25), .ref (ma 26), .ref (ma 27), .ref (ma 28), .ref (ma 29), .ref (ma 30), .ref (ma 31), .ref (ma 32), .ref (ma 33), .ref (ma 34), .ref (ma 35), .ref (ma 36), .ref (ma 37), .int 0, .ref (ma 39), .ref (ma 40), .ref (ma 41), .ref (ma 42), .ref (ma 43), .ref (ma 44), .ref (ma 45), .ref (ma 46), .ref (ma 47), .ref (ma 48), .int 0, .int 0, .int 0, .int 0, .int 0, .int 0, .int 0, .long 0, .int 0, .long 0, .long 0, .long 0, .long 0, .int 0, .int 0, .int 0, .int 0, .long 0])), (ma 39, .inl (G.2 0, 6, .inl (fun _ => 0))), (ma 11, .inl (G.2 4, 96, .inr (.inl (fun _ => 0))))] H) (hD : va_D A [(q0, .inr (8, [.ref qb, .ref qk, .ref qg, .ref qr, .int 0, .int 0])), (qr, .inl (G.2 0, 6, .inl (fun _ => 0))), (qb, .inr (0, [.ref (b 0), .ref (b 1), .ref (b 2), .ref (b 3), .ref (b 4), .int 0])), (b 3, .inl (G.2 5, 8, .inr (.inr (.inr (.inr pf))))), (b 16, .inr (4, [.ref (b 24), .ref (b 32), .int 0, .int 0, .int 0, .int 0, .int 0, .int 0, .long 0, .long 0, .long 0])), (b 17, .inr (4, [.ref (b 25), .ref (b 33), .int 0, .int 0, .int 0, .int 0, .int 0, .int 0, .long 0, .long 0, .long 0])), (b 18, .inr (4, [.ref (b 26), .ref (b 34), .int 0, .int 0, .int 0, .int 0, .int 0, .int 0, .long 0, .long 0, .long 0])), (b 19, .inr (4, [.ref (b 27), .ref (b 35), .int 0, .int 0, .int 0, .int 0, .int 0, .int 0, .long 0, .long 0, .long 0])), (b 20, .inr (4, [.ref (b 28), .ref (b 36), .int 0, .int 0, .int 0, .int 0, .int 0, .int 0, .long 0, .long 0, .long 0])), (b 21, .inr (4, [.ref (b 29), .ref (b 37), .int 0, .int 0, .int 0, .int 0, .int 0, .int 0, .long 0, .long 0, .long 0])), (b 22, .inr (4, [.ref (b 30), .ref (b 38), .int 0, .int 0, .int 0, .int 0, .int 0, .int 0, .long 0, .long 0, .long 0])), (b 23, .inr (4, [.ref (b 31), .ref (b 39), .int 0, .int 0, .int 0, .int 0, .int 0, .int 0, .long 0, .long 0, .long 0])), (m0, .inr (9, [.int 0, .int 0, .int 0, .int (-1), .ref (ma 4), .ref (ma 5), .ref (ma 6), .ref (ma 7), .ref (ma 8), .ref (ma 9), .ref (ma 10), .ref (ma 11), .ref (ma 12), .ref (ma 13), .ref (ma 14), .ref (ma 15), .ref (ma 16), .ref (ma 17), .ref (ma 18), .ref (ma 19), .int 0, .ref (ma 21), .ref (ma 22), .ref (ma 23), .ref (ma 24), .ref (ma 25), .ref (ma 26), .ref (ma 27), .ref (ma 28), .ref (ma 29), .ref (ma 30), .ref (ma 31), .ref (ma 32), .ref (ma 33), .ref (ma 34), .ref (ma 35), .ref (ma 36), .ref (ma 37), .int 0, .ref (ma 39), .ref (ma 40), .ref (ma 41), .ref (ma 42), .ref (ma 43), .ref (ma 44), .ref (ma 45), .ref (ma 46), .ref (ma 47), .ref (ma 48), .int 0, .int 0, .int 0, .int 0, .int 0, .int 0, .int 0, .long 0, .int 0, .long 0, .long 0, .long 0, .long 0, .int 0, .int 0, .int 0, .int 0, .long 0])), (ma 39, .inl (G.2 0, 6, .inl (fun _ => 0))), (ma 11, .inl (G.2 4, 96, .inr (.inl (fun _ => 0))))]) (hS : va_S A s.heap H locs) (hl : lv_has ls 4 [(3, .int 0), (2, .ref m0), (1, .ref q0), (0, .ref sc)]) : W p l e room_1 s m #[Value.ref sc] below meth c H locs 169 136076 (lw_Z below #[Value.ref sc] s) (F0 m 1565 ls []) := by
  obtain ⟨hx, hb, hml, hown, htl⟩ := id C0
  refine lv_aload_n hx hb dL_law_1565 rfl (lv_at hl 2 rfl) ?_
  refine lv_aload_n hx hb dL_law_1566 rfl (lv_at hl 3 rfl) ?_
  refine lv_iload_n hx hb dL_law_1567 rfl (lv_at hl 0 rfl) ?_
  refine lv_iconst (v := 1) hx hb dL_law_1568 (by decide) ?_
  refine lv_iadd hx hb dL_law_1569 ?_
  refine lv_topi (fun z_1 ez_1 => ?_)
  obtain rfl : z_1 = 1 := ez_1.trans (by first | rfl | decide +kernel)
  refine va_sld hx hb hX hbl hbA hS (by unfold vp_in; decide +kernel) dL_law_1570 ?_
  refine lv_topi (fun z_2 ez_2 => ?_)
  refine lv_aload_n hx hb dL_law_1571 rfl (lv_at hl 3 rfl) ?_
  refine lv_iload_n hx hb dL_law_1572 rfl (lv_at hl 0 rfl) ?_
  refine lv_iconst (v := 2) hx hb dL_law_1573 (by decide) ?_
  refine lv_iadd hx hb dL_law_1574 ?_
  refine lv_topi (fun z_3 ez_3 => ?_)
  obtain rfl : z_3 = 2 := ez_3.trans (by first | rfl | decide +kernel)
  refine va_sld hx hb hX hbl hbA hS (by unfold vp_in; decide +kernel) dL_law_1575 ?_
  refine lv_topi (fun z_4 ez_4 => ?_)
  refine lv_aload_n hx hb dL_law_1576 rfl (lv_at hl 3 rfl) ?_
  refine lv_iload_n hx hb dL_law_1577 rfl (lv_at hl 0 rfl) ?_
  refine lv_iconst (v := 3) hx hb dL_law_1578 (by decide) ?_
  refine lv_iadd hx hb dL_law_1579 ?_
  refine lv_topi (fun z_5 ez_5 => ?_)
  obtain rfl : z_5 = 3 := ez_5.trans (by first | rfl | decide +kernel)
  refine va_sld hx hb hX hbl hbA hS (by unfold vp_in; decide +kernel) dL_law_1580 ?_
  refine lv_topi (fun z_6 ez_6 => ?_)
  refine lv_aload_n hx hb dL_law_1581 rfl (lv_at hl 3 rfl) ?_
  refine lv_iload_n hx hb dL_law_1582 rfl (lv_at hl 0 rfl) ?_
  refine lv_iconst (v := 4) hx hb dL_law_1583 (by decide) ?_
  refine lv_iadd hx hb dL_law_1584 ?_
  refine lv_topi (fun z_7 ez_7 => ?_)
  obtain rfl : z_7 = 4 := ez_7.trans (by first | rfl | decide +kernel)
  refine va_sld hx hb hX hbl hbA hS (by unfold vp_in; decide +kernel) dL_law_1585 ?_
  refine lv_topi (fun z_8 ez_8 => ?_)
  refine lv_if_eq (tgt := 1593) hx hb dL_law_1586 (by decide) (fun c_9 => ?_) (fun c_9 => ?_)
  · refine lv_iconst (v := 0) hx hb dL_law_1593 (by decide) ?_
    refine xVwl (rq := 0) (ci := 8) (wc := [(q0, .inr (8, [.ref qb, .ref qk, .ref qg, .ref qr, .int 0, .int 0])), (qr, .inl (G.2 0, 6, .inl (fun _ => 0))), (qb, .inr (0, [.ref (b 0), .ref (b 1), .ref (b 2), .ref (b 3), .ref (b 4), .int 0])), (b 3, .inl (G.2 5, 8, .inr (.inr (.inr (.inr pf))))), (b 16, .inr (4, [.ref (b 24), .ref (b 32), .int 0, .int 0, .int 0, .int 0, .int 0, .int 0, .long 0, .long 0, .long 0])), (b 17, .inr (4, [.ref (b 25), .ref (b 33), .int 0, .int 0, .int 0, .int 0, .int 0, .int 0, .long 0, .long 0, .long 0])), (b 18, .inr (4, [.ref (b 26), .ref (b 34), .int 0, .int 0, .int 0, .int 0, .int 0, .int 0, .long 0, .long 0, .long 0])), (b 19, .inr (4, [.ref (b 27), .ref (b 35), .int 0, .int 0, .int 0, .int 0, .int 0, .int 0, .long 0, .long 0, .long 0])), (b 20, .inr (4, [.ref (b 28), .ref (b 36), .int 0, .int 0, .int 0, .int 0, .int 0, .int 0, .long 0, .long 0, .long 0])), (b 21, .inr (4, [.ref (b 29), .ref (b 37), .int 0, .int 0, .int 0, .int 0, .int 0, .int 0, .long 0, .long 0, .long 0])), (b 22, .inr (4, [.ref (b 30), .ref (b 38), .int 0, .int 0, .int 0, .int 0, .int 0, .int 0, .long 0, .long 0, .long 0])), (b 23, .inr (4, [.ref (b 31), .ref (b 39), .int 0, .int 0, .int 0, .int 0, .int 0, .int 0, .long 0, .long 0, .long 0]))]) (wr := [(m0, .inr (9, [.int 0, .int 0, .int 0, .int (-1), .ref (ma 4), .ref (ma 5), .ref (ma 6), .ref (ma 7), .ref (ma 8), .ref (ma 9), .ref (ma 10), .ref (ma 11), .ref (ma 12), .ref (ma 13), .ref (ma 14), .ref (ma 15), .ref (ma 16), .ref (ma 17), .ref (ma 18), .ref (ma 19), .int 0, .ref (ma 21), .ref (ma 22), .ref (ma 23), .ref (ma 24), .ref (ma 25), .ref (ma 26), .ref (ma 27), .ref (ma 28), .ref (ma 29), .ref (ma 30), .ref (ma 31), .ref (ma 32), .ref (ma 33), .ref (ma 34), .ref (ma 35), .ref (ma 36), .ref (ma 37), .int 0, .ref (ma 39), .ref (ma 40), .ref (ma 41), .ref (ma 42), .ref (ma 43), .ref (ma 44), .ref (ma 45), .ref (ma 46), .ref (ma 47), .ref (ma 48), .int 0, .int 0, .int 0, .int 0, .int 0, .int 0, .int 0, .long 0, .int 0, .long 0, .long 0, .long 0, .long 0, .int 0, .int 0, .int 0, .int 0, .long 0])), (ma 39, .inl (G.2 0, 6, .inl (fun _ => 0))), (ma 11, .inl (G.2 4, 96, .inr (.inl (fun _ => 0))))]) (As := [.int z_2, .int z_4, .int z_6, .int 0]) (rest := []) C0 (c_X8_as l G q0 qb qk qg qr b pf z_2 z_4 z_6 0 hpf) ok_X8_as (mW1012 : Cond.methodLink RL 147 yX8_as ∈ wsT) ⟨Nat.le_of_ble_eq_true rfl, Nat.le_of_ble_eq_true rfl⟩ hP hD hS hA hK hN [0, 1, 2, 3, 4, 5, 6, 7, 8, 9, 10, 11] [12, 13, 14] rfl rfl (by decide) (by decide) (by decide) rfl rfl rfl rfl hl.1 rfl (Nat.le_of_ble_eq_true rfl) ⟨Nat.le_of_ble_eq_true rfl, Nat.le_of_ble_eq_true rfl⟩ dL_law_1594 (fun r_10 u_11 H locs hr_10 hP hD hS => ?_)
    have hP : va_P G.1 xcl [(m0, .inr (9, [.int 0, .int 0, .int 0, .int (-1), .ref (ma 4), .ref (ma 5), .ref (ma 6), .ref (ma 7), .ref (ma 8), .ref (ma 9), .ref (ma 10), .ref (ma 11), .ref (ma 12), .ref (ma 13), .ref (ma 14), .ref (ma 15), .ref (ma 16), .ref (ma 17), .ref (ma 18), .ref (ma 19), .int 0, .ref (ma 21), .ref (ma 22), .ref (ma 23), .ref (ma 24), .ref (ma 25), .ref (ma 26), .ref (ma 27), .ref (ma 28), .ref (ma 29), .ref (ma 30), .ref (ma 31), .ref (ma 32), .ref (ma 33), .ref (ma 34), .ref (ma 35), .ref (ma 36), .ref (ma 37), .int 0, .ref (ma 39), .ref (ma 40), .ref (ma 41), .ref (ma 42), .ref (ma 43), .ref (ma 44), .ref (ma 45), .ref (ma 46), .ref (ma 47), .ref (ma 48), .int 0, .int 0, .int 0, .int 0, .int 0, .int 0, .int 0, .long 0, .int 0, .long 0, .long 0, .long 0, .long 0, .int 0, .int 0, .int 0, .int 0, .long 0])), (ma 39, .inl (G.2 0, 6, .inl (fun _ => 0))), (ma 11, .inl (G.2 4, 96, .inr (.inl (fun _ => 0))))] H := hP
    have hD : va_D A [(m0, .inr (9, [.int 0, .int 0, .int 0, .int (-1), .ref (ma 4), .ref (ma 5), .ref (ma 6), .ref (ma 7), .ref (ma 8), .ref (ma 9), .ref (ma 10), .ref (ma 11), .ref (ma 12), .ref (ma 13), .ref (ma 14), .ref (ma 15), .ref (ma 16), .ref (ma 17), .ref (ma 18), .ref (ma 19), .int 0, .ref (ma 21), .ref (ma 22), .ref (ma 23), .ref (ma 24), .ref (ma 25), .ref (ma 26), .ref (ma 27), .ref (ma 28), .ref (ma 29), .ref (ma 30), .ref (ma 31), .ref (ma 32), .ref (ma 33), .ref (ma 34), .ref (ma 35), .ref (ma 36), .ref (ma 37), .int 0, .ref (ma 39), .ref (ma 40), .ref (ma 41), .ref (ma 42), .ref (ma 43), .ref (ma 44), .ref (ma 45), .ref (ma 46), .ref (ma 47), .ref (ma 48), .int 0, .int 0, .int 0, .int 0, .int 0, .int 0, .int 0, .long 0, .int 0, .long 0, .long 0, .long 0, .long 0, .int 0, .int 0, .int 0, .int 0, .long 0])), (ma 39, .inl (G.2 0, 6, .inl (fun _ => 0))), (ma 11, .inl (G.2 4, 96, .inr (.inl (fun _ => 0))))] := hD
    obtain rfl : r_10 = (-1) := hr_10
    refine lv_aload_n hx hb dL_law_1597 rfl (lv_at hl 1 rfl) ?_
    refine lv_aload_n hx hb dL_law_1598 rfl (lv_at hl 3 rfl) ?_
    refine lv_iload_n hx hb dL_law_1599 rfl (lv_at hl 0 rfl) ?_
    refine lv_iconst (v := 1) hx hb dL_law_1600 (by decide) ?_
    refine lv_iadd hx hb dL_law_1601 ?_
    refine lv_topi (fun z_12 ez_12 => ?_)
    obtain rfl : z_12 = 1 := ez_12.trans (by first | rfl | decide +kernel)
    refine va_sld hx hb hX hbl hbA hS (by unfold vp_in; decide +kernel) dL_law_1602 ?_
    rw [← ez_2]
    refine lv_aload_n hx hb dL_law_1603 rfl (lv_at hl 3 rfl) ?_
    refine lv_iload_n hx hb dL_law_1604 rfl (lv_at hl 0 rfl) ?_
    refine lv_iconst (v := 2) hx hb dL_law_1605 (by decide) ?_
    refine lv_iadd hx hb dL_law_1606 ?_
    refine lv_topi (fun z_13 ez_13 => ?_)
    obtain rfl : z_13 = 2 := ez_13.trans (by first | rfl | decide +kernel)
    refine va_sld hx hb hX hbl hbA hS (by unfold vp_in; decide +kernel) dL_law_1607 ?_
    rw [← ez_4]
    refine lv_aload_n hx hb dL_law_1608 rfl (lv_at hl 3 rfl) ?_
    refine lv_iload_n hx hb dL_law_1609 rfl (lv_at hl 0 rfl) ?_
    refine lv_iconst (v := 3) hx hb dL_law_1610 (by decide) ?_
    refine lv_iadd hx hb dL_law_1611 ?_
    refine lv_topi (fun z_14 ez_14 => ?_)
    obtain rfl : z_14 = 3 := ez_14.trans (by first | rfl | decide +kernel)
    refine va_sld hx hb hX hbl hbA hS (by unfold vp_in; decide +kernel) dL_law_1612 ?_
    rw [← ez_6]
    refine lv_aload_n hx hb dL_law_1613 rfl (lv_at hl 3 rfl) ?_
    refine lv_iload_n hx hb dL_law_1614 rfl (lv_at hl 0 rfl) ?_
    refine lv_iconst (v := 4) hx hb dL_law_1615 (by decide) ?_
    refine lv_iadd hx hb dL_law_1616 ?_
    refine lv_topi (fun z_15 ez_15 => ?_)
    obtain rfl : z_15 = 4 := ez_15.trans (by first | rfl | decide +kernel)
    refine va_sld hx hb hX hbl hbA hS (by unfold vp_in; decide +kernel) dL_law_1617 ?_
    rw [← ez_8]
    refine lv_if_eq (tgt := 1625) hx hb dL_law_1618 (by decide) (fun c_16 => ?_) (fun c_16 => absurd c_9 c_16)
    refine lv_iconst (v := 0) hx hb dL_law_1625 (by decide) ?_
    refine xVwl (rq := 0) (ci := 9) (wc := [(m0, .inr (9, [.int 0, .int 0, .int 0, .int (-1), .ref (ma 4), .ref (ma 5), .ref (ma 6), .ref (ma 7), .ref (ma 8), .ref (ma 9), .ref (ma 10), .ref (ma 11), .ref (ma 12), .ref (ma 13), .ref (ma 14), .ref (ma 15), .ref (ma 16), .ref (ma 17), .ref (ma 18), .ref (ma 19), .int 0, .ref (ma 21), .ref (ma 22), .ref (ma 23), .ref (ma 24), .ref (ma 25), .ref (ma 26), .ref (ma 27), .ref (ma 28), .ref (ma 29), .ref (ma 30), .ref (ma 31), .ref (ma 32), .ref (ma 33), .ref (ma 34), .ref (ma 35), .ref (ma 36), .ref (ma 37), .int 0, .ref (ma 39), .ref (ma 40), .ref (ma 41), .ref (ma 42), .ref (ma 43), .ref (ma 44), .ref (ma 45), .ref (ma 46), .ref (ma 47), .ref (ma 48), .int 0, .int 0, .int 0, .int 0, .int 0, .int 0, .int 0, .long 0, .int 0, .long 0, .long 0, .long 0, .long 0, .int 0, .int 0, .int 0, .int 0, .long 0])), (ma 39, .inl (G.2 0, 6, .inl (fun _ => 0))), (ma 11, .inl (G.2 4, 96, .inr (.inl (fun _ => 0))))]) (wr := []) (As := [.int z_2, .int z_4, .int z_6, .int 0]) (rest := [.long (-1)]) C0 (c_X9_as l G m0 ma z_2 z_4 z_6 0) ok_X9_as (mW1020 : Cond.methodLink RL 151 yX9_as ∈ wsT) ⟨Nat.le_of_ble_eq_true rfl, Nat.le_of_ble_eq_true rfl⟩ hP hD hS hA hK hN [0, 1, 2] [] rfl rfl (by decide) (by decide) (by decide) rfl rfl rfl rfl hl.1 rfl (Nat.le_of_ble_eq_true rfl) ⟨Nat.le_of_ble_eq_true rfl, Nat.le_of_ble_eq_true rfl⟩ dL_law_1626 (fun r_17 u_18 H locs hr_17 hP hD hS => ?_)
    have hP : va_P G.1 xcl [] H := hP
    have hD : va_D A [] := hD
    obtain rfl : r_17 = (-1) := hr_17
    refine W.lcmp hx hb dL_law_1629 ?_
    refine lv_topi (fun z_19 ez_19 => ?_)
    obtain rfl : z_19 = 0 := ez_19.trans (by first | rfl | decide +kernel)
    refine lv_if_eq (tgt := 1789) hx hb dL_law_1630 (by decide) (fun c_20 => ?_) (fun c_20 => absurd c_20 (by decide +kernel))
    exact law_tail C0 hr hlocks hX hbl hbA hA2 hS ls (lv_sub hl [0, 3] rfl)
  · refine lv_iconst (v := 1) hx hb dL_law_1589 (by decide) ?_
    refine lv_goto (tgt := 1594) hx hb dL_law_1590 (by decide) ?_
    refine xVwl (rq := 0) (ci := 8) (wc := [(q0, .inr (8, [.ref qb, .ref qk, .ref qg, .ref qr, .int 0, .int 0])), (qr, .inl (G.2 0, 6, .inl (fun _ => 0))), (qb, .inr (0, [.ref (b 0), .ref (b 1), .ref (b 2), .ref (b 3), .ref (b 4), .int 0])), (b 3, .inl (G.2 5, 8, .inr (.inr (.inr (.inr pf))))), (b 16, .inr (4, [.ref (b 24), .ref (b 32), .int 0, .int 0, .int 0, .int 0, .int 0, .int 0, .long 0, .long 0, .long 0])), (b 17, .inr (4, [.ref (b 25), .ref (b 33), .int 0, .int 0, .int 0, .int 0, .int 0, .int 0, .long 0, .long 0, .long 0])), (b 18, .inr (4, [.ref (b 26), .ref (b 34), .int 0, .int 0, .int 0, .int 0, .int 0, .int 0, .long 0, .long 0, .long 0])), (b 19, .inr (4, [.ref (b 27), .ref (b 35), .int 0, .int 0, .int 0, .int 0, .int 0, .int 0, .long 0, .long 0, .long 0])), (b 20, .inr (4, [.ref (b 28), .ref (b 36), .int 0, .int 0, .int 0, .int 0, .int 0, .int 0, .long 0, .long 0, .long 0])), (b 21, .inr (4, [.ref (b 29), .ref (b 37), .int 0, .int 0, .int 0, .int 0, .int 0, .int 0, .long 0, .long 0, .long 0])), (b 22, .inr (4, [.ref (b 30), .ref (b 38), .int 0, .int 0, .int 0, .int 0, .int 0, .int 0, .long 0, .long 0, .long 0])), (b 23, .inr (4, [.ref (b 31), .ref (b 39), .int 0, .int 0, .int 0, .int 0, .int 0, .int 0, .long 0, .long 0, .long 0]))]) (wr := [(m0, .inr (9, [.int 0, .int 0, .int 0, .int (-1), .ref (ma 4), .ref (ma 5), .ref (ma 6), .ref (ma 7), .ref (ma 8), .ref (ma 9), .ref (ma 10), .ref (ma 11), .ref (ma 12), .ref (ma 13), .ref (ma 14), .ref (ma 15), .ref (ma 16), .ref (ma 17), .ref (ma 18), .ref (ma 19), .int 0, .ref (ma 21), .ref (ma 22), .ref (ma 23), .ref (ma 24), .ref (ma 25), .ref (ma 26), .ref (ma 27), .ref (ma 28), .ref (ma 29), .ref (ma 30), .ref (ma 31), .ref (ma 32), .ref (ma 33), .ref (ma 34), .ref (ma 35), .ref (ma 36), .ref (ma 37), .int 0, .ref (ma 39), .ref (ma 40), .ref (ma 41), .ref (ma 42), .ref (ma 43), .ref (ma 44), .ref (ma 45), .ref (ma 46), .ref (ma 47), .ref (ma 48), .int 0, .int 0, .int 0, .int 0, .int 0, .int 0, .int 0, .long 0, .int 0, .long 0, .long 0, .long 0, .long 0, .int 0, .int 0, .int 0, .int 0, .long 0])), (ma 39, .inl (G.2 0, 6, .inl (fun _ => 0))), (ma 11, .inl (G.2 4, 96, .inr (.inl (fun _ => 0))))]) (As := [.int z_2, .int z_4, .int z_6, .int 1]) (rest := []) C0 (c_X8_as l G q0 qb qk qg qr b pf z_2 z_4 z_6 1 hpf) ok_X8_as (mW1012 : Cond.methodLink RL 147 yX8_as ∈ wsT) ⟨Nat.le_of_ble_eq_true rfl, Nat.le_of_ble_eq_true rfl⟩ hP hD hS hA hK hN [0, 1, 2, 3, 4, 5, 6, 7, 8, 9, 10, 11] [12, 13, 14] rfl rfl (by decide) (by decide) (by decide) rfl rfl rfl rfl hl.1 rfl (Nat.le_of_ble_eq_true rfl) ⟨Nat.le_of_ble_eq_true rfl, Nat.le_of_ble_eq_true rfl⟩ dL_law_1594 (fun r_21 u_22 H locs hr_21 hP hD hS => ?_)
    have hP : va_P G.1 xcl [(m0, .inr (9, [.int 0, .int 0, .int 0, .int (-1), .ref (ma 4), .ref (ma 5), .ref (ma 6), .ref (ma 7), .ref (ma 8), .ref (ma 9), .ref (ma 10), .ref (ma 11), .ref (ma 12), .ref (ma 13), .ref (ma 14), .ref (ma 15), .ref (ma 16), .ref (ma 17), .ref (ma 18), .ref (ma 19), .int 0, .ref (ma 21), .ref (ma 22), .ref (ma 23), .ref (ma 24), .ref (ma 25), .ref (ma 26), .ref (ma 27), .ref (ma 28), .ref (ma 29), .ref (ma 30), .ref (ma 31), .ref (ma 32), .ref (ma 33), .ref (ma 34), .ref (ma 35), .ref (ma 36), .ref (ma 37), .int 0, .ref (ma 39), .ref (ma 40), .ref (ma 41), .ref (ma 42), .ref (ma 43), .ref (ma 44), .ref (ma 45), .ref (ma 46), .ref (ma 47), .ref (ma 48), .int 0, .int 0, .int 0, .int 0, .int 0, .int 0, .int 0, .long 0, .int 0, .long 0, .long 0, .long 0, .long 0, .int 0, .int 0, .int 0, .int 0, .long 0])), (ma 39, .inl (G.2 0, 6, .inl (fun _ => 0))), (ma 11, .inl (G.2 4, 96, .inr (.inl (fun _ => 0))))] H := hP
    have hD : va_D A [(m0, .inr (9, [.int 0, .int 0, .int 0, .int (-1), .ref (ma 4), .ref (ma 5), .ref (ma 6), .ref (ma 7), .ref (ma 8), .ref (ma 9), .ref (ma 10), .ref (ma 11), .ref (ma 12), .ref (ma 13), .ref (ma 14), .ref (ma 15), .ref (ma 16), .ref (ma 17), .ref (ma 18), .ref (ma 19), .int 0, .ref (ma 21), .ref (ma 22), .ref (ma 23), .ref (ma 24), .ref (ma 25), .ref (ma 26), .ref (ma 27), .ref (ma 28), .ref (ma 29), .ref (ma 30), .ref (ma 31), .ref (ma 32), .ref (ma 33), .ref (ma 34), .ref (ma 35), .ref (ma 36), .ref (ma 37), .int 0, .ref (ma 39), .ref (ma 40), .ref (ma 41), .ref (ma 42), .ref (ma 43), .ref (ma 44), .ref (ma 45), .ref (ma 46), .ref (ma 47), .ref (ma 48), .int 0, .int 0, .int 0, .int 0, .int 0, .int 0, .int 0, .long 0, .int 0, .long 0, .long 0, .long 0, .long 0, .int 0, .int 0, .int 0, .int 0, .long 0])), (ma 39, .inl (G.2 0, 6, .inl (fun _ => 0))), (ma 11, .inl (G.2 4, 96, .inr (.inl (fun _ => 0))))] := hD
    obtain rfl : r_21 = (-1) := hr_21
    refine lv_aload_n hx hb dL_law_1597 rfl (lv_at hl 1 rfl) ?_
    refine lv_aload_n hx hb dL_law_1598 rfl (lv_at hl 3 rfl) ?_
    refine lv_iload_n hx hb dL_law_1599 rfl (lv_at hl 0 rfl) ?_
    refine lv_iconst (v := 1) hx hb dL_law_1600 (by decide) ?_
    refine lv_iadd hx hb dL_law_1601 ?_
    refine lv_topi (fun z_23 ez_23 => ?_)
    obtain rfl : z_23 = 1 := ez_23.trans (by first | rfl | decide +kernel)
    refine va_sld hx hb hX hbl hbA hS (by unfold vp_in; decide +kernel) dL_law_1602 ?_
    rw [← ez_2]
    refine lv_aload_n hx hb dL_law_1603 rfl (lv_at hl 3 rfl) ?_
    refine lv_iload_n hx hb dL_law_1604 rfl (lv_at hl 0 rfl) ?_
    refine lv_iconst (v := 2) hx hb dL_law_1605 (by decide) ?_
    refine lv_iadd hx hb dL_law_1606 ?_
    refine lv_topi (fun z_24 ez_24 => ?_)
    obtain rfl : z_24 = 2 := ez_24.trans (by first | rfl | decide +kernel)
    refine va_sld hx hb hX hbl hbA hS (by unfold vp_in; decide +kernel) dL_law_1607 ?_
    rw [← ez_4]
    refine lv_aload_n hx hb dL_law_1608 rfl (lv_at hl 3 rfl) ?_
    refine lv_iload_n hx hb dL_law_1609 rfl (lv_at hl 0 rfl) ?_
    refine lv_iconst (v := 3) hx hb dL_law_1610 (by decide) ?_
    refine lv_iadd hx hb dL_law_1611 ?_
    refine lv_topi (fun z_25 ez_25 => ?_)
    obtain rfl : z_25 = 3 := ez_25.trans (by first | rfl | decide +kernel)
    refine va_sld hx hb hX hbl hbA hS (by unfold vp_in; decide +kernel) dL_law_1612 ?_
    rw [← ez_6]
    refine lv_aload_n hx hb dL_law_1613 rfl (lv_at hl 3 rfl) ?_
    refine lv_iload_n hx hb dL_law_1614 rfl (lv_at hl 0 rfl) ?_
    refine lv_iconst (v := 4) hx hb dL_law_1615 (by decide) ?_
    refine lv_iadd hx hb dL_law_1616 ?_
    refine lv_topi (fun z_26 ez_26 => ?_)
    obtain rfl : z_26 = 4 := ez_26.trans (by first | rfl | decide +kernel)
    refine va_sld hx hb hX hbl hbA hS (by unfold vp_in; decide +kernel) dL_law_1617 ?_
    rw [← ez_8]
    refine lv_if_eq (tgt := 1625) hx hb dL_law_1618 (by decide) (fun c_27 => absurd c_27 c_9) (fun c_27 => ?_)
    refine lv_iconst (v := 1) hx hb dL_law_1621 (by decide) ?_
    refine lv_goto (tgt := 1626) hx hb dL_law_1622 (by decide) ?_
    refine xVwl (rq := 0) (ci := 9) (wc := [(m0, .inr (9, [.int 0, .int 0, .int 0, .int (-1), .ref (ma 4), .ref (ma 5), .ref (ma 6), .ref (ma 7), .ref (ma 8), .ref (ma 9), .ref (ma 10), .ref (ma 11), .ref (ma 12), .ref (ma 13), .ref (ma 14), .ref (ma 15), .ref (ma 16), .ref (ma 17), .ref (ma 18), .ref (ma 19), .int 0, .ref (ma 21), .ref (ma 22), .ref (ma 23), .ref (ma 24), .ref (ma 25), .ref (ma 26), .ref (ma 27), .ref (ma 28), .ref (ma 29), .ref (ma 30), .ref (ma 31), .ref (ma 32), .ref (ma 33), .ref (ma 34), .ref (ma 35), .ref (ma 36), .ref (ma 37), .int 0, .ref (ma 39), .ref (ma 40), .ref (ma 41), .ref (ma 42), .ref (ma 43), .ref (ma 44), .ref (ma 45), .ref (ma 46), .ref (ma 47), .ref (ma 48), .int 0, .int 0, .int 0, .int 0, .int 0, .int 0, .int 0, .long 0, .int 0, .long 0, .long 0, .long 0, .long 0, .int 0, .int 0, .int 0, .int 0, .long 0])), (ma 39, .inl (G.2 0, 6, .inl (fun _ => 0))), (ma 11, .inl (G.2 4, 96, .inr (.inl (fun _ => 0))))]) (wr := []) (As := [.int z_2, .int z_4, .int z_6, .int 1]) (rest := [.long (-1)]) C0 (c_X9_as l G m0 ma z_2 z_4 z_6 1) ok_X9_as (mW1020 : Cond.methodLink RL 151 yX9_as ∈ wsT) ⟨Nat.le_of_ble_eq_true rfl, Nat.le_of_ble_eq_true rfl⟩ hP hD hS hA hK hN [0, 1, 2] [] rfl rfl (by decide) (by decide) (by decide) rfl rfl rfl rfl hl.1 rfl (Nat.le_of_ble_eq_true rfl) ⟨Nat.le_of_ble_eq_true rfl, Nat.le_of_ble_eq_true rfl⟩ dL_law_1626 (fun r_28 u_29 H locs hr_28 hP hD hS => ?_)
    have hP : va_P G.1 xcl [] H := hP
    have hD : va_D A [] := hD
    obtain rfl : r_28 = (-1) := hr_28
    refine W.lcmp hx hb dL_law_1629 ?_
    refine lv_topi (fun z_30 ez_30 => ?_)
    obtain rfl : z_30 = 0 := ez_30.trans (by first | rfl | decide +kernel)
    refine lv_if_eq (tgt := 1789) hx hb dL_law_1630 (by decide) (fun c_31 => ?_) (fun c_31 => absurd c_31 (by decide +kernel))
    exact law_tail C0 hr hlocks hX hbl hbA hA2 hS ls (lv_sub hl [0, 3] rfl)
theorem dL_law_1635 : decode cL_law 1635 = .ok (.aload_n 1, 1) := by decide +kernel
theorem dL_law_1636 : decode cL_law 1636 = .ok (.aload_n 0, 1) := by decide +kernel
theorem dL_law_1637 : decode cL_law 1637 = .ok (.iload_n 3, 1) := by decide +kernel
theorem dL_law_1638 : decode cL_law 1638 = .ok (.iconst 1, 1) := by decide +kernel
theorem dL_law_1639 : decode cL_law 1639 = .ok (.iadd, 1) := by decide +kernel
theorem dL_law_1640 : decode cL_law 1640 = .ok (.iaload, 1) := by decide +kernel
theorem dL_law_1641 : decode cL_law 1641 = .ok (.invokevirtual 152, 3) := by decide +kernel
theorem dL_law_1644 : decode cL_law 1644 = .ok (.aload_n 2, 1) := by decide +kernel
theorem dL_law_1645 : decode cL_law 1645 = .ok (.aload_n 0, 1) := by decide +kernel
theorem dL_law_1646 : decode cL_law 1646 = .ok (.iload_n 3, 1) := by decide +kernel
theorem dL_law_1647 : decode cL_law 1647 = .ok (.iconst 1, 1) := by decide +kernel
theorem dL_law_1648 : decode cL_law 1648 = .ok (.iadd, 1) := by decide +kernel
theorem dL_law_1649 : decode cL_law 1649 = .ok (.iaload, 1) := by decide +kernel
theorem dL_law_1650 : decode cL_law 1650 = .ok (.invokevirtual 155, 3) := by decide +kernel
theorem dL_law_1653 : decode cL_law 1653 = .ok (.if_icmp .eq 136, 3) := by decide +kernel
set_option maxHeartbeats 4000000 in
set_option maxRecDepth 100000 in
/-- case 30: claim -/
theorem law_30 {q0 : Nat} {qb : Nat} {qk : Nat} {qg : Nat} {qr : Nat} {b : Nat → Nat} {pf : Nat → Option Nat} {kf : Nat → Int32} {b2 : Nat → Nat} {pf2 : Nat → Option Nat} {kf2 : Nat → Int32} {m0 : Nat} {ma : Nat → Nat} {p : Program} {l : Launch} {e : Env} {s : State} {m : MethodId} {below : List Frame} {meth : Method} {c : Code} {G : xG} {sc : Nat} {xs : Nat → Int32} {A : Nat → Prop} (C0 : CallFix p m c code 4 s #[Value.ref sc] wsT RL) (hr : meth.sig.returnType = ret) (hlocks : meth.locks = false) (hK : va_K G.1 xcl (xty G) s) (hN : xN s) (hX : va_X sc 7 xs s s.heap) (hbl : sc < s.heap.size) (hbA : ¬ A sc) (hA : ∀ q : Nat, s.heap.size ≤ q → A q) (hA2 : ∀ q, A q → s.heap.size ≤ q) (hpf : ∀ k, k < 8 → pf k = some (b (16 + k))) (hpf2 : ∀ k, k < 8 → pf2 k = some (b2 (16 + k))) {H : Heap} {locs : List Loc} {ls : Array Slot} (hP : va_P G.1 xcl [(q0, .inr (8, [.ref qb, .ref qk, .ref qg, .ref qr, .int 0, .int 0])), (qr, .inl (G.2 0, 6, .inl (fun _ => 0))), (qb, .inr (0, [.ref (b 0), .ref (b 1), .ref (b 2), .ref (b 3), .ref (b 4), .int 0])), (b 3, .inl (G.2 5, 8, .inr (.inr (.inr (.inr pf))))), (b 16, .inr (4, [.ref (b 24), .ref (b 32), .int 0, .int 0, .int 0, .int 0, .int 0, .int 0, .long 0, .long 0, .long 0])), (b 17, .inr (4, [.ref (b 25), .ref (b 33), .int 0, .int 0, .int 0, .int 0, .int 0, .int 0, .long 0, .long 0, .long 0])), (b 18, .inr (4, [.ref (b 26), .ref (b 34), .int 0, .int 0, .int 0, .int 0, .int 0, .int 0, .long 0, .long 0, .long 0])), (b 19, .inr (4, [.ref (b 27), .ref (b 35), .int 0, .int 0, .int 0, .int 0, .int 0, .int 0, .long 0, .long 0, .long 0])), (b 20, .inr (4, [.ref (b 28), .ref (b 36), .int 0, .int 0, .int 0, .int 0, .int 0, .int 0, .long 0, .long 0, .long 0])), (b 21, .inr (4, [.ref (b 29), .ref (b 37), .int 0, .int 0, .int 0, .int 0, .int 0, .int 0, .long 0, .long 0, .long 0])), (b 22, .inr (4, [.ref (b 30), .ref (b 38), .int 0, .int 0, .int 0, .int 0, .int 0, .int 0, .long 0, .long 0, .long 0])), (b 23, .inr (4, [.ref (b 31), .ref (b 39), .int 0, .int 0, .int 0, .int 0, .int 0, .int 0, .long 0, .long 0, .long 0])), (m0, .inr (9, [.int 0, .int 0, .int 0, .int (-1), .ref (ma 4), .ref (ma 5), .ref (ma 6), .ref (ma 7), .ref (ma 8), .ref (ma 9), .ref (ma 10), .ref (ma 11), .ref (ma 12), .ref (ma 13), .ref (ma 14), .ref (ma 15), .ref (ma 16), .ref (ma 17), .ref (ma 18), .ref (ma 19), .int 0, .ref (ma 21), .ref (ma 22), .ref (ma 23), .ref (ma 24), .ref (ma 25), .ref (ma 26), .ref (ma 27), .ref (ma 28), .ref (ma 29), .ref (ma 30), .ref (ma 31), .ref (ma 32), .ref (ma 33), .ref (ma 34), .ref (ma 35), .ref (ma 36), .ref (ma 37), .int 0, .ref (ma 39), .ref (ma 40), .ref (ma 41), .ref (ma 42), .ref (ma 43), .ref (ma 44), .ref (ma 45), .ref (ma 46), .ref (ma 47), .ref (ma 48), .int 0, .int 0, .int 0, .int 0, .int 0, .int 0, .int 0, .long 0, .int 0, .long 0, .long 0, .long 0, .long 0, .int 0, .int 0, .int 0, .int 0, .long 0])), (ma 39, .inl (G.2 0, 6, .inl (fun _ => 0))), (ma 11, .inl (G.2 4, 96, .inr (.inl (fun _ => 0))))] H) (hD : va_D A [(q0, .inr (8, [.ref qb, .ref qk, .ref qg, .ref qr, .int 0, .int 0])), (qr, .inl (G.2 0, 6, .inl (fun _ => 0))), (qb, .inr (0, [.ref (b 0), .ref (b 1), .ref (b 2), .ref (b 3), .ref (b 4), .int 0])), (b 3, .inl (G.2 5, 8, .inr (.inr (.inr (.inr pf))))), (b 16, .inr (4, [.ref (b 24), .ref (b 32), .int 0, .int 0, .int 0, .int 0, .int 0, .int 0, .long 0, .long 0, .long 0])), (b 17, .inr (4, [.ref (b 25), .ref (b 33), .int 0, .int 0, .int 0, .int 0, .int 0, .int 0, .long 0, .long 0, .long 0])), (b 18, .inr (4, [.ref (b 26), .ref (b 34), .int 0, .int 0, .int 0, .int 0, .int 0, .int 0, .long 0, .long 0, .long 0])), (b 19, .inr (4, [.ref (b 27), .ref (b 35), .int 0, .int 0, .int 0, .int 0, .int 0, .int 0, .long 0, .long 0, .long 0])), (b 20, .inr (4, [.ref (b 28), .ref (b 36), .int 0, .int 0, .int 0, .int 0, .int 0, .int 0, .long 0, .long 0, .long 0])), (b 21, .inr (4, [.ref (b 29), .ref (b 37), .int 0, .int 0, .int 0, .int 0, .int 0, .int 0, .long 0, .long 0, .long 0])), (b 22, .inr (4, [.ref (b 30), .ref (b 38), .int 0, .int 0, .int 0, .int 0, .int 0, .int 0, .long 0, .long 0, .long 0])), (b 23, .inr (4, [.ref (b 31), .ref (b 39), .int 0, .int 0, .int 0, .int 0, .int 0, .int 0, .long 0, .long 0, .long 0])), (m0, .inr (9, [.int 0, .int 0, .int 0, .int (-1), .ref (ma 4), .ref (ma 5), .ref (ma 6), .ref (ma 7), .ref (ma 8), .ref (ma 9), .ref (ma 10), .ref (ma 11), .ref (ma 12), .ref (ma 13), .ref (ma 14), .ref (ma 15), .ref (ma 16), .ref (ma 17), .ref (ma 18), .ref (ma 19), .int 0, .ref (ma 21), .ref (ma 22), .ref (ma 23), .ref (ma 24), .ref (ma 25), .ref (ma 26), .ref (ma 27), .ref (ma 28), .ref (ma 29), .ref (ma 30), .ref (ma 31), .ref (ma 32), .ref (ma 33), .ref (ma 34), .ref (ma 35), .ref (ma 36), .ref (ma 37), .int 0, .ref (ma 39), .ref (ma 40), .ref (ma 41), .ref (ma 42), .ref (ma 43), .ref (ma 44), .ref (ma 45), .ref (ma 46), .ref (ma 47), .ref (ma 48), .int 0, .int 0, .int 0, .int 0, .int 0, .int 0, .int 0, .long 0, .int 0, .long 0, .long 0, .long 0, .long 0, .int 0, .int 0, .int 0, .int 0, .long 0])), (ma 39, .inl (G.2 0, 6, .inl (fun _ => 0))), (ma 11, .inl (G.2 4, 96, .inr (.inl (fun _ => 0))))]) (hS : va_S A s.heap H locs) (hl : lv_has ls 4 [(3, .int 0), (2, .ref m0), (1, .ref q0), (0, .ref sc)]) : W p l e room_1 s m #[Value.ref sc] below meth c H locs 169 136076 (lw_Z below #[Value.ref sc] s) (F0 m 1635 ls []) := by
  obtain ⟨hx, hb, hml, hown, htl⟩ := id C0
  refine lv_aload_n hx hb dL_law_1635 rfl (lv_at hl 2 rfl) ?_
  refine lv_aload_n hx hb dL_law_1636 rfl (lv_at hl 3 rfl) ?_
  refine lv_iload_n hx hb dL_law_1637 rfl (lv_at hl 0 rfl) ?_
  refine lv_iconst (v := 1) hx hb dL_law_1638 (by decide) ?_
  refine lv_iadd hx hb dL_law_1639 ?_
  refine lv_topi (fun z_1 ez_1 => ?_)
  obtain rfl : z_1 = 1 := ez_1.trans (by first | rfl | decide +kernel)
  refine va_sld hx hb hX hbl hbA hS (by unfold vp_in; decide +kernel) dL_law_1640 ?_
  refine lv_topi (fun z_2 ez_2 => ?_)
  refine xVwi (rq := 0) (ci := 8) (wc := [(q0, .inr (8, [.ref qb, .ref qk, .ref qg, .ref qr, .int 0, .int 0])), (qr, .inl (G.2 0, 6, .inl (fun _ => 0))), (qb, .inr (0, [.ref (b 0), .ref (b 1), .ref (b 2), .ref (b 3), .ref (b 4), .int 0])), (b 3, .inl (G.2 5, 8, .inr (.inr (.inr (.inr pf))))), (b 16, .inr (4, [.ref (b 24), .ref (b 32), .int 0, .int 0, .int 0, .int 0, .int 0, .int 0, .long 0, .long 0, .long 0])), (b 17, .inr (4, [.ref (b 25), .ref (b 33), .int 0, .int 0, .int 0, .int 0, .int 0, .int 0, .long 0, .long 0, .long 0])), (b 18, .inr (4, [.ref (b 26), .ref (b 34), .int 0, .int 0, .int 0, .int 0, .int 0, .int 0, .long 0, .long 0, .long 0])), (b 19, .inr (4, [.ref (b 27), .ref (b 35), .int 0, .int 0, .int 0, .int 0, .int 0, .int 0, .long 0, .long 0, .long 0])), (b 20, .inr (4, [.ref (b 28), .ref (b 36), .int 0, .int 0, .int 0, .int 0, .int 0, .int 0, .long 0, .long 0, .long 0])), (b 21, .inr (4, [.ref (b 29), .ref (b 37), .int 0, .int 0, .int 0, .int 0, .int 0, .int 0, .long 0, .long 0, .long 0])), (b 22, .inr (4, [.ref (b 30), .ref (b 38), .int 0, .int 0, .int 0, .int 0, .int 0, .int 0, .long 0, .long 0, .long 0])), (b 23, .inr (4, [.ref (b 31), .ref (b 39), .int 0, .int 0, .int 0, .int 0, .int 0, .int 0, .long 0, .long 0, .long 0]))]) (wr := [(m0, .inr (9, [.int 0, .int 0, .int 0, .int (-1), .ref (ma 4), .ref (ma 5), .ref (ma 6), .ref (ma 7), .ref (ma 8), .ref (ma 9), .ref (ma 10), .ref (ma 11), .ref (ma 12), .ref (ma 13), .ref (ma 14), .ref (ma 15), .ref (ma 16), .ref (ma 17), .ref (ma 18), .ref (ma 19), .int 0, .ref (ma 21), .ref (ma 22), .ref (ma 23), .ref (ma 24), .ref (ma 25), .ref (ma 26), .ref (ma 27), .ref (ma 28), .ref (ma 29), .ref (ma 30), .ref (ma 31), .ref (ma 32), .ref (ma 33), .ref (ma 34), .ref (ma 35), .ref (ma 36), .ref (ma 37), .int 0, .ref (ma 39), .ref (ma 40), .ref (ma 41), .ref (ma 42), .ref (ma 43), .ref (ma 44), .ref (ma 45), .ref (ma 46), .ref (ma 47), .ref (ma 48), .int 0, .int 0, .int 0, .int 0, .int 0, .int 0, .int 0, .long 0, .int 0, .long 0, .long 0, .long 0, .long 0, .int 0, .int 0, .int 0, .int 0, .long 0])), (ma 39, .inl (G.2 0, 6, .inl (fun _ => 0))), (ma 11, .inl (G.2 4, 96, .inr (.inl (fun _ => 0))))]) (As := [.int z_2]) (rest := []) C0 (c_X8_claim l G q0 qb qk qg qr b pf z_2 hpf) ok_X8_claim (mW1024 : Cond.methodLink RL 152 yX8_claim ∈ wsT) ⟨Nat.le_of_ble_eq_true rfl, Nat.le_of_ble_eq_true rfl⟩ hP hD hS hA hK hN [0, 1, 2, 3, 4, 5, 6, 7, 8, 9, 10, 11] [12, 13, 14] rfl rfl (by decide) (by decide) (by decide) rfl rfl rfl rfl hl.1 rfl (Nat.le_of_ble_eq_true rfl) ⟨Nat.le_of_ble_eq_true rfl, Nat.le_of_ble_eq_true rfl⟩ dL_law_1641 (fun r_3 u_4 H locs hr_3 hP hD hS => ?_)
  have hP : va_P G.1 xcl [(m0, .inr (9, [.int 0, .int 0, .int 0, .int (-1), .ref (ma 4), .ref (ma 5), .ref (ma 6), .ref (ma 7), .ref (ma 8), .ref (ma 9), .ref (ma 10), .ref (ma 11), .ref (ma 12), .ref (ma 13), .ref (ma 14), .ref (ma 15), .ref (ma 16), .ref (ma 17), .ref (ma 18), .ref (ma 19), .int 0, .ref (ma 21), .ref (ma 22), .ref (ma 23), .ref (ma 24), .ref (ma 25), .ref (ma 26), .ref (ma 27), .ref (ma 28), .ref (ma 29), .ref (ma 30), .ref (ma 31), .ref (ma 32), .ref (ma 33), .ref (ma 34), .ref (ma 35), .ref (ma 36), .ref (ma 37), .int 0, .ref (ma 39), .ref (ma 40), .ref (ma 41), .ref (ma 42), .ref (ma 43), .ref (ma 44), .ref (ma 45), .ref (ma 46), .ref (ma 47), .ref (ma 48), .int 0, .int 0, .int 0, .int 0, .int 0, .int 0, .int 0, .long 0, .int 0, .long 0, .long 0, .long 0, .long 0, .int 0, .int 0, .int 0, .int 0, .long 0])), (ma 39, .inl (G.2 0, 6, .inl (fun _ => 0))), (ma 11, .inl (G.2 4, 96, .inr (.inl (fun _ => 0))))] H := hP
  have hD : va_D A [(m0, .inr (9, [.int 0, .int 0, .int 0, .int (-1), .ref (ma 4), .ref (ma 5), .ref (ma 6), .ref (ma 7), .ref (ma 8), .ref (ma 9), .ref (ma 10), .ref (ma 11), .ref (ma 12), .ref (ma 13), .ref (ma 14), .ref (ma 15), .ref (ma 16), .ref (ma 17), .ref (ma 18), .ref (ma 19), .int 0, .ref (ma 21), .ref (ma 22), .ref (ma 23), .ref (ma 24), .ref (ma 25), .ref (ma 26), .ref (ma 27), .ref (ma 28), .ref (ma 29), .ref (ma 30), .ref (ma 31), .ref (ma 32), .ref (ma 33), .ref (ma 34), .ref (ma 35), .ref (ma 36), .ref (ma 37), .int 0, .ref (ma 39), .ref (ma 40), .ref (ma 41), .ref (ma 42), .ref (ma 43), .ref (ma 44), .ref (ma 45), .ref (ma 46), .ref (ma 47), .ref (ma 48), .int 0, .int 0, .int 0, .int 0, .int 0, .int 0, .int 0, .long 0, .int 0, .long 0, .long 0, .long 0, .long 0, .int 0, .int 0, .int 0, .int 0, .long 0])), (ma 39, .inl (G.2 0, 6, .inl (fun _ => 0))), (ma 11, .inl (G.2 4, 96, .inr (.inl (fun _ => 0))))] := hD
  obtain rfl : r_3 = 0 := hr_3
  refine lv_aload_n hx hb dL_law_1644 rfl (lv_at hl 1 rfl) ?_
  refine lv_aload_n hx hb dL_law_1645 rfl (lv_at hl 3 rfl) ?_
  refine lv_iload_n hx hb dL_law_1646 rfl (lv_at hl 0 rfl) ?_
  refine lv_iconst (v := 1) hx hb dL_law_1647 (by decide) ?_
  refine lv_iadd hx hb dL_law_1648 ?_
  refine lv_topi (fun z_5 ez_5 => ?_)
  obtain rfl : z_5 = 1 := ez_5.trans (by first | rfl | decide +kernel)
  refine va_sld hx hb hX hbl hbA hS (by unfold vp_in; decide +kernel) dL_law_1649 ?_
  rw [← ez_2]
  refine xVwi (rq := 0) (ci := 9) (wc := [(m0, .inr (9, [.int 0, .int 0, .int 0, .int (-1), .ref (ma 4), .ref (ma 5), .ref (ma 6), .ref (ma 7), .ref (ma 8), .ref (ma 9), .ref (ma 10), .ref (ma 11), .ref (ma 12), .ref (ma 13), .ref (ma 14), .ref (ma 15), .ref (ma 16), .ref (ma 17), .ref (ma 18), .ref (ma 19), .int 0, .ref (ma 21), .ref (ma 22), .ref (ma 23), .ref (ma 24), .ref (ma 25), .ref (ma 26), .ref (ma 27), .ref (ma 28), .ref (ma 29), .ref (ma 30), .ref (ma 31), .ref (ma 32), .ref (ma 33), .ref (ma 34), .ref (ma 35), .ref (ma 36), .ref (ma 37), .int 0, .ref (ma 39), .ref (ma 40), .ref (ma 41), .ref (ma 42), .ref (ma 43), .ref (ma 44), .ref (ma 45), .ref (ma 46), .ref (ma 47), .ref (ma 48), .int 0, .int 0, .int 0, .int 0, .int 0, .int 0, .int 0, .long 0, .int 0, .long 0, .long 0, .long 0, .long 0, .int 0, .int 0, .int 0, .int 0, .long 0])), (ma 39, .inl (G.2 0, 6, .inl (fun _ => 0))), (ma 11, .inl (G.2 4, 96, .inr (.inl (fun _ => 0))))]) (wr := []) (As := [.int z_2]) (rest := [.int 0]) C0 (c_X9_claim l G m0 ma z_2) ok_X9_claim (mW1034 : Cond.methodLink RL 155 yX9_claim ∈ wsT) ⟨Nat.le_of_ble_eq_true rfl, Nat.le_of_ble_eq_true rfl⟩ hP hD hS hA hK hN [0, 1, 2] [] rfl rfl (by decide) (by decide) (by decide) rfl rfl rfl rfl hl.1 rfl (Nat.le_of_ble_eq_true rfl) ⟨Nat.le_of_ble_eq_true rfl, Nat.le_of_ble_eq_true rfl⟩ dL_law_1650 (fun r_6 u_7 H locs hr_6 hP hD hS => ?_)
  have hP : va_P G.1 xcl [] H := hP
  have hD : va_D A [] := hD
  obtain rfl : r_6 = 0 := hr_6
  refine lv_icmp_eq (tgt := 1789) hx hb dL_law_1653 (by decide) (fun c_8 => ?_) (fun c_8 => absurd c_8 (by decide +kernel))
  exact law_tail C0 hr hlocks hX hbl hbA hA2 hS ls (lv_sub hl [0, 3] rfl)
theorem dL_law_1658 : decode cL_law 1658 = .ok (.aload_n 1, 1) := by decide +kernel
theorem dL_law_1659 : decode cL_law 1659 = .ok (.aload_n 0, 1) := by decide +kernel
theorem dL_law_1660 : decode cL_law 1660 = .ok (.iload_n 3, 1) := by decide +kernel
theorem dL_law_1661 : decode cL_law 1661 = .ok (.iconst 1, 1) := by decide +kernel
theorem dL_law_1662 : decode cL_law 1662 = .ok (.iadd, 1) := by decide +kernel
theorem dL_law_1663 : decode cL_law 1663 = .ok (.iaload, 1) := by decide +kernel
theorem dL_law_1664 : decode cL_law 1664 = .ok (.aload_n 0, 1) := by decide +kernel
theorem dL_law_1665 : decode cL_law 1665 = .ok (.iload_n 3, 1) := by decide +kernel
theorem dL_law_1666 : decode cL_law 1666 = .ok (.iconst 2, 1) := by decide +kernel
theorem dL_law_1667 : decode cL_law 1667 = .ok (.iadd, 1) := by decide +kernel
theorem dL_law_1668 : decode cL_law 1668 = .ok (.iaload, 1) := by decide +kernel
theorem dL_law_1669 : decode cL_law 1669 = .ok (.invokevirtual 156, 3) := by decide +kernel
theorem dL_law_1672 : decode cL_law 1672 = .ok (.aload_n 2, 1) := by decide +kernel
theorem dL_law_1673 : decode cL_law 1673 = .ok (.aload_n 0, 1) := by decide +kernel
theorem dL_law_1674 : decode cL_law 1674 = .ok (.iload_n 3, 1) := by decide +kernel
theorem dL_law_1675 : decode cL_law 1675 = .ok (.iconst 1, 1) := by decide +kernel
theorem dL_law_1676 : decode cL_law 1676 = .ok (.iadd, 1) := by decide +kernel
theorem dL_law_1677 : decode cL_law 1677 = .ok (.iaload, 1) := by decide +kernel
theorem dL_law_1678 : decode cL_law 1678 = .ok (.aload_n 0, 1) := by decide +kernel
theorem dL_law_1679 : decode cL_law 1679 = .ok (.iload_n 3, 1) := by decide +kernel
theorem dL_law_1680 : decode cL_law 1680 = .ok (.iconst 2, 1) := by decide +kernel
theorem dL_law_1681 : decode cL_law 1681 = .ok (.iadd, 1) := by decide +kernel
theorem dL_law_1682 : decode cL_law 1682 = .ok (.iaload, 1) := by decide +kernel
theorem dL_law_1683 : decode cL_law 1683 = .ok (.invokevirtual 159, 3) := by decide +kernel
theorem dL_law_1686 : decode cL_law 1686 = .ok (.if_icmp .eq 103, 3) := by decide +kernel
set_option maxHeartbeats 4000000 in
set_option maxRecDepth 100000 in
/-- case 31: tell -/
theorem law_31 {q0 : Nat} {qb : Nat} {qk : Nat} {qg : Nat} {qr : Nat} {b : Nat → Nat} {pf : Nat → Option Nat} {kf : Nat → Int32} {b2 : Nat → Nat} {pf2 : Nat → Option Nat} {kf2 : Nat → Int32} {m0 : Nat} {ma : Nat → Nat} {p : Program} {l : Launch} {e : Env} {s : State} {m : MethodId} {below : List Frame} {meth : Method} {c : Code} {G : xG} {sc : Nat} {xs : Nat → Int32} {A : Nat → Prop} (C0 : CallFix p m c code 4 s #[Value.ref sc] wsT RL) (hr : meth.sig.returnType = ret) (hlocks : meth.locks = false) (hK : va_K G.1 xcl (xty G) s) (hN : xN s) (hX : va_X sc 7 xs s s.heap) (hbl : sc < s.heap.size) (hbA : ¬ A sc) (hA : ∀ q : Nat, s.heap.size ≤ q → A q) (hA2 : ∀ q, A q → s.heap.size ≤ q) (hpf : ∀ k, k < 8 → pf k = some (b (16 + k))) (hpf2 : ∀ k, k < 8 → pf2 k = some (b2 (16 + k))) {H : Heap} {locs : List Loc} {ls : Array Slot} (hP : va_P G.1 xcl [(q0, .inr (8, [.ref qb, .ref qk, .ref qg, .ref qr, .int 0, .int 0])), (qr, .inl (G.2 0, 6, .inl (fun _ => 0))), (qb, .inr (0, [.ref (b 0), .ref (b 1), .ref (b 2), .ref (b 3), .ref (b 4), .int 0])), (b 2, .inr (1, [.ref (b 13), .ref (b 14), .int 0, .int (-1)])), (m0, .inr (9, [.int 0, .int 0, .int 0, .int (-1), .ref (ma 4), .ref (ma 5), .ref (ma 6), .ref (ma 7), .ref (ma 8), .ref (ma 9), .ref (ma 10), .ref (ma 11), .ref (ma 12), .ref (ma 13), .ref (ma 14), .ref (ma 15), .ref (ma 16), .ref (ma 17), .ref (ma 18), .ref (ma 19), .int 0, .ref (ma 21), .ref (ma 22), .ref (ma 23), .ref (ma 24), .ref (ma 25), .ref (ma 26), .ref (ma 27), .ref (ma 28), .ref (ma 29), .ref (ma 30), .ref (ma 31), .ref (ma 32), .ref (ma 33), .ref (ma 34), .ref (ma 35), .ref (ma 36), .ref (ma 37), .int 0, .ref (ma 39), .ref (ma 40), .ref (ma 41), .ref (ma 42), .ref (ma 43), .ref (ma 44), .ref (ma 45), .ref (ma 46), .ref (ma 47), .ref (ma 48), .int 0, .int 0, .int 0, .int 0, .int 0, .int 0, .int 0, .long 0, .int 0, .long 0, .long 0, .long 0, .long 0, .int 0, .int 0, .int 0, .int 0, .long 0])), (ma 39, .inl (G.2 0, 6, .inl (fun _ => 0)))] H) (hD : va_D A [(q0, .inr (8, [.ref qb, .ref qk, .ref qg, .ref qr, .int 0, .int 0])), (qr, .inl (G.2 0, 6, .inl (fun _ => 0))), (qb, .inr (0, [.ref (b 0), .ref (b 1), .ref (b 2), .ref (b 3), .ref (b 4), .int 0])), (b 2, .inr (1, [.ref (b 13), .ref (b 14), .int 0, .int (-1)])), (m0, .inr (9, [.int 0, .int 0, .int 0, .int (-1), .ref (ma 4), .ref (ma 5), .ref (ma 6), .ref (ma 7), .ref (ma 8), .ref (ma 9), .ref (ma 10), .ref (ma 11), .ref (ma 12), .ref (ma 13), .ref (ma 14), .ref (ma 15), .ref (ma 16), .ref (ma 17), .ref (ma 18), .ref (ma 19), .int 0, .ref (ma 21), .ref (ma 22), .ref (ma 23), .ref (ma 24), .ref (ma 25), .ref (ma 26), .ref (ma 27), .ref (ma 28), .ref (ma 29), .ref (ma 30), .ref (ma 31), .ref (ma 32), .ref (ma 33), .ref (ma 34), .ref (ma 35), .ref (ma 36), .ref (ma 37), .int 0, .ref (ma 39), .ref (ma 40), .ref (ma 41), .ref (ma 42), .ref (ma 43), .ref (ma 44), .ref (ma 45), .ref (ma 46), .ref (ma 47), .ref (ma 48), .int 0, .int 0, .int 0, .int 0, .int 0, .int 0, .int 0, .long 0, .int 0, .long 0, .long 0, .long 0, .long 0, .int 0, .int 0, .int 0, .int 0, .long 0])), (ma 39, .inl (G.2 0, 6, .inl (fun _ => 0)))]) (hS : va_S A s.heap H locs) (hl : lv_has ls 4 [(3, .int 0), (2, .ref m0), (1, .ref q0), (0, .ref sc)]) : W p l e room_1 s m #[Value.ref sc] below meth c H locs 169 136076 (lw_Z below #[Value.ref sc] s) (F0 m 1658 ls []) := by
  obtain ⟨hx, hb, hml, hown, htl⟩ := id C0
  refine lv_aload_n hx hb dL_law_1658 rfl (lv_at hl 2 rfl) ?_
  refine lv_aload_n hx hb dL_law_1659 rfl (lv_at hl 3 rfl) ?_
  refine lv_iload_n hx hb dL_law_1660 rfl (lv_at hl 0 rfl) ?_
  refine lv_iconst (v := 1) hx hb dL_law_1661 (by decide) ?_
  refine lv_iadd hx hb dL_law_1662 ?_
  refine lv_topi (fun z_1 ez_1 => ?_)
  obtain rfl : z_1 = 1 := ez_1.trans (by first | rfl | decide +kernel)
  refine va_sld hx hb hX hbl hbA hS (by unfold vp_in; decide +kernel) dL_law_1663 ?_
  refine lv_topi (fun z_2 ez_2 => ?_)
  refine lv_aload_n hx hb dL_law_1664 rfl (lv_at hl 3 rfl) ?_
  refine lv_iload_n hx hb dL_law_1665 rfl (lv_at hl 0 rfl) ?_
  refine lv_iconst (v := 2) hx hb dL_law_1666 (by decide) ?_
  refine lv_iadd hx hb dL_law_1667 ?_
  refine lv_topi (fun z_3 ez_3 => ?_)
  obtain rfl : z_3 = 2 := ez_3.trans (by first | rfl | decide +kernel)
  refine va_sld hx hb hX hbl hbA hS (by unfold vp_in; decide +kernel) dL_law_1668 ?_
  refine lv_topi (fun z_4 ez_4 => ?_)
  refine xVwi (rq := 0) (ci := 8) (wc := [(q0, .inr (8, [.ref qb, .ref qk, .ref qg, .ref qr, .int 0, .int 0])), (qr, .inl (G.2 0, 6, .inl (fun _ => 0))), (qb, .inr (0, [.ref (b 0), .ref (b 1), .ref (b 2), .ref (b 3), .ref (b 4), .int 0])), (b 2, .inr (1, [.ref (b 13), .ref (b 14), .int 0, .int (-1)]))]) (wr := [(m0, .inr (9, [.int 0, .int 0, .int 0, .int (-1), .ref (ma 4), .ref (ma 5), .ref (ma 6), .ref (ma 7), .ref (ma 8), .ref (ma 9), .ref (ma 10), .ref (ma 11), .ref (ma 12), .ref (ma 13), .ref (ma 14), .ref (ma 15), .ref (ma 16), .ref (ma 17), .ref (ma 18), .ref (ma 19), .int 0, .ref (ma 21), .ref (ma 22), .ref (ma 23), .ref (ma 24), .ref (ma 25), .ref (ma 26), .ref (ma 27), .ref (ma 28), .ref (ma 29), .ref (ma 30), .ref (ma 31), .ref (ma 32), .ref (ma 33), .ref (ma 34), .ref (ma 35), .ref (ma 36), .ref (ma 37), .int 0, .ref (ma 39), .ref (ma 40), .ref (ma 41), .ref (ma 42), .ref (ma 43), .ref (ma 44), .ref (ma 45), .ref (ma 46), .ref (ma 47), .ref (ma 48), .int 0, .int 0, .int 0, .int 0, .int 0, .int 0, .int 0, .long 0, .int 0, .long 0, .long 0, .long 0, .long 0, .int 0, .int 0, .int 0, .int 0, .long 0])), (ma 39, .inl (G.2 0, 6, .inl (fun _ => 0)))]) (As := [.int z_2, .int z_4]) (rest := []) C0 (c_X8_tell l G q0 qb qk qg qr b pf z_2 z_4 hpf) ok_X8_tell (mW1038 : Cond.methodLink RL 156 yX8_tell ∈ wsT) ⟨Nat.le_of_ble_eq_true rfl, Nat.le_of_ble_eq_true rfl⟩ hP hD hS hA hK hN [0, 1, 2, 3] [4, 5] rfl rfl (by decide) (by decide) (by decide) rfl rfl rfl rfl hl.1 rfl (Nat.le_of_ble_eq_true rfl) ⟨Nat.le_of_ble_eq_true rfl, Nat.le_of_ble_eq_true rfl⟩ dL_law_1669 (fun r_5 u_6 H locs hr_5 hP hD hS => ?_)
  have hP : va_P G.1 xcl [(m0, .inr (9, [.int 0, .int 0, .int 0, .int (-1), .ref (ma 4), .ref (ma 5), .ref (ma 6), .ref (ma 7), .ref (ma 8), .ref (ma 9), .ref (ma 10), .ref (ma 11), .ref (ma 12), .ref (ma 13), .ref (ma 14), .ref (ma 15), .ref (ma 16), .ref (ma 17), .ref (ma 18), .ref (ma 19), .int 0, .ref (ma 21), .ref (ma 22), .ref (ma 23), .ref (ma 24), .ref (ma 25), .ref (ma 26), .ref (ma 27), .ref (ma 28), .ref (ma 29), .ref (ma 30), .ref (ma 31), .ref (ma 32), .ref (ma 33), .ref (ma 34), .ref (ma 35), .ref (ma 36), .ref (ma 37), .int 0, .ref (ma 39), .ref (ma 40), .ref (ma 41), .ref (ma 42), .ref (ma 43), .ref (ma 44), .ref (ma 45), .ref (ma 46), .ref (ma 47), .ref (ma 48), .int 0, .int 0, .int 0, .int 0, .int 0, .int 0, .int 0, .long 0, .int 0, .long 0, .long 0, .long 0, .long 0, .int 0, .int 0, .int 0, .int 0, .long 0])), (ma 39, .inl (G.2 0, 6, .inl (fun _ => 0)))] H := hP
  have hD : va_D A [(m0, .inr (9, [.int 0, .int 0, .int 0, .int (-1), .ref (ma 4), .ref (ma 5), .ref (ma 6), .ref (ma 7), .ref (ma 8), .ref (ma 9), .ref (ma 10), .ref (ma 11), .ref (ma 12), .ref (ma 13), .ref (ma 14), .ref (ma 15), .ref (ma 16), .ref (ma 17), .ref (ma 18), .ref (ma 19), .int 0, .ref (ma 21), .ref (ma 22), .ref (ma 23), .ref (ma 24), .ref (ma 25), .ref (ma 26), .ref (ma 27), .ref (ma 28), .ref (ma 29), .ref (ma 30), .ref (ma 31), .ref (ma 32), .ref (ma 33), .ref (ma 34), .ref (ma 35), .ref (ma 36), .ref (ma 37), .int 0, .ref (ma 39), .ref (ma 40), .ref (ma 41), .ref (ma 42), .ref (ma 43), .ref (ma 44), .ref (ma 45), .ref (ma 46), .ref (ma 47), .ref (ma 48), .int 0, .int 0, .int 0, .int 0, .int 0, .int 0, .int 0, .long 0, .int 0, .long 0, .long 0, .long 0, .long 0, .int 0, .int 0, .int 0, .int 0, .long 0])), (ma 39, .inl (G.2 0, 6, .inl (fun _ => 0)))] := hD
  obtain rfl : r_5 = (-1) := hr_5
  refine lv_aload_n hx hb dL_law_1672 rfl (lv_at hl 1 rfl) ?_
  refine lv_aload_n hx hb dL_law_1673 rfl (lv_at hl 3 rfl) ?_
  refine lv_iload_n hx hb dL_law_1674 rfl (lv_at hl 0 rfl) ?_
  refine lv_iconst (v := 1) hx hb dL_law_1675 (by decide) ?_
  refine lv_iadd hx hb dL_law_1676 ?_
  refine lv_topi (fun z_7 ez_7 => ?_)
  obtain rfl : z_7 = 1 := ez_7.trans (by first | rfl | decide +kernel)
  refine va_sld hx hb hX hbl hbA hS (by unfold vp_in; decide +kernel) dL_law_1677 ?_
  rw [← ez_2]
  refine lv_aload_n hx hb dL_law_1678 rfl (lv_at hl 3 rfl) ?_
  refine lv_iload_n hx hb dL_law_1679 rfl (lv_at hl 0 rfl) ?_
  refine lv_iconst (v := 2) hx hb dL_law_1680 (by decide) ?_
  refine lv_iadd hx hb dL_law_1681 ?_
  refine lv_topi (fun z_8 ez_8 => ?_)
  obtain rfl : z_8 = 2 := ez_8.trans (by first | rfl | decide +kernel)
  refine va_sld hx hb hX hbl hbA hS (by unfold vp_in; decide +kernel) dL_law_1682 ?_
  rw [← ez_4]
  refine xVwi (rq := 0) (ci := 9) (wc := [(m0, .inr (9, [.int 0, .int 0, .int 0, .int (-1), .ref (ma 4), .ref (ma 5), .ref (ma 6), .ref (ma 7), .ref (ma 8), .ref (ma 9), .ref (ma 10), .ref (ma 11), .ref (ma 12), .ref (ma 13), .ref (ma 14), .ref (ma 15), .ref (ma 16), .ref (ma 17), .ref (ma 18), .ref (ma 19), .int 0, .ref (ma 21), .ref (ma 22), .ref (ma 23), .ref (ma 24), .ref (ma 25), .ref (ma 26), .ref (ma 27), .ref (ma 28), .ref (ma 29), .ref (ma 30), .ref (ma 31), .ref (ma 32), .ref (ma 33), .ref (ma 34), .ref (ma 35), .ref (ma 36), .ref (ma 37), .int 0, .ref (ma 39), .ref (ma 40), .ref (ma 41), .ref (ma 42), .ref (ma 43), .ref (ma 44), .ref (ma 45), .ref (ma 46), .ref (ma 47), .ref (ma 48), .int 0, .int 0, .int 0, .int 0, .int 0, .int 0, .int 0, .long 0, .int 0, .long 0, .long 0, .long 0, .long 0, .int 0, .int 0, .int 0, .int 0, .long 0])), (ma 39, .inl (G.2 0, 6, .inl (fun _ => 0)))]) (wr := []) (As := [.int z_2, .int z_4]) (rest := [.int (-1)]) C0 (c_X9_tell l G m0 ma z_2 z_4) ok_X9_tell (mW1048 : Cond.methodLink RL 159 yX9_tell ∈ wsT) ⟨Nat.le_of_ble_eq_true rfl, Nat.le_of_ble_eq_true rfl⟩ hP hD hS hA hK hN [0, 1] [] rfl rfl (by decide) (by decide) (by decide) rfl rfl rfl rfl hl.1 rfl (Nat.le_of_ble_eq_true rfl) ⟨Nat.le_of_ble_eq_true rfl, Nat.le_of_ble_eq_true rfl⟩ dL_law_1683 (fun r_9 u_10 H locs hr_9 hP hD hS => ?_)
  have hP : va_P G.1 xcl [] H := hP
  have hD : va_D A [] := hD
  obtain rfl : r_9 = (-1) := hr_9
  refine lv_icmp_eq (tgt := 1789) hx hb dL_law_1686 (by decide) (fun c_11 => ?_) (fun c_11 => absurd c_11 (by decide +kernel))
  exact law_tail C0 hr hlocks hX hbl hbA hA2 hS ls (lv_sub hl [0, 3] rfl)
theorem dL_law_1691 : decode cL_law 1691 = .ok (.aload_n 1, 1) := by decide +kernel
theorem dL_law_1692 : decode cL_law 1692 = .ok (.aload_n 0, 1) := by decide +kernel
theorem dL_law_1693 : decode cL_law 1693 = .ok (.iload_n 3, 1) := by decide +kernel
theorem dL_law_1694 : decode cL_law 1694 = .ok (.iconst 1, 1) := by decide +kernel
theorem dL_law_1695 : decode cL_law 1695 = .ok (.iadd, 1) := by decide +kernel
theorem dL_law_1696 : decode cL_law 1696 = .ok (.iaload, 1) := by decide +kernel
theorem dL_law_1697 : decode cL_law 1697 = .ok (.aload_n 0, 1) := by decide +kernel
theorem dL_law_1698 : decode cL_law 1698 = .ok (.iload_n 3, 1) := by decide +kernel
theorem dL_law_1699 : decode cL_law 1699 = .ok (.iconst 2, 1) := by decide +kernel
theorem dL_law_1700 : decode cL_law 1700 = .ok (.iadd, 1) := by decide +kernel
theorem dL_law_1701 : decode cL_law 1701 = .ok (.iaload, 1) := by decide +kernel
theorem dL_law_1702 : decode cL_law 1702 = .ok (.ifCond .eq 7, 3) := by decide +kernel
theorem dL_law_1705 : decode cL_law 1705 = .ok (.iconst 1, 1) := by decide +kernel
theorem dL_law_1706 : decode cL_law 1706 = .ok (.goto 4, 3) := by decide +kernel
theorem dL_law_1709 : decode cL_law 1709 = .ok (.iconst 0, 1) := by decide +kernel
theorem dL_law_1710 : decode cL_law 1710 = .ok (.invokevirtual 160, 3) := by decide +kernel
theorem dL_law_1713 : decode cL_law 1713 = .ok (.aload_n 2, 1) := by decide +kernel
theorem dL_law_1714 : decode cL_law 1714 = .ok (.aload_n 0, 1) := by decide +kernel
theorem dL_law_1715 : decode cL_law 1715 = .ok (.iload_n 3, 1) := by decide +kernel
theorem dL_law_1716 : decode cL_law 1716 = .ok (.iconst 1, 1) := by decide +kernel
theorem dL_law_1717 : decode cL_law 1717 = .ok (.iadd, 1) := by decide +kernel
theorem dL_law_1718 : decode cL_law 1718 = .ok (.iaload, 1) := by decide +kernel
theorem dL_law_1719 : decode cL_law 1719 = .ok (.aload_n 0, 1) := by decide +kernel
theorem dL_law_1720 : decode cL_law 1720 = .ok (.iload_n 3, 1) := by decide +kernel
theorem dL_law_1721 : decode cL_law 1721 = .ok (.iconst 2, 1) := by decide +kernel
theorem dL_law_1722 : decode cL_law 1722 = .ok (.iadd, 1) := by decide +kernel
theorem dL_law_1723 : decode cL_law 1723 = .ok (.iaload, 1) := by decide +kernel
theorem dL_law_1724 : decode cL_law 1724 = .ok (.ifCond .eq 7, 3) := by decide +kernel
theorem dL_law_1727 : decode cL_law 1727 = .ok (.iconst 1, 1) := by decide +kernel
theorem dL_law_1728 : decode cL_law 1728 = .ok (.goto 4, 3) := by decide +kernel
theorem dL_law_1731 : decode cL_law 1731 = .ok (.iconst 0, 1) := by decide +kernel
theorem dL_law_1732 : decode cL_law 1732 = .ok (.invokevirtual 164, 3) := by decide +kernel
theorem dL_law_1735 : decode cL_law 1735 = .ok (.if_icmp .eq 54, 3) := by decide +kernel
set_option maxHeartbeats 4000000 in
set_option maxRecDepth 100000 in
/-- case 32: check -/
theorem law_32 {q0 : Nat} {qb : Nat} {qk : Nat} {qg : Nat} {qr : Nat} {b : Nat → Nat} {pf : Nat → Option Nat} {kf : Nat → Int32} {b2 : Nat → Nat} {pf2 : Nat → Option Nat} {kf2 : Nat → Int32} {m0 : Nat} {ma : Nat → Nat} {p : Program} {l : Launch} {e : Env} {s : State} {m : MethodId} {below : List Frame} {meth : Method} {c : Code} {G : xG} {sc : Nat} {xs : Nat → Int32} {A : Nat → Prop} (C0 : CallFix p m c code 4 s #[Value.ref sc] wsT RL) (hr : meth.sig.returnType = ret) (hlocks : meth.locks = false) (hK : va_K G.1 xcl (xty G) s) (hN : xN s) (hX : va_X sc 7 xs s s.heap) (hbl : sc < s.heap.size) (hbA : ¬ A sc) (hA : ∀ q : Nat, s.heap.size ≤ q → A q) (hA2 : ∀ q, A q → s.heap.size ≤ q) (hpf : ∀ k, k < 8 → pf k = some (b (16 + k))) (hpf2 : ∀ k, k < 8 → pf2 k = some (b2 (16 + k))) {H : Heap} {locs : List Loc} {ls : Array Slot} (hP : va_P G.1 xcl [(q0, .inr (8, [.ref qb, .ref qk, .ref qg, .ref qr, .int 0, .int 0])), (qr, .inl (G.2 0, 6, .inl (fun _ => 0))), (qb, .inr (0, [.ref (b 0), .ref (b 1), .ref (b 2), .ref (b 3), .ref (b 4), .int 0])), (b 2, .inr (1, [.ref (b 13), .ref (b 14), .int 0, .int (-1)])), (m0, .inr (9, [.int 0, .int 0, .int 0, .int (-1), .ref (ma 4), .ref (ma 5), .ref (ma 6), .ref (ma 7), .ref (ma 8), .ref (ma 9), .ref (ma 10), .ref (ma 11), .ref (ma 12), .ref (ma 13), .ref (ma 14), .ref (ma 15), .ref (ma 16), .ref (ma 17), .ref (ma 18), .ref (ma 19), .int 0, .ref (ma 21), .ref (ma 22), .ref (ma 23), .ref (ma 24), .ref (ma 25), .ref (ma 26), .ref (ma 27), .ref (ma 28), .ref (ma 29), .ref (ma 30), .ref (ma 31), .ref (ma 32), .ref (ma 33), .ref (ma 34), .ref (ma 35), .ref (ma 36), .ref (ma 37), .int 0, .ref (ma 39), .ref (ma 40), .ref (ma 41), .ref (ma 42), .ref (ma 43), .ref (ma 44), .ref (ma 45), .ref (ma 46), .ref (ma 47), .ref (ma 48), .int 0, .int 0, .int 0, .int 0, .int 0, .int 0, .int 0, .long 0, .int 0, .long 0, .long 0, .long 0, .long 0, .int 0, .int 0, .int 0, .int 0, .long 0])), (ma 39, .inl (G.2 0, 6, .inl (fun _ => 0)))] H) (hD : va_D A [(q0, .inr (8, [.ref qb, .ref qk, .ref qg, .ref qr, .int 0, .int 0])), (qr, .inl (G.2 0, 6, .inl (fun _ => 0))), (qb, .inr (0, [.ref (b 0), .ref (b 1), .ref (b 2), .ref (b 3), .ref (b 4), .int 0])), (b 2, .inr (1, [.ref (b 13), .ref (b 14), .int 0, .int (-1)])), (m0, .inr (9, [.int 0, .int 0, .int 0, .int (-1), .ref (ma 4), .ref (ma 5), .ref (ma 6), .ref (ma 7), .ref (ma 8), .ref (ma 9), .ref (ma 10), .ref (ma 11), .ref (ma 12), .ref (ma 13), .ref (ma 14), .ref (ma 15), .ref (ma 16), .ref (ma 17), .ref (ma 18), .ref (ma 19), .int 0, .ref (ma 21), .ref (ma 22), .ref (ma 23), .ref (ma 24), .ref (ma 25), .ref (ma 26), .ref (ma 27), .ref (ma 28), .ref (ma 29), .ref (ma 30), .ref (ma 31), .ref (ma 32), .ref (ma 33), .ref (ma 34), .ref (ma 35), .ref (ma 36), .ref (ma 37), .int 0, .ref (ma 39), .ref (ma 40), .ref (ma 41), .ref (ma 42), .ref (ma 43), .ref (ma 44), .ref (ma 45), .ref (ma 46), .ref (ma 47), .ref (ma 48), .int 0, .int 0, .int 0, .int 0, .int 0, .int 0, .int 0, .long 0, .int 0, .long 0, .long 0, .long 0, .long 0, .int 0, .int 0, .int 0, .int 0, .long 0])), (ma 39, .inl (G.2 0, 6, .inl (fun _ => 0)))]) (hS : va_S A s.heap H locs) (hl : lv_has ls 4 [(3, .int 0), (2, .ref m0), (1, .ref q0), (0, .ref sc)]) : W p l e room_1 s m #[Value.ref sc] below meth c H locs 169 136076 (lw_Z below #[Value.ref sc] s) (F0 m 1691 ls []) := by
  obtain ⟨hx, hb, hml, hown, htl⟩ := id C0
  refine lv_aload_n hx hb dL_law_1691 rfl (lv_at hl 2 rfl) ?_
  refine lv_aload_n hx hb dL_law_1692 rfl (lv_at hl 3 rfl) ?_
  refine lv_iload_n hx hb dL_law_1693 rfl (lv_at hl 0 rfl) ?_
  refine lv_iconst (v := 1) hx hb dL_law_1694 (by decide) ?_
  refine lv_iadd hx hb dL_law_1695 ?_
  refine lv_topi (fun z_1 ez_1 => ?_)
  obtain rfl : z_1 = 1 := ez_1.trans (by first | rfl | decide +kernel)
  refine va_sld hx hb hX hbl hbA hS (by unfold vp_in; decide +kernel) dL_law_1696 ?_
  refine lv_topi (fun z_2 ez_2 => ?_)
  refine lv_aload_n hx hb dL_law_1697 rfl (lv_at hl 3 rfl) ?_
  refine lv_iload_n hx hb dL_law_1698 rfl (lv_at hl 0 rfl) ?_
  refine lv_iconst (v := 2) hx hb dL_law_1699 (by decide) ?_
  refine lv_iadd hx hb dL_law_1700 ?_
  refine lv_topi (fun z_3 ez_3 => ?_)
  obtain rfl : z_3 = 2 := ez_3.trans (by first | rfl | decide +kernel)
  refine va_sld hx hb hX hbl hbA hS (by unfold vp_in; decide +kernel) dL_law_1701 ?_
  refine lv_topi (fun z_4 ez_4 => ?_)
  refine lv_if_eq (tgt := 1709) hx hb dL_law_1702 (by decide) (fun c_5 => ?_) (fun c_5 => ?_)
  · refine lv_iconst (v := 0) hx hb dL_law_1709 (by decide) ?_
    refine xVwi (rq := 0) (ci := 8) (wc := [(q0, .inr (8, [.ref qb, .ref qk, .ref qg, .ref qr, .int 0, .int 0])), (qr, .inl (G.2 0, 6, .inl (fun _ => 0))), (qb, .inr (0, [.ref (b 0), .ref (b 1), .ref (b 2), .ref (b 3), .ref (b 4), .int 0])), (b 2, .inr (1, [.ref (b 13), .ref (b 14), .int 0, .int (-1)]))]) (wr := [(m0, .inr (9, [.int 0, .int 0, .int 0, .int (-1), .ref (ma 4), .ref (ma 5), .ref (ma 6), .ref (ma 7), .ref (ma 8), .ref (ma 9), .ref (ma 10), .ref (ma 11), .ref (ma 12), .ref (ma 13), .ref (ma 14), .ref (ma 15), .ref (ma 16), .ref (ma 17), .ref (ma 18), .ref (ma 19), .int 0, .ref (ma 21), .ref (ma 22), .ref (ma 23), .ref (ma 24), .ref (ma 25), .ref (ma 26), .ref (ma 27), .ref (ma 28), .ref (ma 29), .ref (ma 30), .ref (ma 31), .ref (ma 32), .ref (ma 33), .ref (ma 34), .ref (ma 35), .ref (ma 36), .ref (ma 37), .int 0, .ref (ma 39), .ref (ma 40), .ref (ma 41), .ref (ma 42), .ref (ma 43), .ref (ma 44), .ref (ma 45), .ref (ma 46), .ref (ma 47), .ref (ma 48), .int 0, .int 0, .int 0, .int 0, .int 0, .int 0, .int 0, .long 0, .int 0, .long 0, .long 0, .long 0, .long 0, .int 0, .int 0, .int 0, .int 0, .long 0])), (ma 39, .inl (G.2 0, 6, .inl (fun _ => 0)))]) (As := [.int z_2, .int 0]) (rest := []) C0 (c_X8_check l G q0 qb qk qg qr b pf z_2 0 hpf) ok_X8_check (mW1052 : Cond.methodLink RL 160 yX8_check ∈ wsT) ⟨Nat.le_of_ble_eq_true rfl, Nat.le_of_ble_eq_true rfl⟩ hP hD hS hA hK hN [0, 1, 2, 3] [4, 5] rfl rfl (by decide) (by decide) (by decide) rfl rfl rfl rfl hl.1 rfl (Nat.le_of_ble_eq_true rfl) ⟨Nat.le_of_ble_eq_true rfl, Nat.le_of_ble_eq_true rfl⟩ dL_law_1710 (fun r_6 u_7 H locs hr_6 hP hD hS => ?_)
    have hP : va_P G.1 xcl [(m0, .inr (9, [.int 0, .int 0, .int 0, .int (-1), .ref (ma 4), .ref (ma 5), .ref (ma 6), .ref (ma 7), .ref (ma 8), .ref (ma 9), .ref (ma 10), .ref (ma 11), .ref (ma 12), .ref (ma 13), .ref (ma 14), .ref (ma 15), .ref (ma 16), .ref (ma 17), .ref (ma 18), .ref (ma 19), .int 0, .ref (ma 21), .ref (ma 22), .ref (ma 23), .ref (ma 24), .ref (ma 25), .ref (ma 26), .ref (ma 27), .ref (ma 28), .ref (ma 29), .ref (ma 30), .ref (ma 31), .ref (ma 32), .ref (ma 33), .ref (ma 34), .ref (ma 35), .ref (ma 36), .ref (ma 37), .int 0, .ref (ma 39), .ref (ma 40), .ref (ma 41), .ref (ma 42), .ref (ma 43), .ref (ma 44), .ref (ma 45), .ref (ma 46), .ref (ma 47), .ref (ma 48), .int 0, .int 0, .int 0, .int 0, .int 0, .int 0, .int 0, .long 0, .int 0, .long 0, .long 0, .long 0, .long 0, .int 0, .int 0, .int 0, .int 0, .long 0])), (ma 39, .inl (G.2 0, 6, .inl (fun _ => 0)))] H := hP
    have hD : va_D A [(m0, .inr (9, [.int 0, .int 0, .int 0, .int (-1), .ref (ma 4), .ref (ma 5), .ref (ma 6), .ref (ma 7), .ref (ma 8), .ref (ma 9), .ref (ma 10), .ref (ma 11), .ref (ma 12), .ref (ma 13), .ref (ma 14), .ref (ma 15), .ref (ma 16), .ref (ma 17), .ref (ma 18), .ref (ma 19), .int 0, .ref (ma 21), .ref (ma 22), .ref (ma 23), .ref (ma 24), .ref (ma 25), .ref (ma 26), .ref (ma 27), .ref (ma 28), .ref (ma 29), .ref (ma 30), .ref (ma 31), .ref (ma 32), .ref (ma 33), .ref (ma 34), .ref (ma 35), .ref (ma 36), .ref (ma 37), .int 0, .ref (ma 39), .ref (ma 40), .ref (ma 41), .ref (ma 42), .ref (ma 43), .ref (ma 44), .ref (ma 45), .ref (ma 46), .ref (ma 47), .ref (ma 48), .int 0, .int 0, .int 0, .int 0, .int 0, .int 0, .int 0, .long 0, .int 0, .long 0, .long 0, .long 0, .long 0, .int 0, .int 0, .int 0, .int 0, .long 0])), (ma 39, .inl (G.2 0, 6, .inl (fun _ => 0)))] := hD
    obtain rfl : r_6 = (-4) := hr_6
    refine lv_aload_n hx hb dL_law_1713 rfl (lv_at hl 1 rfl) ?_
    refine lv_aload_n hx hb dL_law_1714 rfl (lv_at hl 3 rfl) ?_
    refine lv_iload_n hx hb dL_law_1715 rfl (lv_at hl 0 rfl) ?_
    refine lv_iconst (v := 1) hx hb dL_law_1716 (by decide) ?_
    refine lv_iadd hx hb dL_law_1717 ?_
    refine lv_topi (fun z_8 ez_8 => ?_)
    obtain rfl : z_8 = 1 := ez_8.trans (by first | rfl | decide +kernel)
    refine va_sld hx hb hX hbl hbA hS (by unfold vp_in; decide +kernel) dL_law_1718 ?_
    rw [← ez_2]
    refine lv_aload_n hx hb dL_law_1719 rfl (lv_at hl 3 rfl) ?_
    refine lv_iload_n hx hb dL_law_1720 rfl (lv_at hl 0 rfl) ?_
    refine lv_iconst (v := 2) hx hb dL_law_1721 (by decide) ?_
    refine lv_iadd hx hb dL_law_1722 ?_
    refine lv_topi (fun z_9 ez_9 => ?_)
    obtain rfl : z_9 = 2 := ez_9.trans (by first | rfl | decide +kernel)
    refine va_sld hx hb hX hbl hbA hS (by unfold vp_in; decide +kernel) dL_law_1723 ?_
    rw [← ez_4]
    refine lv_if_eq (tgt := 1731) hx hb dL_law_1724 (by decide) (fun c_10 => ?_) (fun c_10 => absurd c_5 c_10)
    refine lv_iconst (v := 0) hx hb dL_law_1731 (by decide) ?_
    refine xVwi (rq := 0) (ci := 9) (wc := [(m0, .inr (9, [.int 0, .int 0, .int 0, .int (-1), .ref (ma 4), .ref (ma 5), .ref (ma 6), .ref (ma 7), .ref (ma 8), .ref (ma 9), .ref (ma 10), .ref (ma 11), .ref (ma 12), .ref (ma 13), .ref (ma 14), .ref (ma 15), .ref (ma 16), .ref (ma 17), .ref (ma 18), .ref (ma 19), .int 0, .ref (ma 21), .ref (ma 22), .ref (ma 23), .ref (ma 24), .ref (ma 25), .ref (ma 26), .ref (ma 27), .ref (ma 28), .ref (ma 29), .ref (ma 30), .ref (ma 31), .ref (ma 32), .ref (ma 33), .ref (ma 34), .ref (ma 35), .ref (ma 36), .ref (ma 37), .int 0, .ref (ma 39), .ref (ma 40), .ref (ma 41), .ref (ma 42), .ref (ma 43), .ref (ma 44), .ref (ma 45), .ref (ma 46), .ref (ma 47), .ref (ma 48), .int 0, .int 0, .int 0, .int 0, .int 0, .int 0, .int 0, .long 0, .int 0, .long 0, .long 0, .long 0, .long 0, .int 0, .int 0, .int 0, .int 0, .long 0])), (ma 39, .inl (G.2 0, 6, .inl (fun _ => 0)))]) (wr := []) (As := [.int z_2, .int 0]) (rest := [.int (-4)]) C0 (c_X9_check l G m0 ma z_2 0) ok_X9_check (mW1064 : Cond.methodLink RL 164 yX9_check ∈ wsT) ⟨Nat.le_of_ble_eq_true rfl, Nat.le_of_ble_eq_true rfl⟩ hP hD hS hA hK hN [0, 1] [] rfl rfl (by decide) (by decide) (by decide) rfl rfl rfl rfl hl.1 rfl (Nat.le_of_ble_eq_true rfl) ⟨Nat.le_of_ble_eq_true rfl, Nat.le_of_ble_eq_true rfl⟩ dL_law_1732 (fun r_11 u_12 H locs hr_11 hP hD hS => ?_)
    have hP : va_P G.1 xcl [] H := hP
    have hD : va_D A [] := hD
    obtain rfl : r_11 = (-4) := hr_11
    refine lv_icmp_eq (tgt := 1789) hx hb dL_law_1735 (by decide) (fun c_13 => ?_) (fun c_13 => absurd c_13 (by decide +kernel))
    exact law_tail C0 hr hlocks hX hbl hbA hA2 hS ls (lv_sub hl [0, 3] rfl)
  · refine lv_iconst (v := 1) hx hb dL_law_1705 (by decide) ?_
    refine lv_goto (tgt := 1710) hx hb dL_law_1706 (by decide) ?_
    refine xVwi (rq := 0) (ci := 8) (wc := [(q0, .inr (8, [.ref qb, .ref qk, .ref qg, .ref qr, .int 0, .int 0])), (qr, .inl (G.2 0, 6, .inl (fun _ => 0))), (qb, .inr (0, [.ref (b 0), .ref (b 1), .ref (b 2), .ref (b 3), .ref (b 4), .int 0])), (b 2, .inr (1, [.ref (b 13), .ref (b 14), .int 0, .int (-1)]))]) (wr := [(m0, .inr (9, [.int 0, .int 0, .int 0, .int (-1), .ref (ma 4), .ref (ma 5), .ref (ma 6), .ref (ma 7), .ref (ma 8), .ref (ma 9), .ref (ma 10), .ref (ma 11), .ref (ma 12), .ref (ma 13), .ref (ma 14), .ref (ma 15), .ref (ma 16), .ref (ma 17), .ref (ma 18), .ref (ma 19), .int 0, .ref (ma 21), .ref (ma 22), .ref (ma 23), .ref (ma 24), .ref (ma 25), .ref (ma 26), .ref (ma 27), .ref (ma 28), .ref (ma 29), .ref (ma 30), .ref (ma 31), .ref (ma 32), .ref (ma 33), .ref (ma 34), .ref (ma 35), .ref (ma 36), .ref (ma 37), .int 0, .ref (ma 39), .ref (ma 40), .ref (ma 41), .ref (ma 42), .ref (ma 43), .ref (ma 44), .ref (ma 45), .ref (ma 46), .ref (ma 47), .ref (ma 48), .int 0, .int 0, .int 0, .int 0, .int 0, .int 0, .int 0, .long 0, .int 0, .long 0, .long 0, .long 0, .long 0, .int 0, .int 0, .int 0, .int 0, .long 0])), (ma 39, .inl (G.2 0, 6, .inl (fun _ => 0)))]) (As := [.int z_2, .int 1]) (rest := []) C0 (c_X8_check l G q0 qb qk qg qr b pf z_2 1 hpf) ok_X8_check (mW1052 : Cond.methodLink RL 160 yX8_check ∈ wsT) ⟨Nat.le_of_ble_eq_true rfl, Nat.le_of_ble_eq_true rfl⟩ hP hD hS hA hK hN [0, 1, 2, 3] [4, 5] rfl rfl (by decide) (by decide) (by decide) rfl rfl rfl rfl hl.1 rfl (Nat.le_of_ble_eq_true rfl) ⟨Nat.le_of_ble_eq_true rfl, Nat.le_of_ble_eq_true rfl⟩ dL_law_1710 (fun r_14 u_15 H locs hr_14 hP hD hS => ?_)
    have hP : va_P G.1 xcl [(m0, .inr (9, [.int 0, .int 0, .int 0, .int (-1), .ref (ma 4), .ref (ma 5), .ref (ma 6), .ref (ma 7), .ref (ma 8), .ref (ma 9), .ref (ma 10), .ref (ma 11), .ref (ma 12), .ref (ma 13), .ref (ma 14), .ref (ma 15), .ref (ma 16), .ref (ma 17), .ref (ma 18), .ref (ma 19), .int 0, .ref (ma 21), .ref (ma 22), .ref (ma 23), .ref (ma 24), .ref (ma 25), .ref (ma 26), .ref (ma 27), .ref (ma 28), .ref (ma 29), .ref (ma 30), .ref (ma 31), .ref (ma 32), .ref (ma 33), .ref (ma 34), .ref (ma 35), .ref (ma 36), .ref (ma 37), .int 0, .ref (ma 39), .ref (ma 40), .ref (ma 41), .ref (ma 42), .ref (ma 43), .ref (ma 44), .ref (ma 45), .ref (ma 46), .ref (ma 47), .ref (ma 48), .int 0, .int 0, .int 0, .int 0, .int 0, .int 0, .int 0, .long 0, .int 0, .long 0, .long 0, .long 0, .long 0, .int 0, .int 0, .int 0, .int 0, .long 0])), (ma 39, .inl (G.2 0, 6, .inl (fun _ => 0)))] H := hP
    have hD : va_D A [(m0, .inr (9, [.int 0, .int 0, .int 0, .int (-1), .ref (ma 4), .ref (ma 5), .ref (ma 6), .ref (ma 7), .ref (ma 8), .ref (ma 9), .ref (ma 10), .ref (ma 11), .ref (ma 12), .ref (ma 13), .ref (ma 14), .ref (ma 15), .ref (ma 16), .ref (ma 17), .ref (ma 18), .ref (ma 19), .int 0, .ref (ma 21), .ref (ma 22), .ref (ma 23), .ref (ma 24), .ref (ma 25), .ref (ma 26), .ref (ma 27), .ref (ma 28), .ref (ma 29), .ref (ma 30), .ref (ma 31), .ref (ma 32), .ref (ma 33), .ref (ma 34), .ref (ma 35), .ref (ma 36), .ref (ma 37), .int 0, .ref (ma 39), .ref (ma 40), .ref (ma 41), .ref (ma 42), .ref (ma 43), .ref (ma 44), .ref (ma 45), .ref (ma 46), .ref (ma 47), .ref (ma 48), .int 0, .int 0, .int 0, .int 0, .int 0, .int 0, .int 0, .long 0, .int 0, .long 0, .long 0, .long 0, .long 0, .int 0, .int 0, .int 0, .int 0, .long 0])), (ma 39, .inl (G.2 0, 6, .inl (fun _ => 0)))] := hD
    obtain rfl : r_14 = (-4) := hr_14
    refine lv_aload_n hx hb dL_law_1713 rfl (lv_at hl 1 rfl) ?_
    refine lv_aload_n hx hb dL_law_1714 rfl (lv_at hl 3 rfl) ?_
    refine lv_iload_n hx hb dL_law_1715 rfl (lv_at hl 0 rfl) ?_
    refine lv_iconst (v := 1) hx hb dL_law_1716 (by decide) ?_
    refine lv_iadd hx hb dL_law_1717 ?_
    refine lv_topi (fun z_16 ez_16 => ?_)
    obtain rfl : z_16 = 1 := ez_16.trans (by first | rfl | decide +kernel)
    refine va_sld hx hb hX hbl hbA hS (by unfold vp_in; decide +kernel) dL_law_1718 ?_
    rw [← ez_2]
    refine lv_aload_n hx hb dL_law_1719 rfl (lv_at hl 3 rfl) ?_
    refine lv_iload_n hx hb dL_law_1720 rfl (lv_at hl 0 rfl) ?_
    refine lv_iconst (v := 2) hx hb dL_law_1721 (by decide) ?_
    refine lv_iadd hx hb dL_law_1722 ?_
    refine lv_topi (fun z_17 ez_17 => ?_)
    obtain rfl : z_17 = 2 := ez_17.trans (by first | rfl | decide +kernel)
    refine va_sld hx hb hX hbl hbA hS (by unfold vp_in; decide +kernel) dL_law_1723 ?_
    rw [← ez_4]
    refine lv_if_eq (tgt := 1731) hx hb dL_law_1724 (by decide) (fun c_18 => absurd c_18 c_5) (fun c_18 => ?_)
    refine lv_iconst (v := 1) hx hb dL_law_1727 (by decide) ?_
    refine lv_goto (tgt := 1732) hx hb dL_law_1728 (by decide) ?_
    refine xVwi (rq := 0) (ci := 9) (wc := [(m0, .inr (9, [.int 0, .int 0, .int 0, .int (-1), .ref (ma 4), .ref (ma 5), .ref (ma 6), .ref (ma 7), .ref (ma 8), .ref (ma 9), .ref (ma 10), .ref (ma 11), .ref (ma 12), .ref (ma 13), .ref (ma 14), .ref (ma 15), .ref (ma 16), .ref (ma 17), .ref (ma 18), .ref (ma 19), .int 0, .ref (ma 21), .ref (ma 22), .ref (ma 23), .ref (ma 24), .ref (ma 25), .ref (ma 26), .ref (ma 27), .ref (ma 28), .ref (ma 29), .ref (ma 30), .ref (ma 31), .ref (ma 32), .ref (ma 33), .ref (ma 34), .ref (ma 35), .ref (ma 36), .ref (ma 37), .int 0, .ref (ma 39), .ref (ma 40), .ref (ma 41), .ref (ma 42), .ref (ma 43), .ref (ma 44), .ref (ma 45), .ref (ma 46), .ref (ma 47), .ref (ma 48), .int 0, .int 0, .int 0, .int 0, .int 0, .int 0, .int 0, .long 0, .int 0, .long 0, .long 0, .long 0, .long 0, .int 0, .int 0, .int 0, .int 0, .long 0])), (ma 39, .inl (G.2 0, 6, .inl (fun _ => 0)))]) (wr := []) (As := [.int z_2, .int 1]) (rest := [.int (-4)]) C0 (c_X9_check l G m0 ma z_2 1) ok_X9_check (mW1064 : Cond.methodLink RL 164 yX9_check ∈ wsT) ⟨Nat.le_of_ble_eq_true rfl, Nat.le_of_ble_eq_true rfl⟩ hP hD hS hA hK hN [0, 1] [] rfl rfl (by decide) (by decide) (by decide) rfl rfl rfl rfl hl.1 rfl (Nat.le_of_ble_eq_true rfl) ⟨Nat.le_of_ble_eq_true rfl, Nat.le_of_ble_eq_true rfl⟩ dL_law_1732 (fun r_19 u_20 H locs hr_19 hP hD hS => ?_)
    have hP : va_P G.1 xcl [] H := hP
    have hD : va_D A [] := hD
    obtain rfl : r_19 = (-4) := hr_19
    refine lv_icmp_eq (tgt := 1789) hx hb dL_law_1735 (by decide) (fun c_21 => ?_) (fun c_21 => absurd c_21 (by decide +kernel))
    exact law_tail C0 hr hlocks hX hbl hbA hA2 hS ls (lv_sub hl [0, 3] rfl)
theorem dL_law_1740 : decode cL_law 1740 = .ok (.aload_n 1, 1) := by decide +kernel
theorem dL_law_1741 : decode cL_law 1741 = .ok (.invokevirtual 165, 3) := by decide +kernel
theorem dL_law_1744 : decode cL_law 1744 = .ok (.aload_n 2, 1) := by decide +kernel
theorem dL_law_1745 : decode cL_law 1745 = .ok (.invokevirtual 169, 3) := by decide +kernel
theorem dL_law_1748 : decode cL_law 1748 = .ok (.if_icmp .eq 41, 3) := by decide +kernel
set_option maxHeartbeats 4000000 in
set_option maxRecDepth 100000 in
/-- case 33: image -/
theorem law_33 {q0 : Nat} {qb : Nat} {qk : Nat} {qg : Nat} {qr : Nat} {b : Nat → Nat} {pf : Nat → Option Nat} {kf : Nat → Int32} {b2 : Nat → Nat} {pf2 : Nat → Option Nat} {kf2 : Nat → Int32} {m0 : Nat} {ma : Nat → Nat} {p : Program} {l : Launch} {e : Env} {s : State} {m : MethodId} {below : List Frame} {meth : Method} {c : Code} {G : xG} {sc : Nat} {xs : Nat → Int32} {A : Nat → Prop} (C0 : CallFix p m c code 4 s #[Value.ref sc] wsT RL) (hr : meth.sig.returnType = ret) (hlocks : meth.locks = false) (hK : va_K G.1 xcl (xty G) s) (hN : xN s) (hX : va_X sc 7 xs s s.heap) (hbl : sc < s.heap.size) (hbA : ¬ A sc) (hA : ∀ q : Nat, s.heap.size ≤ q → A q) (hA2 : ∀ q, A q → s.heap.size ≤ q) (hpf : ∀ k, k < 8 → pf k = some (b (16 + k))) (hpf2 : ∀ k, k < 8 → pf2 k = some (b2 (16 + k))) {H : Heap} {locs : List Loc} {ls : Array Slot} (hP : va_P G.1 xcl [(q0, .inr (8, [.ref qb, .ref qk, .ref qg, .ref qr, .int 0, .int 0])), (qr, .inl (G.2 0, 6, .inl (fun _ => 0))), (qb, .inr (0, [.ref (b 0), .ref (b 1), .ref (b 2), .ref (b 3), .ref (b 4), .int 0])), (b 0, .inr (6, [.ref (b 5), .ref (b 6), .ref (b 7), .ref (b 8), .ref (b 9), .ref (b 10), .int 0])), (b 1, .inr (2, [.ref (b 11), .ref (b 12), .int 0])), (b 2, .inr (1, [.ref (b 13), .ref (b 14), .int 0, .int (-1)])), (b 3, .inl (G.2 5, 8, .inr (.inr (.inr (.inr pf))))), (b 16, .inr (4, [.ref (b 24), .ref (b 32), .int 0, .int 0, .int 0, .int 0, .int 0, .int 0, .long 0, .long 0, .long 0])), (b 17, .inr (4, [.ref (b 25), .ref (b 33), .int 0, .int 0, .int 0, .int 0, .int 0, .int 0, .long 0, .long 0, .long 0])), (b 18, .inr (4, [.ref (b 26), .ref (b 34), .int 0, .int 0, .int 0, .int 0, .int 0, .int 0, .long 0, .long 0, .long 0])), (b 19, .inr (4, [.ref (b 27), .ref (b 35), .int 0, .int 0, .int 0, .int 0, .int 0, .int 0, .long 0, .long 0, .long 0])), (b 20, .inr (4, [.ref (b 28), .ref (b 36), .int 0, .int 0, .int 0, .int 0, .int 0, .int 0, .long 0, .long 0, .long 0])), (b 21, .inr (4, [.ref (b 29), .ref (b 37), .int 0, .int 0, .int 0, .int 0, .int 0, .int 0, .long 0, .long 0, .long 0])), (b 22, .inr (4, [.ref (b 30), .ref (b 38), .int 0, .int 0, .int 0, .int 0, .int 0, .int 0, .long 0, .long 0, .long 0])), (b 23, .inr (4, [.ref (b 31), .ref (b 39), .int 0, .int 0, .int 0, .int 0, .int 0, .int 0, .long 0, .long 0, .long 0])), (b 5, .inl (G.2 0, 2402, .inl kf)), (b 6, .inl (G.2 0, 2402, .inl (fun _ => 0))), (b 7, .inl (G.2 0, 2402, .inl (fun _ => 0))), (b 8, .inl (G.2 0, 2402, .inl (fun _ => 0))), (b 9, .inl (G.2 0, 2402, .inl (fun _ => 0))), (b 10, .inl (G.2 0, 2402, .inl (fun _ => 0))), (b 13, .inl (G.2 0, 500, .inl (fun _ => 0))), (b 14, .inl (G.2 0, 500, .inl (fun _ => 0))), (b 24, .inl (G.2 0, 90, .inl (fun _ => 0))), (b 32, .inl (G.2 0, 90, .inl (fun _ => 0))), (b 25, .inl (G.2 0, 90, .inl (fun _ => 0))), (b 33, .inl (G.2 0, 90, .inl (fun _ => 0))), (b 26, .inl (G.2 0, 90, .inl (fun _ => 0))), (b 34, .inl (G.2 0, 90, .inl (fun _ => 0))), (b 27, .inl (G.2 0, 90, .inl (fun _ => 0))), (b 35, .inl (G.2 0, 90, .inl (fun _ => 0))), (b 28, .inl (G.2 0, 90, .inl (fun _ => 0))), (b 36, .inl (G.2 0, 90, .inl (fun _ => 0))), (b 29, .inl (G.2 0, 90, .inl (fun _ => 0))), (b 37, .inl (G.2 0, 90, .inl (fun _ => 0))), (b 30, .inl (G.2 0, 90, .inl (fun _ => 0))), (b 38, .inl (G.2 0, 90, .inl (fun _ => 0))), (b 31, .inl (G.2 0, 90, .inl (fun _ => 0))), (b 39, .inl (G.2 0, 90, .inl (fun _ => 0))), (qk, .inr (0, [.ref (b2 0), .ref (b2 1), .ref (b2 2), .ref (b2 3), .ref (b2 4), .int 0])), (b2 0, .inr (6, [.ref (b2 5), .ref (b2 6), .ref (b2 7), .ref (b2 8), .ref (b2 9), .ref (b2 10), .int 0])), (b2 1, .inr (2, [.ref (b2 11), .ref (b2 12), .int 0])), (b2 2, .inr (1, [.ref (b2 13), .ref (b2 14), .int 0, .int (-1)])), (b2 3, .inl (G.2 5, 8, .inr (.inr (.inr (.inr pf2))))), (b2 16, .inr (4, [.ref (b2 24), .ref (b2 32), .int 0, .int 0, .int 0, .int 0, .int 0, .int 0, .long 0, .long 0, .long 0])), (b2 17, .inr (4, [.ref (b2 25), .ref (b2 33), .int 0, .int 0, .int 0, .int 0, .int 0, .int 0, .long 0, .long 0, .long 0])), (b2 18, .inr (4, [.ref (b2 26), .ref (b2 34), .int 0, .int 0, .int 0, .int 0, .int 0, .int 0, .long 0, .long 0, .long 0])), (b2 19, .inr (4, [.ref (b2 27), .ref (b2 35), .int 0, .int 0, .int 0, .int 0, .int 0, .int 0, .long 0, .long 0, .long 0])), (b2 20, .inr (4, [.ref (b2 28), .ref (b2 36), .int 0, .int 0, .int 0, .int 0, .int 0, .int 0, .long 0, .long 0, .long 0])), (b2 21, .inr (4, [.ref (b2 29), .ref (b2 37), .int 0, .int 0, .int 0, .int 0, .int 0, .int 0, .long 0, .long 0, .long 0])), (b2 22, .inr (4, [.ref (b2 30), .ref (b2 38), .int 0, .int 0, .int 0, .int 0, .int 0, .int 0, .long 0, .long 0, .long 0])), (b2 23, .inr (4, [.ref (b2 31), .ref (b2 39), .int 0, .int 0, .int 0, .int 0, .int 0, .int 0, .long 0, .long 0, .long 0])), (b2 5, .inl (G.2 0, 2402, .inl kf2)), (b2 6, .inl (G.2 0, 2402, .inl (fun _ => 0))), (b2 7, .inl (G.2 0, 2402, .inl (fun _ => 0))), (b2 8, .inl (G.2 0, 2402, .inl (fun _ => 0))), (b2 9, .inl (G.2 0, 2402, .inl (fun _ => 0))), (b2 10, .inl (G.2 0, 2402, .inl (fun _ => 0))), (b2 13, .inl (G.2 0, 500, .inl (fun _ => 0))), (b2 14, .inl (G.2 0, 500, .inl (fun _ => 0))), (b2 24, .inl (G.2 0, 90, .inl (fun _ => 0))), (b2 32, .inl (G.2 0, 90, .inl (fun _ => 0))), (b2 25, .inl (G.2 0, 90, .inl (fun _ => 0))), (b2 33, .inl (G.2 0, 90, .inl (fun _ => 0))), (b2 26, .inl (G.2 0, 90, .inl (fun _ => 0))), (b2 34, .inl (G.2 0, 90, .inl (fun _ => 0))), (b2 27, .inl (G.2 0, 90, .inl (fun _ => 0))), (b2 35, .inl (G.2 0, 90, .inl (fun _ => 0))), (b2 28, .inl (G.2 0, 90, .inl (fun _ => 0))), (b2 36, .inl (G.2 0, 90, .inl (fun _ => 0))), (b2 29, .inl (G.2 0, 90, .inl (fun _ => 0))), (b2 37, .inl (G.2 0, 90, .inl (fun _ => 0))), (b2 30, .inl (G.2 0, 90, .inl (fun _ => 0))), (b2 38, .inl (G.2 0, 90, .inl (fun _ => 0))), (b2 31, .inl (G.2 0, 90, .inl (fun _ => 0))), (b2 39, .inl (G.2 0, 90, .inl (fun _ => 0))), (m0, .inr (9, [.int 0, .int 0, .int 0, .int (-1), .ref (ma 4), .ref (ma 5), .ref (ma 6), .ref (ma 7), .ref (ma 8), .ref (ma 9), .ref (ma 10), .ref (ma 11), .ref (ma 12), .ref (ma 13), .ref (ma 14), .ref (ma 15), .ref (ma 16), .ref (ma 17), .ref (ma 18), .ref (ma 19), .int 0, .ref (ma 21), .ref (ma 22), .ref (ma 23), .ref (ma 24), .ref (ma 25), .ref (ma 26), .ref (ma 27), .ref (ma 28), .ref (ma 29), .ref (ma 30), .ref (ma 31), .ref (ma 32), .ref (ma 33), .ref (ma 34), .ref (ma 35), .ref (ma 36), .ref (ma 37), .int 0, .ref (ma 39), .ref (ma 40), .ref (ma 41), .ref (ma 42), .ref (ma 43), .ref (ma 44), .ref (ma 45), .ref (ma 46), .ref (ma 47), .ref (ma 48), .int 0, .int 0, .int 0, .int 0, .int 0, .int 0, .int 0, .long 0, .int 0, .long 0, .long 0, .long 0, .long 0, .int 0, .int 0, .int 0, .int 0, .long 0])), (ma 4, .inl (G.2 1, 2400, .inl (fun _ => 0))), (ma 5, .inl (G.2 1, 2400, .inl (fun _ => 0))), (ma 6, .inl (G.2 1, 2400, .inl (fun _ => 0))), (ma 7, .inl (G.2 0, 2400, .inl (fun _ => 0))), (ma 8, .inl (G.2 0, 2400, .inl (fun _ => 0))), (ma 9, .inl (G.2 1, 2400, .inl (fun _ => 0))), (ma 10, .inl (G.2 0, 2400, .inl (fun _ => 0))), (ma 11, .inl (G.2 4, 96, .inr (.inl (fun _ => 0)))), (ma 12, .inl (G.2 2, 720, .inl (fun _ => 0))), (ma 13, .inl (G.2 3, 720, .inl (fun _ => 0))), (ma 14, .inl (G.2 3, 720, .inl (fun _ => 0))), (ma 15, .inl (G.2 1, 5000, .inl (fun _ => 0))), (ma 16, .inl (G.2 0, 5000, .inl (fun _ => 0))), (ma 17, .inl (G.2 1, 5000, .inl (fun _ => 0))), (ma 18, .inl (G.2 0, 500, .inl (fun _ => 0))), (ma 19, .inl (G.2 1, 500, .inl (fun _ => 0))), (ma 21, .inl (G.2 0, 4, .inl (fun _ => 0))), (ma 22, .inl (G.2 1, 2400, .inl (fun _ => 0))), (ma 23, .inl (G.2 1, 2400, .inl (fun _ => 0))), (ma 24, .inl (G.2 1, 2400, .inl (fun _ => 0))), (ma 25, .inl (G.2 0, 2400, .inl (fun _ => 0))), (ma 26, .inl (G.2 0, 2400, .inl (fun _ => 0))), (ma 27, .inl (G.2 1, 2400, .inl (fun _ => 0))), (ma 28, .inl (G.2 0, 2400, .inl (fun _ => 0))), (ma 29, .inl (G.2 4, 96, .inr (.inl (fun _ => 0)))), (ma 30, .inl (G.2 2, 720, .inl (fun _ => 0))), (ma 31, .inl (G.2 3, 720, .inl (fun _ => 0))), (ma 32, .inl (G.2 3, 720, .inl (fun _ => 0))), (ma 33, .inl (G.2 1, 5000, .inl (fun _ => 0))), (ma 34, .inl (G.2 0, 5000, .inl (fun _ => 0))), (ma 35, .inl (G.2 1, 5000, .inl (fun _ => 0))), (ma 36, .inl (G.2 0, 500, .inl (fun _ => 0))), (ma 37, .inl (G.2 1, 500, .inl (fun _ => 0))), (ma 39, .inl (G.2 0, 6, .inl (fun _ => 0)))] H) (hD : va_D A [(q0, .inr (8, [.ref qb, .ref qk, .ref qg, .ref qr, .int 0, .int 0])), (qr, .inl (G.2 0, 6, .inl (fun _ => 0))), (qb, .inr (0, [.ref (b 0), .ref (b 1), .ref (b 2), .ref (b 3), .ref (b 4), .int 0])), (b 0, .inr (6, [.ref (b 5), .ref (b 6), .ref (b 7), .ref (b 8), .ref (b 9), .ref (b 10), .int 0])), (b 1, .inr (2, [.ref (b 11), .ref (b 12), .int 0])), (b 2, .inr (1, [.ref (b 13), .ref (b 14), .int 0, .int (-1)])), (b 3, .inl (G.2 5, 8, .inr (.inr (.inr (.inr pf))))), (b 16, .inr (4, [.ref (b 24), .ref (b 32), .int 0, .int 0, .int 0, .int 0, .int 0, .int 0, .long 0, .long 0, .long 0])), (b 17, .inr (4, [.ref (b 25), .ref (b 33), .int 0, .int 0, .int 0, .int 0, .int 0, .int 0, .long 0, .long 0, .long 0])), (b 18, .inr (4, [.ref (b 26), .ref (b 34), .int 0, .int 0, .int 0, .int 0, .int 0, .int 0, .long 0, .long 0, .long 0])), (b 19, .inr (4, [.ref (b 27), .ref (b 35), .int 0, .int 0, .int 0, .int 0, .int 0, .int 0, .long 0, .long 0, .long 0])), (b 20, .inr (4, [.ref (b 28), .ref (b 36), .int 0, .int 0, .int 0, .int 0, .int 0, .int 0, .long 0, .long 0, .long 0])), (b 21, .inr (4, [.ref (b 29), .ref (b 37), .int 0, .int 0, .int 0, .int 0, .int 0, .int 0, .long 0, .long 0, .long 0])), (b 22, .inr (4, [.ref (b 30), .ref (b 38), .int 0, .int 0, .int 0, .int 0, .int 0, .int 0, .long 0, .long 0, .long 0])), (b 23, .inr (4, [.ref (b 31), .ref (b 39), .int 0, .int 0, .int 0, .int 0, .int 0, .int 0, .long 0, .long 0, .long 0])), (b 5, .inl (G.2 0, 2402, .inl kf)), (b 6, .inl (G.2 0, 2402, .inl (fun _ => 0))), (b 7, .inl (G.2 0, 2402, .inl (fun _ => 0))), (b 8, .inl (G.2 0, 2402, .inl (fun _ => 0))), (b 9, .inl (G.2 0, 2402, .inl (fun _ => 0))), (b 10, .inl (G.2 0, 2402, .inl (fun _ => 0))), (b 13, .inl (G.2 0, 500, .inl (fun _ => 0))), (b 14, .inl (G.2 0, 500, .inl (fun _ => 0))), (b 24, .inl (G.2 0, 90, .inl (fun _ => 0))), (b 32, .inl (G.2 0, 90, .inl (fun _ => 0))), (b 25, .inl (G.2 0, 90, .inl (fun _ => 0))), (b 33, .inl (G.2 0, 90, .inl (fun _ => 0))), (b 26, .inl (G.2 0, 90, .inl (fun _ => 0))), (b 34, .inl (G.2 0, 90, .inl (fun _ => 0))), (b 27, .inl (G.2 0, 90, .inl (fun _ => 0))), (b 35, .inl (G.2 0, 90, .inl (fun _ => 0))), (b 28, .inl (G.2 0, 90, .inl (fun _ => 0))), (b 36, .inl (G.2 0, 90, .inl (fun _ => 0))), (b 29, .inl (G.2 0, 90, .inl (fun _ => 0))), (b 37, .inl (G.2 0, 90, .inl (fun _ => 0))), (b 30, .inl (G.2 0, 90, .inl (fun _ => 0))), (b 38, .inl (G.2 0, 90, .inl (fun _ => 0))), (b 31, .inl (G.2 0, 90, .inl (fun _ => 0))), (b 39, .inl (G.2 0, 90, .inl (fun _ => 0))), (qk, .inr (0, [.ref (b2 0), .ref (b2 1), .ref (b2 2), .ref (b2 3), .ref (b2 4), .int 0])), (b2 0, .inr (6, [.ref (b2 5), .ref (b2 6), .ref (b2 7), .ref (b2 8), .ref (b2 9), .ref (b2 10), .int 0])), (b2 1, .inr (2, [.ref (b2 11), .ref (b2 12), .int 0])), (b2 2, .inr (1, [.ref (b2 13), .ref (b2 14), .int 0, .int (-1)])), (b2 3, .inl (G.2 5, 8, .inr (.inr (.inr (.inr pf2))))), (b2 16, .inr (4, [.ref (b2 24), .ref (b2 32), .int 0, .int 0, .int 0, .int 0, .int 0, .int 0, .long 0, .long 0, .long 0])), (b2 17, .inr (4, [.ref (b2 25), .ref (b2 33), .int 0, .int 0, .int 0, .int 0, .int 0, .int 0, .long 0, .long 0, .long 0])), (b2 18, .inr (4, [.ref (b2 26), .ref (b2 34), .int 0, .int 0, .int 0, .int 0, .int 0, .int 0, .long 0, .long 0, .long 0])), (b2 19, .inr (4, [.ref (b2 27), .ref (b2 35), .int 0, .int 0, .int 0, .int 0, .int 0, .int 0, .long 0, .long 0, .long 0])), (b2 20, .inr (4, [.ref (b2 28), .ref (b2 36), .int 0, .int 0, .int 0, .int 0, .int 0, .int 0, .long 0, .long 0, .long 0])), (b2 21, .inr (4, [.ref (b2 29), .ref (b2 37), .int 0, .int 0, .int 0, .int 0, .int 0, .int 0, .long 0, .long 0, .long 0])), (b2 22, .inr (4, [.ref (b2 30), .ref (b2 38), .int 0, .int 0, .int 0, .int 0, .int 0, .int 0, .long 0, .long 0, .long 0])), (b2 23, .inr (4, [.ref (b2 31), .ref (b2 39), .int 0, .int 0, .int 0, .int 0, .int 0, .int 0, .long 0, .long 0, .long 0])), (b2 5, .inl (G.2 0, 2402, .inl kf2)), (b2 6, .inl (G.2 0, 2402, .inl (fun _ => 0))), (b2 7, .inl (G.2 0, 2402, .inl (fun _ => 0))), (b2 8, .inl (G.2 0, 2402, .inl (fun _ => 0))), (b2 9, .inl (G.2 0, 2402, .inl (fun _ => 0))), (b2 10, .inl (G.2 0, 2402, .inl (fun _ => 0))), (b2 13, .inl (G.2 0, 500, .inl (fun _ => 0))), (b2 14, .inl (G.2 0, 500, .inl (fun _ => 0))), (b2 24, .inl (G.2 0, 90, .inl (fun _ => 0))), (b2 32, .inl (G.2 0, 90, .inl (fun _ => 0))), (b2 25, .inl (G.2 0, 90, .inl (fun _ => 0))), (b2 33, .inl (G.2 0, 90, .inl (fun _ => 0))), (b2 26, .inl (G.2 0, 90, .inl (fun _ => 0))), (b2 34, .inl (G.2 0, 90, .inl (fun _ => 0))), (b2 27, .inl (G.2 0, 90, .inl (fun _ => 0))), (b2 35, .inl (G.2 0, 90, .inl (fun _ => 0))), (b2 28, .inl (G.2 0, 90, .inl (fun _ => 0))), (b2 36, .inl (G.2 0, 90, .inl (fun _ => 0))), (b2 29, .inl (G.2 0, 90, .inl (fun _ => 0))), (b2 37, .inl (G.2 0, 90, .inl (fun _ => 0))), (b2 30, .inl (G.2 0, 90, .inl (fun _ => 0))), (b2 38, .inl (G.2 0, 90, .inl (fun _ => 0))), (b2 31, .inl (G.2 0, 90, .inl (fun _ => 0))), (b2 39, .inl (G.2 0, 90, .inl (fun _ => 0))), (m0, .inr (9, [.int 0, .int 0, .int 0, .int (-1), .ref (ma 4), .ref (ma 5), .ref (ma 6), .ref (ma 7), .ref (ma 8), .ref (ma 9), .ref (ma 10), .ref (ma 11), .ref (ma 12), .ref (ma 13), .ref (ma 14), .ref (ma 15), .ref (ma 16), .ref (ma 17), .ref (ma 18), .ref (ma 19), .int 0, .ref (ma 21), .ref (ma 22), .ref (ma 23), .ref (ma 24), .ref (ma 25), .ref (ma 26), .ref (ma 27), .ref (ma 28), .ref (ma 29), .ref (ma 30), .ref (ma 31), .ref (ma 32), .ref (ma 33), .ref (ma 34), .ref (ma 35), .ref (ma 36), .ref (ma 37), .int 0, .ref (ma 39), .ref (ma 40), .ref (ma 41), .ref (ma 42), .ref (ma 43), .ref (ma 44), .ref (ma 45), .ref (ma 46), .ref (ma 47), .ref (ma 48), .int 0, .int 0, .int 0, .int 0, .int 0, .int 0, .int 0, .long 0, .int 0, .long 0, .long 0, .long 0, .long 0, .int 0, .int 0, .int 0, .int 0, .long 0])), (ma 4, .inl (G.2 1, 2400, .inl (fun _ => 0))), (ma 5, .inl (G.2 1, 2400, .inl (fun _ => 0))), (ma 6, .inl (G.2 1, 2400, .inl (fun _ => 0))), (ma 7, .inl (G.2 0, 2400, .inl (fun _ => 0))), (ma 8, .inl (G.2 0, 2400, .inl (fun _ => 0))), (ma 9, .inl (G.2 1, 2400, .inl (fun _ => 0))), (ma 10, .inl (G.2 0, 2400, .inl (fun _ => 0))), (ma 11, .inl (G.2 4, 96, .inr (.inl (fun _ => 0)))), (ma 12, .inl (G.2 2, 720, .inl (fun _ => 0))), (ma 13, .inl (G.2 3, 720, .inl (fun _ => 0))), (ma 14, .inl (G.2 3, 720, .inl (fun _ => 0))), (ma 15, .inl (G.2 1, 5000, .inl (fun _ => 0))), (ma 16, .inl (G.2 0, 5000, .inl (fun _ => 0))), (ma 17, .inl (G.2 1, 5000, .inl (fun _ => 0))), (ma 18, .inl (G.2 0, 500, .inl (fun _ => 0))), (ma 19, .inl (G.2 1, 500, .inl (fun _ => 0))), (ma 21, .inl (G.2 0, 4, .inl (fun _ => 0))), (ma 22, .inl (G.2 1, 2400, .inl (fun _ => 0))), (ma 23, .inl (G.2 1, 2400, .inl (fun _ => 0))), (ma 24, .inl (G.2 1, 2400, .inl (fun _ => 0))), (ma 25, .inl (G.2 0, 2400, .inl (fun _ => 0))), (ma 26, .inl (G.2 0, 2400, .inl (fun _ => 0))), (ma 27, .inl (G.2 1, 2400, .inl (fun _ => 0))), (ma 28, .inl (G.2 0, 2400, .inl (fun _ => 0))), (ma 29, .inl (G.2 4, 96, .inr (.inl (fun _ => 0)))), (ma 30, .inl (G.2 2, 720, .inl (fun _ => 0))), (ma 31, .inl (G.2 3, 720, .inl (fun _ => 0))), (ma 32, .inl (G.2 3, 720, .inl (fun _ => 0))), (ma 33, .inl (G.2 1, 5000, .inl (fun _ => 0))), (ma 34, .inl (G.2 0, 5000, .inl (fun _ => 0))), (ma 35, .inl (G.2 1, 5000, .inl (fun _ => 0))), (ma 36, .inl (G.2 0, 500, .inl (fun _ => 0))), (ma 37, .inl (G.2 1, 500, .inl (fun _ => 0))), (ma 39, .inl (G.2 0, 6, .inl (fun _ => 0)))]) (hS : va_S A s.heap H locs) (hl : lv_has ls 4 [(3, .int 0), (2, .ref m0), (1, .ref q0), (0, .ref sc)]) : W p l e room_1 s m #[Value.ref sc] below meth c H locs 169 136076 (lw_Z below #[Value.ref sc] s) (F0 m 1740 ls []) := by
  obtain ⟨hx, hb, hml, hown, htl⟩ := id C0
  refine lv_aload_n hx hb dL_law_1740 rfl (lv_at hl 2 rfl) ?_
  refine xVwi (rq := 0) (ci := 8) (wc := [(q0, .inr (8, [.ref qb, .ref qk, .ref qg, .ref qr, .int 0, .int 0])), (qr, .inl (G.2 0, 6, .inl (fun _ => 0))), (qb, .inr (0, [.ref (b 0), .ref (b 1), .ref (b 2), .ref (b 3), .ref (b 4), .int 0])), (b 0, .inr (6, [.ref (b 5), .ref (b 6), .ref (b 7), .ref (b 8), .ref (b 9), .ref (b 10), .int 0])), (b 1, .inr (2, [.ref (b 11), .ref (b 12), .int 0])), (b 2, .inr (1, [.ref (b 13), .ref (b 14), .int 0, .int (-1)])), (b 3, .inl (G.2 5, 8, .inr (.inr (.inr (.inr pf))))), (b 16, .inr (4, [.ref (b 24), .ref (b 32), .int 0, .int 0, .int 0, .int 0, .int 0, .int 0, .long 0, .long 0, .long 0])), (b 17, .inr (4, [.ref (b 25), .ref (b 33), .int 0, .int 0, .int 0, .int 0, .int 0, .int 0, .long 0, .long 0, .long 0])), (b 18, .inr (4, [.ref (b 26), .ref (b 34), .int 0, .int 0, .int 0, .int 0, .int 0, .int 0, .long 0, .long 0, .long 0])), (b 19, .inr (4, [.ref (b 27), .ref (b 35), .int 0, .int 0, .int 0, .int 0, .int 0, .int 0, .long 0, .long 0, .long 0])), (b 20, .inr (4, [.ref (b 28), .ref (b 36), .int 0, .int 0, .int 0, .int 0, .int 0, .int 0, .long 0, .long 0, .long 0])), (b 21, .inr (4, [.ref (b 29), .ref (b 37), .int 0, .int 0, .int 0, .int 0, .int 0, .int 0, .long 0, .long 0, .long 0])), (b 22, .inr (4, [.ref (b 30), .ref (b 38), .int 0, .int 0, .int 0, .int 0, .int 0, .int 0, .long 0, .long 0, .long 0])), (b 23, .inr (4, [.ref (b 31), .ref (b 39), .int 0, .int 0, .int 0, .int 0, .int 0, .int 0, .long 0, .long 0, .long 0])), (b 5, .inl (G.2 0, 2402, .inl kf)), (b 6, .inl (G.2 0, 2402, .inl (fun _ => 0))), (b 7, .inl (G.2 0, 2402, .inl (fun _ => 0))), (b 8, .inl (G.2 0, 2402, .inl (fun _ => 0))), (b 9, .inl (G.2 0, 2402, .inl (fun _ => 0))), (b 10, .inl (G.2 0, 2402, .inl (fun _ => 0))), (b 13, .inl (G.2 0, 500, .inl (fun _ => 0))), (b 14, .inl (G.2 0, 500, .inl (fun _ => 0))), (b 24, .inl (G.2 0, 90, .inl (fun _ => 0))), (b 32, .inl (G.2 0, 90, .inl (fun _ => 0))), (b 25, .inl (G.2 0, 90, .inl (fun _ => 0))), (b 33, .inl (G.2 0, 90, .inl (fun _ => 0))), (b 26, .inl (G.2 0, 90, .inl (fun _ => 0))), (b 34, .inl (G.2 0, 90, .inl (fun _ => 0))), (b 27, .inl (G.2 0, 90, .inl (fun _ => 0))), (b 35, .inl (G.2 0, 90, .inl (fun _ => 0))), (b 28, .inl (G.2 0, 90, .inl (fun _ => 0))), (b 36, .inl (G.2 0, 90, .inl (fun _ => 0))), (b 29, .inl (G.2 0, 90, .inl (fun _ => 0))), (b 37, .inl (G.2 0, 90, .inl (fun _ => 0))), (b 30, .inl (G.2 0, 90, .inl (fun _ => 0))), (b 38, .inl (G.2 0, 90, .inl (fun _ => 0))), (b 31, .inl (G.2 0, 90, .inl (fun _ => 0))), (b 39, .inl (G.2 0, 90, .inl (fun _ => 0))), (qk, .inr (0, [.ref (b2 0), .ref (b2 1), .ref (b2 2), .ref (b2 3), .ref (b2 4), .int 0])), (b2 0, .inr (6, [.ref (b2 5), .ref (b2 6), .ref (b2 7), .ref (b2 8), .ref (b2 9), .ref (b2 10), .int 0])), (b2 1, .inr (2, [.ref (b2 11), .ref (b2 12), .int 0])), (b2 2, .inr (1, [.ref (b2 13), .ref (b2 14), .int 0, .int (-1)])), (b2 3, .inl (G.2 5, 8, .inr (.inr (.inr (.inr pf2))))), (b2 16, .inr (4, [.ref (b2 24), .ref (b2 32), .int 0, .int 0, .int 0, .int 0, .int 0, .int 0, .long 0, .long 0, .long 0])), (b2 17, .inr (4, [.ref (b2 25), .ref (b2 33), .int 0, .int 0, .int 0, .int 0, .int 0, .int 0, .long 0, .long 0, .long 0])), (b2 18, .inr (4, [.ref (b2 26), .ref (b2 34), .int 0, .int 0, .int 0, .int 0, .int 0, .int 0, .long 0, .long 0, .long 0])), (b2 19, .inr (4, [.ref (b2 27), .ref (b2 35), .int 0, .int 0, .int 0, .int 0, .int 0, .int 0, .long 0, .long 0, .long 0])), (b2 20, .inr (4, [.ref (b2 28), .ref (b2 36), .int 0, .int 0, .int 0, .int 0, .int 0, .int 0, .long 0, .long 0, .long 0])), (b2 21, .inr (4, [.ref (b2 29), .ref (b2 37), .int 0, .int 0, .int 0, .int 0, .int 0, .int 0, .long 0, .long 0, .long 0])), (b2 22, .inr (4, [.ref (b2 30), .ref (b2 38), .int 0, .int 0, .int 0, .int 0, .int 0, .int 0, .long 0, .long 0, .long 0])), (b2 23, .inr (4, [.ref (b2 31), .ref (b2 39), .int 0, .int 0, .int 0, .int 0, .int 0, .int 0, .long 0, .long 0, .long 0])), (b2 5, .inl (G.2 0, 2402, .inl kf2)), (b2 6, .inl (G.2 0, 2402, .inl (fun _ => 0))), (b2 7, .inl (G.2 0, 2402, .inl (fun _ => 0))), (b2 8, .inl (G.2 0, 2402, .inl (fun _ => 0))), (b2 9, .inl (G.2 0, 2402, .inl (fun _ => 0))), (b2 10, .inl (G.2 0, 2402, .inl (fun _ => 0))), (b2 13, .inl (G.2 0, 500, .inl (fun _ => 0))), (b2 14, .inl (G.2 0, 500, .inl (fun _ => 0))), (b2 24, .inl (G.2 0, 90, .inl (fun _ => 0))), (b2 32, .inl (G.2 0, 90, .inl (fun _ => 0))), (b2 25, .inl (G.2 0, 90, .inl (fun _ => 0))), (b2 33, .inl (G.2 0, 90, .inl (fun _ => 0))), (b2 26, .inl (G.2 0, 90, .inl (fun _ => 0))), (b2 34, .inl (G.2 0, 90, .inl (fun _ => 0))), (b2 27, .inl (G.2 0, 90, .inl (fun _ => 0))), (b2 35, .inl (G.2 0, 90, .inl (fun _ => 0))), (b2 28, .inl (G.2 0, 90, .inl (fun _ => 0))), (b2 36, .inl (G.2 0, 90, .inl (fun _ => 0))), (b2 29, .inl (G.2 0, 90, .inl (fun _ => 0))), (b2 37, .inl (G.2 0, 90, .inl (fun _ => 0))), (b2 30, .inl (G.2 0, 90, .inl (fun _ => 0))), (b2 38, .inl (G.2 0, 90, .inl (fun _ => 0))), (b2 31, .inl (G.2 0, 90, .inl (fun _ => 0))), (b2 39, .inl (G.2 0, 90, .inl (fun _ => 0)))]) (wr := [(m0, .inr (9, [.int 0, .int 0, .int 0, .int (-1), .ref (ma 4), .ref (ma 5), .ref (ma 6), .ref (ma 7), .ref (ma 8), .ref (ma 9), .ref (ma 10), .ref (ma 11), .ref (ma 12), .ref (ma 13), .ref (ma 14), .ref (ma 15), .ref (ma 16), .ref (ma 17), .ref (ma 18), .ref (ma 19), .int 0, .ref (ma 21), .ref (ma 22), .ref (ma 23), .ref (ma 24), .ref (ma 25), .ref (ma 26), .ref (ma 27), .ref (ma 28), .ref (ma 29), .ref (ma 30), .ref (ma 31), .ref (ma 32), .ref (ma 33), .ref (ma 34), .ref (ma 35), .ref (ma 36), .ref (ma 37), .int 0, .ref (ma 39), .ref (ma 40), .ref (ma 41), .ref (ma 42), .ref (ma 43), .ref (ma 44), .ref (ma 45), .ref (ma 46), .ref (ma 47), .ref (ma 48), .int 0, .int 0, .int 0, .int 0, .int 0, .int 0, .int 0, .long 0, .int 0, .long 0, .long 0, .long 0, .long 0, .int 0, .int 0, .int 0, .int 0, .long 0])), (ma 4, .inl (G.2 1, 2400, .inl (fun _ => 0))), (ma 5, .inl (G.2 1, 2400, .inl (fun _ => 0))), (ma 6, .inl (G.2 1, 2400, .inl (fun _ => 0))), (ma 7, .inl (G.2 0, 2400, .inl (fun _ => 0))), (ma 8, .inl (G.2 0, 2400, .inl (fun _ => 0))), (ma 9, .inl (G.2 1, 2400, .inl (fun _ => 0))), (ma 10, .inl (G.2 0, 2400, .inl (fun _ => 0))), (ma 11, .inl (G.2 4, 96, .inr (.inl (fun _ => 0)))), (ma 12, .inl (G.2 2, 720, .inl (fun _ => 0))), (ma 13, .inl (G.2 3, 720, .inl (fun _ => 0))), (ma 14, .inl (G.2 3, 720, .inl (fun _ => 0))), (ma 15, .inl (G.2 1, 5000, .inl (fun _ => 0))), (ma 16, .inl (G.2 0, 5000, .inl (fun _ => 0))), (ma 17, .inl (G.2 1, 5000, .inl (fun _ => 0))), (ma 18, .inl (G.2 0, 500, .inl (fun _ => 0))), (ma 19, .inl (G.2 1, 500, .inl (fun _ => 0))), (ma 21, .inl (G.2 0, 4, .inl (fun _ => 0))), (ma 22, .inl (G.2 1, 2400, .inl (fun _ => 0))), (ma 23, .inl (G.2 1, 2400, .inl (fun _ => 0))), (ma 24, .inl (G.2 1, 2400, .inl (fun _ => 0))), (ma 25, .inl (G.2 0, 2400, .inl (fun _ => 0))), (ma 26, .inl (G.2 0, 2400, .inl (fun _ => 0))), (ma 27, .inl (G.2 1, 2400, .inl (fun _ => 0))), (ma 28, .inl (G.2 0, 2400, .inl (fun _ => 0))), (ma 29, .inl (G.2 4, 96, .inr (.inl (fun _ => 0)))), (ma 30, .inl (G.2 2, 720, .inl (fun _ => 0))), (ma 31, .inl (G.2 3, 720, .inl (fun _ => 0))), (ma 32, .inl (G.2 3, 720, .inl (fun _ => 0))), (ma 33, .inl (G.2 1, 5000, .inl (fun _ => 0))), (ma 34, .inl (G.2 0, 5000, .inl (fun _ => 0))), (ma 35, .inl (G.2 1, 5000, .inl (fun _ => 0))), (ma 36, .inl (G.2 0, 500, .inl (fun _ => 0))), (ma 37, .inl (G.2 1, 500, .inl (fun _ => 0))), (ma 39, .inl (G.2 0, 6, .inl (fun _ => 0)))]) (As := []) (rest := []) C0 (c_X8_image l G q0 qb qk qg qr b pf kf b2 pf2 kf2 hpf hpf2) ok_X8_image (mW1068 : Cond.methodLink RL 165 yX8_image ∈ wsT) ⟨Nat.le_of_ble_eq_true rfl, Nat.le_of_ble_eq_true rfl⟩ hP hD hS hA hK hN [0, 1, 2, 3, 4, 5, 6, 7, 8, 9, 10, 11, 12, 13, 14, 15, 16, 17, 18, 19, 20, 21, 22, 23, 24, 25, 26, 27, 28, 29, 30, 31, 32, 33, 34, 35, 36, 37, 38, 39, 40, 41, 42, 43, 44, 45, 46, 47, 48, 49, 50, 51, 52, 53, 54, 55, 56, 57, 58, 59, 60, 61, 62, 63, 64, 65, 66, 67, 68, 69, 70, 71, 72, 73, 74, 75] [76, 77, 78, 79, 80, 81, 82, 83, 84, 85, 86, 87, 88, 89, 90, 91, 92, 93, 94, 95, 96, 97, 98, 99, 100, 101, 102, 103, 104, 105, 106, 107, 108, 109, 110] rfl rfl (by decide) (by decide) (by decide) rfl rfl rfl rfl hl.1 rfl (Nat.le_of_ble_eq_true rfl) ⟨Nat.le_of_ble_eq_true rfl, Nat.le_of_ble_eq_true rfl⟩ dL_law_1741 (fun r_1 u_2 H locs hr_1 hP hD hS => ?_)
  have hP : va_P G.1 xcl [(m0, .inr (9, [.int 0, .int 0, .int 0, .int (-1), .ref (ma 4), .ref (ma 5), .ref (ma 6), .ref (ma 7), .ref (ma 8), .ref (ma 9), .ref (ma 10), .ref (ma 11), .ref (ma 12), .ref (ma 13), .ref (ma 14), .ref (ma 15), .ref (ma 16), .ref (ma 17), .ref (ma 18), .ref (ma 19), .int 0, .ref (ma 21), .ref (ma 22), .ref (ma 23), .ref (ma 24), .ref (ma 25), .ref (ma 26), .ref (ma 27), .ref (ma 28), .ref (ma 29), .ref (ma 30), .ref (ma 31), .ref (ma 32), .ref (ma 33), .ref (ma 34), .ref (ma 35), .ref (ma 36), .ref (ma 37), .int 0, .ref (ma 39), .ref (ma 40), .ref (ma 41), .ref (ma 42), .ref (ma 43), .ref (ma 44), .ref (ma 45), .ref (ma 46), .ref (ma 47), .ref (ma 48), .int 0, .int 0, .int 0, .int 0, .int 0, .int 0, .int 0, .long 0, .int 0, .long 0, .long 0, .long 0, .long 0, .int 0, .int 0, .int 0, .int 0, .long 0])), (ma 4, .inl (G.2 1, 2400, .inl (fun _ => 0))), (ma 5, .inl (G.2 1, 2400, .inl (fun _ => 0))), (ma 6, .inl (G.2 1, 2400, .inl (fun _ => 0))), (ma 7, .inl (G.2 0, 2400, .inl (fun _ => 0))), (ma 8, .inl (G.2 0, 2400, .inl (fun _ => 0))), (ma 9, .inl (G.2 1, 2400, .inl (fun _ => 0))), (ma 10, .inl (G.2 0, 2400, .inl (fun _ => 0))), (ma 11, .inl (G.2 4, 96, .inr (.inl (fun _ => 0)))), (ma 12, .inl (G.2 2, 720, .inl (fun _ => 0))), (ma 13, .inl (G.2 3, 720, .inl (fun _ => 0))), (ma 14, .inl (G.2 3, 720, .inl (fun _ => 0))), (ma 15, .inl (G.2 1, 5000, .inl (fun _ => 0))), (ma 16, .inl (G.2 0, 5000, .inl (fun _ => 0))), (ma 17, .inl (G.2 1, 5000, .inl (fun _ => 0))), (ma 18, .inl (G.2 0, 500, .inl (fun _ => 0))), (ma 19, .inl (G.2 1, 500, .inl (fun _ => 0))), (ma 21, .inl (G.2 0, 4, .inl (fun _ => 0))), (ma 22, .inl (G.2 1, 2400, .inl (fun _ => 0))), (ma 23, .inl (G.2 1, 2400, .inl (fun _ => 0))), (ma 24, .inl (G.2 1, 2400, .inl (fun _ => 0))), (ma 25, .inl (G.2 0, 2400, .inl (fun _ => 0))), (ma 26, .inl (G.2 0, 2400, .inl (fun _ => 0))), (ma 27, .inl (G.2 1, 2400, .inl (fun _ => 0))), (ma 28, .inl (G.2 0, 2400, .inl (fun _ => 0))), (ma 29, .inl (G.2 4, 96, .inr (.inl (fun _ => 0)))), (ma 30, .inl (G.2 2, 720, .inl (fun _ => 0))), (ma 31, .inl (G.2 3, 720, .inl (fun _ => 0))), (ma 32, .inl (G.2 3, 720, .inl (fun _ => 0))), (ma 33, .inl (G.2 1, 5000, .inl (fun _ => 0))), (ma 34, .inl (G.2 0, 5000, .inl (fun _ => 0))), (ma 35, .inl (G.2 1, 5000, .inl (fun _ => 0))), (ma 36, .inl (G.2 0, 500, .inl (fun _ => 0))), (ma 37, .inl (G.2 1, 500, .inl (fun _ => 0))), (ma 39, .inl (G.2 0, 6, .inl (fun _ => 0)))] H := hP
  have hD : va_D A [(m0, .inr (9, [.int 0, .int 0, .int 0, .int (-1), .ref (ma 4), .ref (ma 5), .ref (ma 6), .ref (ma 7), .ref (ma 8), .ref (ma 9), .ref (ma 10), .ref (ma 11), .ref (ma 12), .ref (ma 13), .ref (ma 14), .ref (ma 15), .ref (ma 16), .ref (ma 17), .ref (ma 18), .ref (ma 19), .int 0, .ref (ma 21), .ref (ma 22), .ref (ma 23), .ref (ma 24), .ref (ma 25), .ref (ma 26), .ref (ma 27), .ref (ma 28), .ref (ma 29), .ref (ma 30), .ref (ma 31), .ref (ma 32), .ref (ma 33), .ref (ma 34), .ref (ma 35), .ref (ma 36), .ref (ma 37), .int 0, .ref (ma 39), .ref (ma 40), .ref (ma 41), .ref (ma 42), .ref (ma 43), .ref (ma 44), .ref (ma 45), .ref (ma 46), .ref (ma 47), .ref (ma 48), .int 0, .int 0, .int 0, .int 0, .int 0, .int 0, .int 0, .long 0, .int 0, .long 0, .long 0, .long 0, .long 0, .int 0, .int 0, .int 0, .int 0, .long 0])), (ma 4, .inl (G.2 1, 2400, .inl (fun _ => 0))), (ma 5, .inl (G.2 1, 2400, .inl (fun _ => 0))), (ma 6, .inl (G.2 1, 2400, .inl (fun _ => 0))), (ma 7, .inl (G.2 0, 2400, .inl (fun _ => 0))), (ma 8, .inl (G.2 0, 2400, .inl (fun _ => 0))), (ma 9, .inl (G.2 1, 2400, .inl (fun _ => 0))), (ma 10, .inl (G.2 0, 2400, .inl (fun _ => 0))), (ma 11, .inl (G.2 4, 96, .inr (.inl (fun _ => 0)))), (ma 12, .inl (G.2 2, 720, .inl (fun _ => 0))), (ma 13, .inl (G.2 3, 720, .inl (fun _ => 0))), (ma 14, .inl (G.2 3, 720, .inl (fun _ => 0))), (ma 15, .inl (G.2 1, 5000, .inl (fun _ => 0))), (ma 16, .inl (G.2 0, 5000, .inl (fun _ => 0))), (ma 17, .inl (G.2 1, 5000, .inl (fun _ => 0))), (ma 18, .inl (G.2 0, 500, .inl (fun _ => 0))), (ma 19, .inl (G.2 1, 500, .inl (fun _ => 0))), (ma 21, .inl (G.2 0, 4, .inl (fun _ => 0))), (ma 22, .inl (G.2 1, 2400, .inl (fun _ => 0))), (ma 23, .inl (G.2 1, 2400, .inl (fun _ => 0))), (ma 24, .inl (G.2 1, 2400, .inl (fun _ => 0))), (ma 25, .inl (G.2 0, 2400, .inl (fun _ => 0))), (ma 26, .inl (G.2 0, 2400, .inl (fun _ => 0))), (ma 27, .inl (G.2 1, 2400, .inl (fun _ => 0))), (ma 28, .inl (G.2 0, 2400, .inl (fun _ => 0))), (ma 29, .inl (G.2 4, 96, .inr (.inl (fun _ => 0)))), (ma 30, .inl (G.2 2, 720, .inl (fun _ => 0))), (ma 31, .inl (G.2 3, 720, .inl (fun _ => 0))), (ma 32, .inl (G.2 3, 720, .inl (fun _ => 0))), (ma 33, .inl (G.2 1, 5000, .inl (fun _ => 0))), (ma 34, .inl (G.2 0, 5000, .inl (fun _ => 0))), (ma 35, .inl (G.2 1, 5000, .inl (fun _ => 0))), (ma 36, .inl (G.2 0, 500, .inl (fun _ => 0))), (ma 37, .inl (G.2 1, 500, .inl (fun _ => 0))), (ma 39, .inl (G.2 0, 6, .inl (fun _ => 0)))] := hD
  obtain rfl : r_1 = 1 := hr_1
  refine lv_aload_n hx hb dL_law_1744 rfl (lv_at hl 1 rfl) ?_
  refine xVwi (rq := 0) (ci := 9) (wc := [(m0, .inr (9, [.int 0, .int 0, .int 0, .int (-1), .ref (ma 4), .ref (ma 5), .ref (ma 6), .ref (ma 7), .ref (ma 8), .ref (ma 9), .ref (ma 10), .ref (ma 11), .ref (ma 12), .ref (ma 13), .ref (ma 14), .ref (ma 15), .ref (ma 16), .ref (ma 17), .ref (ma 18), .ref (ma 19), .int 0, .ref (ma 21), .ref (ma 22), .ref (ma 23), .ref (ma 24), .ref (ma 25), .ref (ma 26), .ref (ma 27), .ref (ma 28), .ref (ma 29), .ref (ma 30), .ref (ma 31), .ref (ma 32), .ref (ma 33), .ref (ma 34), .ref (ma 35), .ref (ma 36), .ref (ma 37), .int 0, .ref (ma 39), .ref (ma 40), .ref (ma 41), .ref (ma 42), .ref (ma 43), .ref (ma 44), .ref (ma 45), .ref (ma 46), .ref (ma 47), .ref (ma 48), .int 0, .int 0, .int 0, .int 0, .int 0, .int 0, .int 0, .long 0, .int 0, .long 0, .long 0, .long 0, .long 0, .int 0, .int 0, .int 0, .int 0, .long 0])), (ma 4, .inl (G.2 1, 2400, .inl (fun _ => 0))), (ma 5, .inl (G.2 1, 2400, .inl (fun _ => 0))), (ma 6, .inl (G.2 1, 2400, .inl (fun _ => 0))), (ma 7, .inl (G.2 0, 2400, .inl (fun _ => 0))), (ma 8, .inl (G.2 0, 2400, .inl (fun _ => 0))), (ma 9, .inl (G.2 1, 2400, .inl (fun _ => 0))), (ma 10, .inl (G.2 0, 2400, .inl (fun _ => 0))), (ma 11, .inl (G.2 4, 96, .inr (.inl (fun _ => 0)))), (ma 12, .inl (G.2 2, 720, .inl (fun _ => 0))), (ma 13, .inl (G.2 3, 720, .inl (fun _ => 0))), (ma 14, .inl (G.2 3, 720, .inl (fun _ => 0))), (ma 15, .inl (G.2 1, 5000, .inl (fun _ => 0))), (ma 16, .inl (G.2 0, 5000, .inl (fun _ => 0))), (ma 17, .inl (G.2 1, 5000, .inl (fun _ => 0))), (ma 18, .inl (G.2 0, 500, .inl (fun _ => 0))), (ma 19, .inl (G.2 1, 500, .inl (fun _ => 0))), (ma 21, .inl (G.2 0, 4, .inl (fun _ => 0))), (ma 22, .inl (G.2 1, 2400, .inl (fun _ => 0))), (ma 23, .inl (G.2 1, 2400, .inl (fun _ => 0))), (ma 24, .inl (G.2 1, 2400, .inl (fun _ => 0))), (ma 25, .inl (G.2 0, 2400, .inl (fun _ => 0))), (ma 26, .inl (G.2 0, 2400, .inl (fun _ => 0))), (ma 27, .inl (G.2 1, 2400, .inl (fun _ => 0))), (ma 28, .inl (G.2 0, 2400, .inl (fun _ => 0))), (ma 29, .inl (G.2 4, 96, .inr (.inl (fun _ => 0)))), (ma 30, .inl (G.2 2, 720, .inl (fun _ => 0))), (ma 31, .inl (G.2 3, 720, .inl (fun _ => 0))), (ma 32, .inl (G.2 3, 720, .inl (fun _ => 0))), (ma 33, .inl (G.2 1, 5000, .inl (fun _ => 0))), (ma 34, .inl (G.2 0, 5000, .inl (fun _ => 0))), (ma 35, .inl (G.2 1, 5000, .inl (fun _ => 0))), (ma 36, .inl (G.2 0, 500, .inl (fun _ => 0))), (ma 37, .inl (G.2 1, 500, .inl (fun _ => 0))), (ma 39, .inl (G.2 0, 6, .inl (fun _ => 0)))]) (wr := []) (As := []) (rest := [.int 1]) C0 (c_X9_image l G m0 ma) ok_X9_image (mW1097 : Cond.methodLink RL 169 yX9_image ∈ wsT) ⟨Nat.le_of_ble_eq_true rfl, Nat.le_of_ble_eq_true rfl⟩ hP hD hS hA hK hN [0, 1, 2, 3, 4, 5, 6, 7, 8, 9, 10, 11, 12, 13, 14, 15, 16, 17, 18, 19, 20, 21, 22, 23, 24, 25, 26, 27, 28, 29, 30, 31, 32, 33, 34] [] rfl rfl (by decide) (by decide) (by decide) rfl rfl rfl rfl hl.1 rfl (Nat.le_of_ble_eq_true rfl) ⟨Nat.le_of_ble_eq_true rfl, Nat.le_of_ble_eq_true rfl⟩ dL_law_1745 (fun r_3 u_4 H locs hr_3 hP hD hS => ?_)
  have hP : va_P G.1 xcl [] H := hP
  have hD : va_D A [] := hD
  obtain rfl : r_3 = 1 := hr_3
  refine lv_icmp_eq (tgt := 1789) hx hb dL_law_1748 (by decide) (fun c_5 => ?_) (fun c_5 => absurd c_5 (by decide +kernel))
  exact law_tail C0 hr hlocks hX hbl hbA hA2 hS ls (lv_sub hl [0, 3] rfl)
theorem dL_law_1753 : decode cL_law 1753 = .ok (.aload_n 1, 1) := by decide +kernel
theorem dL_law_1754 : decode cL_law 1754 = .ok (.invokevirtual 170, 3) := by decide +kernel
theorem dL_law_1757 : decode cL_law 1757 = .ok (.aload_n 2, 1) := by decide +kernel
theorem dL_law_1758 : decode cL_law 1758 = .ok (.invokevirtual 173, 3) := by decide +kernel
theorem dL_law_1761 : decode cL_law 1761 = .ok (.if_icmp .eq 28, 3) := by decide +kernel
set_option maxHeartbeats 4000000 in
set_option maxRecDepth 100000 in
/-- case 34: back -/
theorem law_34 {q0 : Nat} {qb : Nat} {qk : Nat} {qg : Nat} {qr : Nat} {b : Nat → Nat} {pf : Nat → Option Nat} {kf : Nat → Int32} {b2 : Nat → Nat} {pf2 : Nat → Option Nat} {kf2 : Nat → Int32} {m0 : Nat} {ma : Nat → Nat} {p : Program} {l : Launch} {e : Env} {s : State} {m : MethodId} {below : List Frame} {meth : Method} {c : Code} {G : xG} {sc : Nat} {xs : Nat → Int32} {A : Nat → Prop} (C0 : CallFix p m c code 4 s #[Value.ref sc] wsT RL) (hr : meth.sig.returnType = ret) (hlocks : meth.locks = false) (hK : va_K G.1 xcl (xty G) s) (hN : xN s) (hX : va_X sc 7 xs s s.heap) (hbl : sc < s.heap.size) (hbA : ¬ A sc) (hA : ∀ q : Nat, s.heap.size ≤ q → A q) (hA2 : ∀ q, A q → s.heap.size ≤ q) (hpf : ∀ k, k < 8 → pf k = some (b (16 + k))) (hpf2 : ∀ k, k < 8 → pf2 k = some (b2 (16 + k))) {H : Heap} {locs : List Loc} {ls : Array Slot} (hP : va_P G.1 xcl [(q0, .inr (8, [.ref qb, .ref qk, .ref qg, .ref qr, .int 0, .int 0])), (qr, .inl (G.2 0, 6, .inl (fun _ => 0))), (m0, .inr (9, [.int 0, .int 0, .int 0, .int (-1), .ref (ma 4), .ref (ma 5), .ref (ma 6), .ref (ma 7), .ref (ma 8), .ref (ma 9), .ref (ma 10), .ref (ma 11), .ref (ma 12), .ref (ma 13), .ref (ma 14), .ref (ma 15), .ref (ma 16), .ref (ma 17), .ref (ma 18), .ref (ma 19), .int 0, .ref (ma 21), .ref (ma 22), .ref (ma 23), .ref (ma 24), .ref (ma 25), .ref (ma 26), .ref (ma 27), .ref (ma 28), .ref (ma 29), .ref (ma 30), .ref (ma 31), .ref (ma 32), .ref (ma 33), .ref (ma 34), .ref (ma 35), .ref (ma 36), .ref (ma 37), .int 0, .ref (ma 39), .ref (ma 40), .ref (ma 41), .ref (ma 42), .ref (ma 43), .ref (ma 44), .ref (ma 45), .ref (ma 46), .ref (ma 47), .ref (ma 48), .int 0, .int 0, .int 0, .int 0, .int 0, .int 0, .int 0, .long 0, .int 0, .long 0, .long 0, .long 0, .long 0, .int 0, .int 0, .int 0, .int 0, .long 0])), (ma 39, .inl (G.2 0, 6, .inl (fun _ => 0)))] H) (hD : va_D A [(q0, .inr (8, [.ref qb, .ref qk, .ref qg, .ref qr, .int 0, .int 0])), (qr, .inl (G.2 0, 6, .inl (fun _ => 0))), (m0, .inr (9, [.int 0, .int 0, .int 0, .int (-1), .ref (ma 4), .ref (ma 5), .ref (ma 6), .ref (ma 7), .ref (ma 8), .ref (ma 9), .ref (ma 10), .ref (ma 11), .ref (ma 12), .ref (ma 13), .ref (ma 14), .ref (ma 15), .ref (ma 16), .ref (ma 17), .ref (ma 18), .ref (ma 19), .int 0, .ref (ma 21), .ref (ma 22), .ref (ma 23), .ref (ma 24), .ref (ma 25), .ref (ma 26), .ref (ma 27), .ref (ma 28), .ref (ma 29), .ref (ma 30), .ref (ma 31), .ref (ma 32), .ref (ma 33), .ref (ma 34), .ref (ma 35), .ref (ma 36), .ref (ma 37), .int 0, .ref (ma 39), .ref (ma 40), .ref (ma 41), .ref (ma 42), .ref (ma 43), .ref (ma 44), .ref (ma 45), .ref (ma 46), .ref (ma 47), .ref (ma 48), .int 0, .int 0, .int 0, .int 0, .int 0, .int 0, .int 0, .long 0, .int 0, .long 0, .long 0, .long 0, .long 0, .int 0, .int 0, .int 0, .int 0, .long 0])), (ma 39, .inl (G.2 0, 6, .inl (fun _ => 0)))]) (hS : va_S A s.heap H locs) (hl : lv_has ls 4 [(3, .int 0), (2, .ref m0), (1, .ref q0), (0, .ref sc)]) : W p l e room_1 s m #[Value.ref sc] below meth c H locs 169 136076 (lw_Z below #[Value.ref sc] s) (F0 m 1753 ls []) := by
  obtain ⟨hx, hb, hml, hown, htl⟩ := id C0
  refine lv_aload_n hx hb dL_law_1753 rfl (lv_at hl 2 rfl) ?_
  refine xVwi (rq := 0) (ci := 8) (wc := [(q0, .inr (8, [.ref qb, .ref qk, .ref qg, .ref qr, .int 0, .int 0])), (qr, .inl (G.2 0, 6, .inl (fun _ => 0)))]) (wr := [(m0, .inr (9, [.int 0, .int 0, .int 0, .int (-1), .ref (ma 4), .ref (ma 5), .ref (ma 6), .ref (ma 7), .ref (ma 8), .ref (ma 9), .ref (ma 10), .ref (ma 11), .ref (ma 12), .ref (ma 13), .ref (ma 14), .ref (ma 15), .ref (ma 16), .ref (ma 17), .ref (ma 18), .ref (ma 19), .int 0, .ref (ma 21), .ref (ma 22), .ref (ma 23), .ref (ma 24), .ref (ma 25), .ref (ma 26), .ref (ma 27), .ref (ma 28), .ref (ma 29), .ref (ma 30), .ref (ma 31), .ref (ma 32), .ref (ma 33), .ref (ma 34), .ref (ma 35), .ref (ma 36), .ref (ma 37), .int 0, .ref (ma 39), .ref (ma 40), .ref (ma 41), .ref (ma 42), .ref (ma 43), .ref (ma 44), .ref (ma 45), .ref (ma 46), .ref (ma 47), .ref (ma 48), .int 0, .int 0, .int 0, .int 0, .int 0, .int 0, .int 0, .long 0, .int 0, .long 0, .long 0, .long 0, .long 0, .int 0, .int 0, .int 0, .int 0, .long 0])), (ma 39, .inl (G.2 0, 6, .inl (fun _ => 0)))]) (As := []) (rest := []) C0 (c_X8_back l G q0 qb qk qg qr b pf hpf) ok_X8_back (mW1102 : Cond.methodLink RL 170 yX8_back ∈ wsT) ⟨Nat.le_of_ble_eq_true rfl, Nat.le_of_ble_eq_true rfl⟩ hP hD hS hA hK hN [0, 1] [2, 3] rfl rfl (by decide) (by decide) (by decide) rfl rfl rfl rfl hl.1 rfl (Nat.le_of_ble_eq_true rfl) ⟨Nat.le_of_ble_eq_true rfl, Nat.le_of_ble_eq_true rfl⟩ dL_law_1754 (fun r_1 u_2 H locs hr_1 hP hD hS => ?_)
  have hP : va_P G.1 xcl [(m0, .inr (9, [.int 0, .int 0, .int 0, .int (-1), .ref (ma 4), .ref (ma 5), .ref (ma 6), .ref (ma 7), .ref (ma 8), .ref (ma 9), .ref (ma 10), .ref (ma 11), .ref (ma 12), .ref (ma 13), .ref (ma 14), .ref (ma 15), .ref (ma 16), .ref (ma 17), .ref (ma 18), .ref (ma 19), .int 0, .ref (ma 21), .ref (ma 22), .ref (ma 23), .ref (ma 24), .ref (ma 25), .ref (ma 26), .ref (ma 27), .ref (ma 28), .ref (ma 29), .ref (ma 30), .ref (ma 31), .ref (ma 32), .ref (ma 33), .ref (ma 34), .ref (ma 35), .ref (ma 36), .ref (ma 37), .int 0, .ref (ma 39), .ref (ma 40), .ref (ma 41), .ref (ma 42), .ref (ma 43), .ref (ma 44), .ref (ma 45), .ref (ma 46), .ref (ma 47), .ref (ma 48), .int 0, .int 0, .int 0, .int 0, .int 0, .int 0, .int 0, .long 0, .int 0, .long 0, .long 0, .long 0, .long 0, .int 0, .int 0, .int 0, .int 0, .long 0])), (ma 39, .inl (G.2 0, 6, .inl (fun _ => 0)))] H := hP
  have hD : va_D A [(m0, .inr (9, [.int 0, .int 0, .int 0, .int (-1), .ref (ma 4), .ref (ma 5), .ref (ma 6), .ref (ma 7), .ref (ma 8), .ref (ma 9), .ref (ma 10), .ref (ma 11), .ref (ma 12), .ref (ma 13), .ref (ma 14), .ref (ma 15), .ref (ma 16), .ref (ma 17), .ref (ma 18), .ref (ma 19), .int 0, .ref (ma 21), .ref (ma 22), .ref (ma 23), .ref (ma 24), .ref (ma 25), .ref (ma 26), .ref (ma 27), .ref (ma 28), .ref (ma 29), .ref (ma 30), .ref (ma 31), .ref (ma 32), .ref (ma 33), .ref (ma 34), .ref (ma 35), .ref (ma 36), .ref (ma 37), .int 0, .ref (ma 39), .ref (ma 40), .ref (ma 41), .ref (ma 42), .ref (ma 43), .ref (ma 44), .ref (ma 45), .ref (ma 46), .ref (ma 47), .ref (ma 48), .int 0, .int 0, .int 0, .int 0, .int 0, .int 0, .int 0, .long 0, .int 0, .long 0, .long 0, .long 0, .long 0, .int 0, .int 0, .int 0, .int 0, .long 0])), (ma 39, .inl (G.2 0, 6, .inl (fun _ => 0)))] := hD
  obtain rfl : r_1 = 0 := hr_1
  refine lv_aload_n hx hb dL_law_1757 rfl (lv_at hl 1 rfl) ?_
  refine xVwi (rq := 0) (ci := 9) (wc := [(m0, .inr (9, [.int 0, .int 0, .int 0, .int (-1), .ref (ma 4), .ref (ma 5), .ref (ma 6), .ref (ma 7), .ref (ma 8), .ref (ma 9), .ref (ma 10), .ref (ma 11), .ref (ma 12), .ref (ma 13), .ref (ma 14), .ref (ma 15), .ref (ma 16), .ref (ma 17), .ref (ma 18), .ref (ma 19), .int 0, .ref (ma 21), .ref (ma 22), .ref (ma 23), .ref (ma 24), .ref (ma 25), .ref (ma 26), .ref (ma 27), .ref (ma 28), .ref (ma 29), .ref (ma 30), .ref (ma 31), .ref (ma 32), .ref (ma 33), .ref (ma 34), .ref (ma 35), .ref (ma 36), .ref (ma 37), .int 0, .ref (ma 39), .ref (ma 40), .ref (ma 41), .ref (ma 42), .ref (ma 43), .ref (ma 44), .ref (ma 45), .ref (ma 46), .ref (ma 47), .ref (ma 48), .int 0, .int 0, .int 0, .int 0, .int 0, .int 0, .int 0, .long 0, .int 0, .long 0, .long 0, .long 0, .long 0, .int 0, .int 0, .int 0, .int 0, .long 0])), (ma 39, .inl (G.2 0, 6, .inl (fun _ => 0)))]) (wr := []) (As := []) (rest := [.int 0]) C0 (c_X9_back l G m0 ma) ok_X9_back (mW1106 : Cond.methodLink RL 173 yX9_back ∈ wsT) ⟨Nat.le_of_ble_eq_true rfl, Nat.le_of_ble_eq_true rfl⟩ hP hD hS hA hK hN [0, 1] [] rfl rfl (by decide) (by decide) (by decide) rfl rfl rfl rfl hl.1 rfl (Nat.le_of_ble_eq_true rfl) ⟨Nat.le_of_ble_eq_true rfl, Nat.le_of_ble_eq_true rfl⟩ dL_law_1758 (fun r_3 u_4 H locs hr_3 hP hD hS => ?_)
  have hP : va_P G.1 xcl [] H := hP
  have hD : va_D A [] := hD
  obtain rfl : r_3 = 0 := hr_3
  refine lv_icmp_eq (tgt := 1789) hx hb dL_law_1761 (by decide) (fun c_5 => ?_) (fun c_5 => absurd c_5 (by decide +kernel))
  exact law_tail C0 hr hlocks hX hbl hbA hA2 hS ls (lv_sub hl [0, 3] rfl)
theorem dL_law_1766 : decode cL_law 1766 = .ok (.aload_n 1, 1) := by decide +kernel
theorem dL_law_1767 : decode cL_law 1767 = .ok (.aload_n 0, 1) := by decide +kernel
theorem dL_law_1768 : decode cL_law 1768 = .ok (.iload_n 3, 1) := by decide +kernel
theorem dL_law_1769 : decode cL_law 1769 = .ok (.iconst 1, 1) := by decide +kernel
theorem dL_law_1770 : decode cL_law 1770 = .ok (.iadd, 1) := by decide +kernel
theorem dL_law_1771 : decode cL_law 1771 = .ok (.iaload, 1) := by decide +kernel
theorem dL_law_1772 : decode cL_law 1772 = .ok (.invokevirtual 174, 3) := by decide +kernel
theorem dL_law_1775 : decode cL_law 1775 = .ok (.aload_n 2, 1) := by decide +kernel
theorem dL_law_1776 : decode cL_law 1776 = .ok (.aload_n 0, 1) := by decide +kernel
theorem dL_law_1777 : decode cL_law 1777 = .ok (.iload_n 3, 1) := by decide +kernel
theorem dL_law_1778 : decode cL_law 1778 = .ok (.iconst 1, 1) := by decide +kernel
theorem dL_law_1779 : decode cL_law 1779 = .ok (.iadd, 1) := by decide +kernel
theorem dL_law_1780 : decode cL_law 1780 = .ok (.iaload, 1) := by decide +kernel
theorem dL_law_1781 : decode cL_law 1781 = .ok (.invokevirtual 178, 3) := by decide +kernel
theorem dL_law_1784 : decode cL_law 1784 = .ok (.if_icmp .eq 5, 3) := by decide +kernel
set_option maxHeartbeats 4000000 in
set_option maxRecDepth 100000 in
/-- case 35: status -/
theorem law_35 {q0 : Nat} {qb : Nat} {qk : Nat} {qg : Nat} {qr : Nat} {b : Nat → Nat} {pf : Nat → Option Nat} {kf : Nat → Int32} {b2 : Nat → Nat} {pf2 : Nat → Option Nat} {kf2 : Nat → Int32} {m0 : Nat} {ma : Nat → Nat} {p : Program} {l : Launch} {e : Env} {s : State} {m : MethodId} {below : List Frame} {meth : Method} {c : Code} {G : xG} {sc : Nat} {xs : Nat → Int32} {A : Nat → Prop} (C0 : CallFix p m c code 4 s #[Value.ref sc] wsT RL) (hr : meth.sig.returnType = ret) (hlocks : meth.locks = false) (hK : va_K G.1 xcl (xty G) s) (hN : xN s) (hX : va_X sc 7 xs s s.heap) (hbl : sc < s.heap.size) (hbA : ¬ A sc) (hA : ∀ q : Nat, s.heap.size ≤ q → A q) (hA2 : ∀ q, A q → s.heap.size ≤ q) (hpf : ∀ k, k < 8 → pf k = some (b (16 + k))) (hpf2 : ∀ k, k < 8 → pf2 k = some (b2 (16 + k))) {H : Heap} {locs : List Loc} {ls : Array Slot} (hP : va_P G.1 xcl [(q0, .inr (8, [.ref qb, .ref qk, .ref qg, .ref qr, .int 0, .int 0])), (qr, .inl (G.2 0, 6, .inl (fun _ => 0))), (qb, .inr (0, [.ref (b 0), .ref (b 1), .ref (b 2), .ref (b 3), .ref (b 4), .int 0])), (b 0, .inr (6, [.ref (b 5), .ref (b 6), .ref (b 7), .ref (b 8), .ref (b 9), .ref (b 10), .int 0])), (b 1, .inr (2, [.ref (b 11), .ref (b 12), .int 0])), (b 2, .inr (1, [.ref (b 13), .ref (b 14), .int 0, .int (-1)])), (m0, .inr (9, [.int 0, .int 0, .int 0, .int (-1), .ref (ma 4), .ref (ma 5), .ref (ma 6), .ref (ma 7), .ref (ma 8), .ref (ma 9), .ref (ma 10), .ref (ma 11), .ref (ma 12), .ref (ma 13), .ref (ma 14), .ref (ma 15), .ref (ma 16), .ref (ma 17), .ref (ma 18), .ref (ma 19), .int 0, .ref (ma 21), .ref (ma 22), .ref (ma 23), .ref (ma 24), .ref (ma 25), .ref (ma 26), .ref (ma 27), .ref (ma 28), .ref (ma 29), .ref (ma 30), .ref (ma 31), .ref (ma 32), .ref (ma 33), .ref (ma 34), .ref (ma 35), .ref (ma 36), .ref (ma 37), .int 0, .ref (ma 39), .ref (ma 40), .ref (ma 41), .ref (ma 42), .ref (ma 43), .ref (ma 44), .ref (ma 45), .ref (ma 46), .ref (ma 47), .ref (ma 48), .int 0, .int 0, .int 0, .int 0, .int 0, .int 0, .int 0, .long 0, .int 0, .long 0, .long 0, .long 0, .long 0, .int 0, .int 0, .int 0, .int 0, .long 0])), (ma 39, .inl (G.2 0, 6, .inl (fun _ => 0)))] H) (hD : va_D A [(q0, .inr (8, [.ref qb, .ref qk, .ref qg, .ref qr, .int 0, .int 0])), (qr, .inl (G.2 0, 6, .inl (fun _ => 0))), (qb, .inr (0, [.ref (b 0), .ref (b 1), .ref (b 2), .ref (b 3), .ref (b 4), .int 0])), (b 0, .inr (6, [.ref (b 5), .ref (b 6), .ref (b 7), .ref (b 8), .ref (b 9), .ref (b 10), .int 0])), (b 1, .inr (2, [.ref (b 11), .ref (b 12), .int 0])), (b 2, .inr (1, [.ref (b 13), .ref (b 14), .int 0, .int (-1)])), (m0, .inr (9, [.int 0, .int 0, .int 0, .int (-1), .ref (ma 4), .ref (ma 5), .ref (ma 6), .ref (ma 7), .ref (ma 8), .ref (ma 9), .ref (ma 10), .ref (ma 11), .ref (ma 12), .ref (ma 13), .ref (ma 14), .ref (ma 15), .ref (ma 16), .ref (ma 17), .ref (ma 18), .ref (ma 19), .int 0, .ref (ma 21), .ref (ma 22), .ref (ma 23), .ref (ma 24), .ref (ma 25), .ref (ma 26), .ref (ma 27), .ref (ma 28), .ref (ma 29), .ref (ma 30), .ref (ma 31), .ref (ma 32), .ref (ma 33), .ref (ma 34), .ref (ma 35), .ref (ma 36), .ref (ma 37), .int 0, .ref (ma 39), .ref (ma 40), .ref (ma 41), .ref (ma 42), .ref (ma 43), .ref (ma 44), .ref (ma 45), .ref (ma 46), .ref (ma 47), .ref (ma 48), .int 0, .int 0, .int 0, .int 0, .int 0, .int 0, .int 0, .long 0, .int 0, .long 0, .long 0, .long 0, .long 0, .int 0, .int 0, .int 0, .int 0, .long 0])), (ma 39, .inl (G.2 0, 6, .inl (fun _ => 0)))]) (hS : va_S A s.heap H locs) (hl : lv_has ls 4 [(3, .int 0), (2, .ref m0), (1, .ref q0), (0, .ref sc)]) : W p l e room_1 s m #[Value.ref sc] below meth c H locs 169 136076 (lw_Z below #[Value.ref sc] s) (F0 m 1766 ls []) := by
  obtain ⟨hx, hb, hml, hown, htl⟩ := id C0
  refine lv_aload_n hx hb dL_law_1766 rfl (lv_at hl 2 rfl) ?_
  refine lv_aload_n hx hb dL_law_1767 rfl (lv_at hl 3 rfl) ?_
  refine lv_iload_n hx hb dL_law_1768 rfl (lv_at hl 0 rfl) ?_
  refine lv_iconst (v := 1) hx hb dL_law_1769 (by decide) ?_
  refine lv_iadd hx hb dL_law_1770 ?_
  refine lv_topi (fun z_1 ez_1 => ?_)
  obtain rfl : z_1 = 1 := ez_1.trans (by first | rfl | decide +kernel)
  refine va_sld hx hb hX hbl hbA hS (by unfold vp_in; decide +kernel) dL_law_1771 ?_
  refine lv_topi (fun z_2 ez_2 => ?_)
  refine xVwi (rq := 0) (ci := 8) (wc := [(q0, .inr (8, [.ref qb, .ref qk, .ref qg, .ref qr, .int 0, .int 0])), (qr, .inl (G.2 0, 6, .inl (fun _ => 0))), (qb, .inr (0, [.ref (b 0), .ref (b 1), .ref (b 2), .ref (b 3), .ref (b 4), .int 0])), (b 0, .inr (6, [.ref (b 5), .ref (b 6), .ref (b 7), .ref (b 8), .ref (b 9), .ref (b 10), .int 0])), (b 1, .inr (2, [.ref (b 11), .ref (b 12), .int 0])), (b 2, .inr (1, [.ref (b 13), .ref (b 14), .int 0, .int (-1)]))]) (wr := [(m0, .inr (9, [.int 0, .int 0, .int 0, .int (-1), .ref (ma 4), .ref (ma 5), .ref (ma 6), .ref (ma 7), .ref (ma 8), .ref (ma 9), .ref (ma 10), .ref (ma 11), .ref (ma 12), .ref (ma 13), .ref (ma 14), .ref (ma 15), .ref (ma 16), .ref (ma 17), .ref (ma 18), .ref (ma 19), .int 0, .ref (ma 21), .ref (ma 22), .ref (ma 23), .ref (ma 24), .ref (ma 25), .ref (ma 26), .ref (ma 27), .ref (ma 28), .ref (ma 29), .ref (ma 30), .ref (ma 31), .ref (ma 32), .ref (ma 33), .ref (ma 34), .ref (ma 35), .ref (ma 36), .ref (ma 37), .int 0, .ref (ma 39), .ref (ma 40), .ref (ma 41), .ref (ma 42), .ref (ma 43), .ref (ma 44), .ref (ma 45), .ref (ma 46), .ref (ma 47), .ref (ma 48), .int 0, .int 0, .int 0, .int 0, .int 0, .int 0, .int 0, .long 0, .int 0, .long 0, .long 0, .long 0, .long 0, .int 0, .int 0, .int 0, .int 0, .long 0])), (ma 39, .inl (G.2 0, 6, .inl (fun _ => 0)))]) (As := [.int z_2]) (rest := []) C0 (c_X8_status l G q0 qb qk qg qr b pf z_2 hpf) ok_X8_status (mW1110 : Cond.methodLink RL 174 yX8_status ∈ wsT) ⟨Nat.le_of_ble_eq_true rfl, Nat.le_of_ble_eq_true rfl⟩ hP hD hS hA hK hN [0, 1, 2, 3, 4, 5] [6, 7] rfl rfl (by decide) (by decide) (by decide) rfl rfl rfl rfl hl.1 rfl (Nat.le_of_ble_eq_true rfl) ⟨Nat.le_of_ble_eq_true rfl, Nat.le_of_ble_eq_true rfl⟩ dL_law_1772 (fun r_3 u_4 H locs hr_3 hP hD hS => ?_)
  have hP : va_P G.1 xcl [(m0, .inr (9, [.int 0, .int 0, .int 0, .int (-1), .ref (ma 4), .ref (ma 5), .ref (ma 6), .ref (ma 7), .ref (ma 8), .ref (ma 9), .ref (ma 10), .ref (ma 11), .ref (ma 12), .ref (ma 13), .ref (ma 14), .ref (ma 15), .ref (ma 16), .ref (ma 17), .ref (ma 18), .ref (ma 19), .int 0, .ref (ma 21), .ref (ma 22), .ref (ma 23), .ref (ma 24), .ref (ma 25), .ref (ma 26), .ref (ma 27), .ref (ma 28), .ref (ma 29), .ref (ma 30), .ref (ma 31), .ref (ma 32), .ref (ma 33), .ref (ma 34), .ref (ma 35), .ref (ma 36), .ref (ma 37), .int 0, .ref (ma 39), .ref (ma 40), .ref (ma 41), .ref (ma 42), .ref (ma 43), .ref (ma 44), .ref (ma 45), .ref (ma 46), .ref (ma 47), .ref (ma 48), .int 0, .int 0, .int 0, .int 0, .int 0, .int 0, .int 0, .long 0, .int 0, .long 0, .long 0, .long 0, .long 0, .int 0, .int 0, .int 0, .int 0, .long 0])), (ma 39, .inl (G.2 0, 6, .inl (fun _ => 0)))] H := hP
  have hD : va_D A [(m0, .inr (9, [.int 0, .int 0, .int 0, .int (-1), .ref (ma 4), .ref (ma 5), .ref (ma 6), .ref (ma 7), .ref (ma 8), .ref (ma 9), .ref (ma 10), .ref (ma 11), .ref (ma 12), .ref (ma 13), .ref (ma 14), .ref (ma 15), .ref (ma 16), .ref (ma 17), .ref (ma 18), .ref (ma 19), .int 0, .ref (ma 21), .ref (ma 22), .ref (ma 23), .ref (ma 24), .ref (ma 25), .ref (ma 26), .ref (ma 27), .ref (ma 28), .ref (ma 29), .ref (ma 30), .ref (ma 31), .ref (ma 32), .ref (ma 33), .ref (ma 34), .ref (ma 35), .ref (ma 36), .ref (ma 37), .int 0, .ref (ma 39), .ref (ma 40), .ref (ma 41), .ref (ma 42), .ref (ma 43), .ref (ma 44), .ref (ma 45), .ref (ma 46), .ref (ma 47), .ref (ma 48), .int 0, .int 0, .int 0, .int 0, .int 0, .int 0, .int 0, .long 0, .int 0, .long 0, .long 0, .long 0, .long 0, .int 0, .int 0, .int 0, .int 0, .long 0])), (ma 39, .inl (G.2 0, 6, .inl (fun _ => 0)))] := hD
  refine lv_aload_n hx hb dL_law_1775 rfl (lv_at hl 1 rfl) ?_
  refine lv_aload_n hx hb dL_law_1776 rfl (lv_at hl 3 rfl) ?_
  refine lv_iload_n hx hb dL_law_1777 rfl (lv_at hl 0 rfl) ?_
  refine lv_iconst (v := 1) hx hb dL_law_1778 (by decide) ?_
  refine lv_iadd hx hb dL_law_1779 ?_
  refine lv_topi (fun z_5 ez_5 => ?_)
  obtain rfl : z_5 = 1 := ez_5.trans (by first | rfl | decide +kernel)
  refine va_sld hx hb hX hbl hbA hS (by unfold vp_in; decide +kernel) dL_law_1780 ?_
  rw [← ez_2]
  refine xVwi (rq := 0) (ci := 9) (wc := [(m0, .inr (9, [.int 0, .int 0, .int 0, .int (-1), .ref (ma 4), .ref (ma 5), .ref (ma 6), .ref (ma 7), .ref (ma 8), .ref (ma 9), .ref (ma 10), .ref (ma 11), .ref (ma 12), .ref (ma 13), .ref (ma 14), .ref (ma 15), .ref (ma 16), .ref (ma 17), .ref (ma 18), .ref (ma 19), .int 0, .ref (ma 21), .ref (ma 22), .ref (ma 23), .ref (ma 24), .ref (ma 25), .ref (ma 26), .ref (ma 27), .ref (ma 28), .ref (ma 29), .ref (ma 30), .ref (ma 31), .ref (ma 32), .ref (ma 33), .ref (ma 34), .ref (ma 35), .ref (ma 36), .ref (ma 37), .int 0, .ref (ma 39), .ref (ma 40), .ref (ma 41), .ref (ma 42), .ref (ma 43), .ref (ma 44), .ref (ma 45), .ref (ma 46), .ref (ma 47), .ref (ma 48), .int 0, .int 0, .int 0, .int 0, .int 0, .int 0, .int 0, .long 0, .int 0, .long 0, .long 0, .long 0, .long 0, .int 0, .int 0, .int 0, .int 0, .long 0])), (ma 39, .inl (G.2 0, 6, .inl (fun _ => 0)))]) (wr := []) (As := [.int z_2]) (rest := [.int r_3]) C0 (c_X9_status l G m0 ma z_2) ok_X9_status (mW1114 : Cond.methodLink RL 178 yX9_status ∈ wsT) ⟨Nat.le_of_ble_eq_true rfl, Nat.le_of_ble_eq_true rfl⟩ hP hD hS hA hK hN [0, 1] [] rfl rfl (by decide) (by decide) (by decide) rfl rfl rfl rfl hl.1 rfl (Nat.le_of_ble_eq_true rfl) ⟨Nat.le_of_ble_eq_true rfl, Nat.le_of_ble_eq_true rfl⟩ dL_law_1781 (fun r_6 u_7 H locs hr_6 hP hD hS => ?_)
  have hP : va_P G.1 xcl [] H := hP
  have hD : va_D A [] := hD
  refine lv_icmp_eq (tgt := 1789) hx hb dL_law_1784 (by decide) (fun c_8 => ?_) (fun c_8 => absurd (xeqst hr_3 hr_6) c_8)
  exact law_tail C0 hr hlocks hX hbl hbA hA2 hS ls (lv_sub hl [0, 3] rfl)
