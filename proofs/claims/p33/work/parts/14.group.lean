theorem dX3_walkAt_0 : decode cX3_walkAt 0 = .ok (.iload_n 1, 1) := by decide +kernel
theorem dX3_walkAt_1 : decode cX3_walkAt 1 = .ok (.ifCond .lt 21, 3) := by decide +kernel
theorem dX3_walkAt_4 : decode cX3_walkAt 4 = .ok (.iload_n 1, 1) := by decide +kernel
theorem dX3_walkAt_5 : decode cX3_walkAt 5 = .ok (.aload_n 0, 1) := by decide +kernel
theorem dX3_walkAt_6 : decode cX3_walkAt 6 = .ok (.getfield 11, 3) := by decide +kernel
theorem dX3_walkAt_9 : decode cX3_walkAt 9 = .ok (.arraylength, 1) := by decide +kernel
theorem dX3_walkAt_10 : decode cX3_walkAt 10 = .ok (.if_icmp .ge 12, 3) := by decide +kernel
theorem dX3_walkAt_13 : decode cX3_walkAt 13 = .ok (.aload_n 0, 1) := by decide +kernel
theorem dX3_walkAt_14 : decode cX3_walkAt 14 = .ok (.getfield 11, 3) := by decide +kernel
theorem dX3_walkAt_17 : decode cX3_walkAt 17 = .ok (.iload_n 1, 1) := by decide +kernel
theorem dX3_walkAt_18 : decode cX3_walkAt 18 = .ok (.aaload, 1) := by decide +kernel
theorem dX3_walkAt_19 : decode cX3_walkAt 19 = .ok (.goto 7, 3) := by decide +kernel
theorem dX3_walkAt_22 : decode cX3_walkAt 22 = .ok (.aload_n 0, 1) := by decide +kernel
theorem dX3_walkAt_23 : decode cX3_walkAt 23 = .ok (.getfield 30, 3) := by decide +kernel
theorem dX3_walkAt_26 : decode cX3_walkAt 26 = .ok (.areturn, 1) := by decide +kernel
set_option maxHeartbeats 4000000 in
set_option maxRecDepth 100000 in
theorem g_X3_walkAt (l : Launch) (G : xG) (S : yS) (d : yD) (g0 : Nat) (p0 : Int32) (hSh : ySh S) (hm_g0 : g0 ∈ S.1) (hk_g0 : S.2.1 g0 = 3) : xRr l G yX3_walkAt cX3_walkAt 2 (some (.object "LaytimeDesk$Walk")) 0 0 [.ref g0, .int p0] (yW G S d) (fun r => r ∈ S.1 ∧ S.2.1 r = 7) := by
  intro sz
  refine xstart (by decide) (Nat.le_of_ble_eq_true rfl) (fun p e s m args below meth c ls C0 hr hlocks hin hsz hP hK hD hN hl => ?_)
  obtain ⟨hx, hb, hml, hown, htl⟩ := id C0
  have hl : lv_has ls 2 [(0, .ref g0), (1, .int p0)] := hl
  refine lv_iload_n hx hb dX3_walkAt_0 rfl (lv_at hl 1 rfl) ?_
  refine lv_if_lt (tgt := 22) hx hb dX3_walkAt_1 (by decide) (fun c_1 => ?_) (fun c_1 => ?_)
  · refine lv_aload_n hx hb dX3_walkAt_22 rfl (lv_at hl 0 rfl) ?_
    refine yget (ci := 3) (k := 3) (v := .ref (S.2.2.1 g0 3)) (C := RX3) (T := TX3) (N := 16) C0 hK hP hm_g0 hk_g0 (by decide) rfl inlX3 (by decide) mW86 (fun _ h9 => h9) rfl dX3_walkAt_23 ?_
    obtain ⟨hmy_2, hky_2⟩ := ySh.f3_3 hSh _ hm_g0 hk_g0
    exact W.aret (v := .ref (S.2.2.1 g0 3)) hx hb hr (Or.inl ⟨_, rfl⟩) (Or.inr ⟨_, rfl⟩) (fun t ht hW => ⟨S.2.2.1 g0 3, rfl, ⟨hmy_2, hky_2⟩, ht⟩) (fun q hq => by cases hq) dX3_walkAt_26
  · refine lv_iload_n hx hb dX3_walkAt_4 rfl (lv_at hl 1 rfl) ?_
    refine lv_aload_n hx hb dX3_walkAt_5 rfl (lv_at hl 0 rfl) ?_
    refine yget (ci := 3) (k := 1) (v := .ref (S.2.2.1 g0 1)) (C := RX3) (T := TX3) (N := 16) C0 hK hP hm_g0 hk_g0 (by decide) rfl inlX3 (by decide) mW80 (fun _ h9 => h9) rfl dX3_walkAt_6 ?_
    obtain ⟨hmy_3, hky_3⟩ := ySh.f3_1 hSh _ hm_g0 hk_g0
    refine ylen (v := 8) C0 hK hP hmy_3 hky_3 (by decide) 6 rfl (by decide +kernel) dX3_walkAt_9 ?_
    refine lv_icmp_ge (tgt := 22) hx hb dX3_walkAt_10 (by decide) (fun c_4 => ?_) (fun c_4 => ?_)
    · refine lv_aload_n hx hb dX3_walkAt_22 rfl (lv_at hl 0 rfl) ?_
      refine yget (ci := 3) (k := 3) (v := .ref (S.2.2.1 g0 3)) (C := RX3) (T := TX3) (N := 16) C0 hK hP hm_g0 hk_g0 (by decide) rfl inlX3 (by decide) mW86 (fun _ h9 => h9) rfl dX3_walkAt_23 ?_
      obtain ⟨hmy_5, hky_5⟩ := ySh.f3_3 hSh _ hm_g0 hk_g0
      exact W.aret (v := .ref (S.2.2.1 g0 3)) hx hb hr (Or.inl ⟨_, rfl⟩) (Or.inr ⟨_, rfl⟩) (fun t ht hW => ⟨S.2.2.1 g0 3, rfl, ⟨hmy_5, hky_5⟩, ht⟩) (fun q hq => by cases hq) dX3_walkAt_26
    · refine lv_aload_n hx hb dX3_walkAt_13 rfl (lv_at hl 0 rfl) ?_
      refine yget (ci := 3) (k := 1) (v := .ref (S.2.2.1 g0 1)) (C := RX3) (T := TX3) (N := 16) C0 hK hP hm_g0 hk_g0 (by decide) rfl inlX3 (by decide) mW80 (fun _ h9 => h9) rfl dX3_walkAt_14 ?_
      refine lv_iload_n hx hb dX3_walkAt_17 rfl (lv_at hl 1 rfl) ?_
      obtain ⟨y_6, hqy_6, hmy_6, hky_6⟩ := ySh.q26 hSh _ hmy_3 hky_3 (p0 : Int32).toNatClampNeg (by have h := xin (n := 8) c_1 c_4 (by decide); exact Nat.not_le.mp fun q => h (Or.inr q))
      refine yaldQ (C := RX7) C0 hK hP hmy_3 hky_3 (by decide) rfl 6 rfl (xin (n := 8) c_1 c_4 (by decide)) hqy_6 dX3_walkAt_18 ?_
      refine lv_goto (tgt := 26) hx hb dX3_walkAt_19 (by decide) ?_
      exact W.aret (v := .ref y_6) hx hb hr (Or.inl ⟨_, rfl⟩) (Or.inr ⟨_, rfl⟩) (fun t ht hW => ⟨y_6, rfl, ⟨hmy_6, hky_6⟩, ht⟩) (fun q hq => by cases hq) dX3_walkAt_26
theorem dX3_stayAt_0 : decode cX3_stayAt 0 = .ok (.iload_n 1, 1) := by decide +kernel
theorem dX3_stayAt_1 : decode cX3_stayAt 1 = .ok (.ifCond .lt 21, 3) := by decide +kernel
theorem dX3_stayAt_4 : decode cX3_stayAt 4 = .ok (.iload_n 1, 1) := by decide +kernel
theorem dX3_stayAt_5 : decode cX3_stayAt 5 = .ok (.aload_n 0, 1) := by decide +kernel
theorem dX3_stayAt_6 : decode cX3_stayAt 6 = .ok (.getfield 19, 3) := by decide +kernel
theorem dX3_stayAt_9 : decode cX3_stayAt 9 = .ok (.arraylength, 1) := by decide +kernel
theorem dX3_stayAt_10 : decode cX3_stayAt 10 = .ok (.if_icmp .ge 12, 3) := by decide +kernel
theorem dX3_stayAt_13 : decode cX3_stayAt 13 = .ok (.aload_n 0, 1) := by decide +kernel
theorem dX3_stayAt_14 : decode cX3_stayAt 14 = .ok (.getfield 19, 3) := by decide +kernel
theorem dX3_stayAt_17 : decode cX3_stayAt 17 = .ok (.iload_n 1, 1) := by decide +kernel
theorem dX3_stayAt_18 : decode cX3_stayAt 18 = .ok (.aaload, 1) := by decide +kernel
theorem dX3_stayAt_19 : decode cX3_stayAt 19 = .ok (.goto 7, 3) := by decide +kernel
theorem dX3_stayAt_22 : decode cX3_stayAt 22 = .ok (.aload_n 0, 1) := by decide +kernel
theorem dX3_stayAt_23 : decode cX3_stayAt 23 = .ok (.getfield 35, 3) := by decide +kernel
theorem dX3_stayAt_26 : decode cX3_stayAt 26 = .ok (.areturn, 1) := by decide +kernel
set_option maxHeartbeats 4000000 in
set_option maxRecDepth 100000 in
theorem g_X3_stayAt (l : Launch) (G : xG) (S : yS) (d : yD) (g0 : Nat) (p0 : Int32) (hSh : ySh S) (hm_g0 : g0 ∈ S.1) (hk_g0 : S.2.1 g0 = 3) : xRr l G yX3_stayAt cX3_stayAt 2 (some (.object "LaytimeDesk$Stay")) 0 0 [.ref g0, .int p0] (yW G S d) (fun r => r ∈ S.1 ∧ S.2.1 r = 5) := by
  intro sz
  refine xstart (by decide) (Nat.le_of_ble_eq_true rfl) (fun p e s m args below meth c ls C0 hr hlocks hin hsz hP hK hD hN hl => ?_)
  obtain ⟨hx, hb, hml, hown, htl⟩ := id C0
  have hl : lv_has ls 2 [(0, .ref g0), (1, .int p0)] := hl
  refine lv_iload_n hx hb dX3_stayAt_0 rfl (lv_at hl 1 rfl) ?_
  refine lv_if_lt (tgt := 22) hx hb dX3_stayAt_1 (by decide) (fun c_1 => ?_) (fun c_1 => ?_)
  · refine lv_aload_n hx hb dX3_stayAt_22 rfl (lv_at hl 0 rfl) ?_
    refine yget (ci := 3) (k := 4) (v := .ref (S.2.2.1 g0 4)) (C := RX3) (T := TX3) (N := 16) C0 hK hP hm_g0 hk_g0 (by decide) rfl inlX3 (by decide) mW89 (fun _ h9 => h9) rfl dX3_stayAt_23 ?_
    obtain ⟨hmy_2, hky_2⟩ := ySh.f3_4 hSh _ hm_g0 hk_g0
    exact W.aret (v := .ref (S.2.2.1 g0 4)) hx hb hr (Or.inl ⟨_, rfl⟩) (Or.inr ⟨_, rfl⟩) (fun t ht hW => ⟨S.2.2.1 g0 4, rfl, ⟨hmy_2, hky_2⟩, ht⟩) (fun q hq => by cases hq) dX3_stayAt_26
  · refine lv_iload_n hx hb dX3_stayAt_4 rfl (lv_at hl 1 rfl) ?_
    refine lv_aload_n hx hb dX3_stayAt_5 rfl (lv_at hl 0 rfl) ?_
    refine yget (ci := 3) (k := 2) (v := .ref (S.2.2.1 g0 2)) (C := RX3) (T := TX3) (N := 16) C0 hK hP hm_g0 hk_g0 (by decide) rfl inlX3 (by decide) mW82 (fun _ h9 => h9) rfl dX3_stayAt_6 ?_
    obtain ⟨hmy_3, hky_3⟩ := ySh.f3_2 hSh _ hm_g0 hk_g0
    refine ylen (v := 8) C0 hK hP hmy_3 hky_3 (by decide) 7 rfl (by decide +kernel) dX3_stayAt_9 ?_
    refine lv_icmp_ge (tgt := 22) hx hb dX3_stayAt_10 (by decide) (fun c_4 => ?_) (fun c_4 => ?_)
    · refine lv_aload_n hx hb dX3_stayAt_22 rfl (lv_at hl 0 rfl) ?_
      refine yget (ci := 3) (k := 4) (v := .ref (S.2.2.1 g0 4)) (C := RX3) (T := TX3) (N := 16) C0 hK hP hm_g0 hk_g0 (by decide) rfl inlX3 (by decide) mW89 (fun _ h9 => h9) rfl dX3_stayAt_23 ?_
      obtain ⟨hmy_5, hky_5⟩ := ySh.f3_4 hSh _ hm_g0 hk_g0
      exact W.aret (v := .ref (S.2.2.1 g0 4)) hx hb hr (Or.inl ⟨_, rfl⟩) (Or.inr ⟨_, rfl⟩) (fun t ht hW => ⟨S.2.2.1 g0 4, rfl, ⟨hmy_5, hky_5⟩, ht⟩) (fun q hq => by cases hq) dX3_stayAt_26
    · refine lv_aload_n hx hb dX3_stayAt_13 rfl (lv_at hl 0 rfl) ?_
      refine yget (ci := 3) (k := 2) (v := .ref (S.2.2.1 g0 2)) (C := RX3) (T := TX3) (N := 16) C0 hK hP hm_g0 hk_g0 (by decide) rfl inlX3 (by decide) mW82 (fun _ h9 => h9) rfl dX3_stayAt_14 ?_
      refine lv_iload_n hx hb dX3_stayAt_17 rfl (lv_at hl 1 rfl) ?_
      obtain ⟨y_6, hqy_6, hmy_6, hky_6⟩ := ySh.q27 hSh _ hmy_3 hky_3 (p0 : Int32).toNatClampNeg (by have h := xin (n := 8) c_1 c_4 (by decide); exact Nat.not_le.mp fun q => h (Or.inr q))
      refine yaldQ (C := RX5) C0 hK hP hmy_3 hky_3 (by decide) rfl 7 rfl (xin (n := 8) c_1 c_4 (by decide)) hqy_6 dX3_stayAt_18 ?_
      refine lv_goto (tgt := 26) hx hb dX3_stayAt_19 (by decide) ?_
      exact W.aret (v := .ref y_6) hx hb hr (Or.inl ⟨_, rfl⟩) (Or.inr ⟨_, rfl⟩) (fun t ht hW => ⟨y_6, rfl, ⟨hmy_6, hky_6⟩, ht⟩) (fun q hq => by cases hq) dX3_stayAt_26
theorem dX3_isMember_0 : decode cX3_isMember 0 = .ok (.aload_n 0, 1) := by decide +kernel
theorem dX3_isMember_1 : decode cX3_isMember 1 = .ok (.getfield 39, 3) := by decide +kernel
theorem dX3_isMember_4 : decode cX3_isMember 4 = .ok (.iload_n 1, 1) := by decide +kernel
theorem dX3_isMember_5 : decode cX3_isMember 5 = .ok (.ishr, 1) := by decide +kernel
theorem dX3_isMember_6 : decode cX3_isMember 6 = .ok (.iconst 1, 1) := by decide +kernel
theorem dX3_isMember_7 : decode cX3_isMember 7 = .ok (.iand, 1) := by decide +kernel
theorem dX3_isMember_8 : decode cX3_isMember 8 = .ok (.iconst 1, 1) := by decide +kernel
theorem dX3_isMember_9 : decode cX3_isMember 9 = .ok (.if_icmp .ne 7, 3) := by decide +kernel
theorem dX3_isMember_12 : decode cX3_isMember 12 = .ok (.iconst 1, 1) := by decide +kernel
theorem dX3_isMember_13 : decode cX3_isMember 13 = .ok (.goto 4, 3) := by decide +kernel
theorem dX3_isMember_16 : decode cX3_isMember 16 = .ok (.iconst 0, 1) := by decide +kernel
theorem dX3_isMember_17 : decode cX3_isMember 17 = .ok (.ireturn, 1) := by decide +kernel
set_option maxHeartbeats 4000000 in
set_option maxRecDepth 100000 in
theorem g_X3_isMember (l : Launch) (G : xG) (S : yS) (d : yD) (g0 : Nat) (p0 : Int32) (hSh : ySh S) (hm_g0 : g0 ∈ S.1) (hk_g0 : S.2.1 g0 = 3) : xRi l G yX3_isMember cX3_isMember 2 (some .boolean) 0 0 [.ref g0, .int p0] (yW G S d) (fun r => r = 0 ∨ r = 1) := by
  intro sz
  refine xstart (by decide) (Nat.le_of_ble_eq_true rfl) (fun p e s m args below meth c ls C0 hr hlocks hin hsz hP hK hD hN hl => ?_)
  obtain ⟨hx, hb, hml, hown, htl⟩ := id C0
  have hl : lv_has ls 2 [(0, .ref g0), (1, .int p0)] := hl
  refine lv_aload_n hx hb dX3_isMember_0 rfl (lv_at hl 0 rfl) ?_
  refine yget (ci := 3) (k := 5) (v := .int (d.1 g0 5)) (C := RX3) (T := TX3) (N := 16) C0 hK hP hm_g0 hk_g0 (by decide) rfl inlX3 (by decide) mW703 (fun _ h9 => h9) rfl dX3_isMember_1 ?_
  refine lv_topi (fun z_1 ez_1 => ?_)
  refine lv_iload_n hx hb dX3_isMember_4 rfl (lv_at hl 1 rfl) ?_
  refine lv_ishr hx hb dX3_isMember_5 ?_
  refine lv_topi (fun z_2 ez_2 => ?_)
  refine lv_iconst (v := 1) hx hb dX3_isMember_6 (by decide) ?_
  refine lv_iand hx hb dX3_isMember_7 ?_
  refine lv_topi (fun z_3 ez_3 => ?_)
  refine lv_iconst (v := 1) hx hb dX3_isMember_8 (by decide) ?_
  refine lv_icmp_ne (tgt := 16) hx hb dX3_isMember_9 (by decide) (fun c_4 => ?_) (fun c_4 => ?_)
  · refine lv_iconst (v := 0) hx hb dX3_isMember_16 (by decide) ?_
    exact W.zret (v := 0) (ty := .boolean) hx hb hr rfl (fun t ht hW => ⟨0, rfl, Or.inl rfl, ht⟩) (fun q hq => by cases hq) dX3_isMember_17
  · refine lv_iconst (v := 1) hx hb dX3_isMember_12 (by decide) ?_
    refine lv_goto (tgt := 17) hx hb dX3_isMember_13 (by decide) ?_
    exact W.zret (v := 1) (ty := .boolean) hx hb hr rfl (fun t ht hW => ⟨1, rfl, Or.inr rfl, ht⟩) (fun q hq => by cases hq) dX3_isMember_17
theorem dX3_isRunning_0 : decode cX3_isRunning 0 = .ok (.aload_n 0, 1) := by decide +kernel
theorem dX3_isRunning_1 : decode cX3_isRunning 1 = .ok (.getfield 43, 3) := by decide +kernel
theorem dX3_isRunning_4 : decode cX3_isRunning 4 = .ok (.iload_n 1, 1) := by decide +kernel
theorem dX3_isRunning_5 : decode cX3_isRunning 5 = .ok (.ishr, 1) := by decide +kernel
theorem dX3_isRunning_6 : decode cX3_isRunning 6 = .ok (.iconst 1, 1) := by decide +kernel
theorem dX3_isRunning_7 : decode cX3_isRunning 7 = .ok (.iand, 1) := by decide +kernel
theorem dX3_isRunning_8 : decode cX3_isRunning 8 = .ok (.iconst 1, 1) := by decide +kernel
theorem dX3_isRunning_9 : decode cX3_isRunning 9 = .ok (.if_icmp .ne 7, 3) := by decide +kernel
theorem dX3_isRunning_12 : decode cX3_isRunning 12 = .ok (.iconst 1, 1) := by decide +kernel
theorem dX3_isRunning_13 : decode cX3_isRunning 13 = .ok (.goto 4, 3) := by decide +kernel
theorem dX3_isRunning_16 : decode cX3_isRunning 16 = .ok (.iconst 0, 1) := by decide +kernel
theorem dX3_isRunning_17 : decode cX3_isRunning 17 = .ok (.ireturn, 1) := by decide +kernel
set_option maxHeartbeats 4000000 in
set_option maxRecDepth 100000 in
theorem g_X3_isRunning (l : Launch) (G : xG) (S : yS) (d : yD) (g0 : Nat) (p0 : Int32) (hSh : ySh S) (hm_g0 : g0 ∈ S.1) (hk_g0 : S.2.1 g0 = 3) : xRi l G yX3_isRunning cX3_isRunning 2 (some .boolean) 0 0 [.ref g0, .int p0] (yW G S d) (fun r => r = 0 ∨ r = 1) := by
  intro sz
  refine xstart (by decide) (Nat.le_of_ble_eq_true rfl) (fun p e s m args below meth c ls C0 hr hlocks hin hsz hP hK hD hN hl => ?_)
  obtain ⟨hx, hb, hml, hown, htl⟩ := id C0
  have hl : lv_has ls 2 [(0, .ref g0), (1, .int p0)] := hl
  refine lv_aload_n hx hb dX3_isRunning_0 rfl (lv_at hl 0 rfl) ?_
  refine yget (ci := 3) (k := 15) (v := .int (d.1 g0 15)) (C := RX3) (T := TX3) (N := 16) C0 hK hP hm_g0 hk_g0 (by decide) rfl inlX3 (by decide) mW726 (fun _ h9 => h9) rfl dX3_isRunning_1 ?_
  refine lv_topi (fun z_1 ez_1 => ?_)
  refine lv_iload_n hx hb dX3_isRunning_4 rfl (lv_at hl 1 rfl) ?_
  refine lv_ishr hx hb dX3_isRunning_5 ?_
  refine lv_topi (fun z_2 ez_2 => ?_)
  refine lv_iconst (v := 1) hx hb dX3_isRunning_6 (by decide) ?_
  refine lv_iand hx hb dX3_isRunning_7 ?_
  refine lv_topi (fun z_3 ez_3 => ?_)
  refine lv_iconst (v := 1) hx hb dX3_isRunning_8 (by decide) ?_
  refine lv_icmp_ne (tgt := 16) hx hb dX3_isRunning_9 (by decide) (fun c_4 => ?_) (fun c_4 => ?_)
  · refine lv_iconst (v := 0) hx hb dX3_isRunning_16 (by decide) ?_
    exact W.zret (v := 0) (ty := .boolean) hx hb hr rfl (fun t ht hW => ⟨0, rfl, Or.inl rfl, ht⟩) (fun q hq => by cases hq) dX3_isRunning_17
  · refine lv_iconst (v := 1) hx hb dX3_isRunning_12 (by decide) ?_
    refine lv_goto (tgt := 17) hx hb dX3_isRunning_13 (by decide) ?_
    exact W.zret (v := 1) (ty := .boolean) hx hb hr rfl (fun t ht hW => ⟨1, rfl, Or.inr rfl, ht⟩) (fun q hq => by cases hq) dX3_isRunning_17
theorem dX3_hasMinuteAt_0 : decode cX3_hasMinuteAt 0 = .ok (.aload_n 0, 1) := by decide +kernel
theorem dX3_hasMinuteAt_1 : decode cX3_hasMinuteAt 1 = .ok (.iload_n 1, 1) := by decide +kernel
theorem dX3_hasMinuteAt_2 : decode cX3_hasMinuteAt 2 = .ok (.invokevirtual 158, 3) := by decide +kernel
theorem dX3_hasMinuteAt_5 : decode cX3_hasMinuteAt 5 = .ok (.ifCond .eq 31, 3) := by decide +kernel
theorem dX3_hasMinuteAt_8 : decode cX3_hasMinuteAt 8 = .ok (.aload_n 0, 1) := by decide +kernel
theorem dX3_hasMinuteAt_9 : decode cX3_hasMinuteAt 9 = .ok (.getfield 23, 3) := by decide +kernel
theorem dX3_hasMinuteAt_12 : decode cX3_hasMinuteAt 12 = .ok (.iload_n 1, 1) := by decide +kernel
theorem dX3_hasMinuteAt_13 : decode cX3_hasMinuteAt 13 = .ok (.invokevirtual 141, 3) := by decide +kernel
theorem dX3_hasMinuteAt_16 : decode cX3_hasMinuteAt 16 = .ok (.getfield 147, 3) := by decide +kernel
theorem dX3_hasMinuteAt_19 : decode cX3_hasMinuteAt 19 = .ok (.aload_n 0, 1) := by decide +kernel
theorem dX3_hasMinuteAt_20 : decode cX3_hasMinuteAt 20 = .ok (.iload_n 1, 1) := by decide +kernel
theorem dX3_hasMinuteAt_21 : decode cX3_hasMinuteAt 21 = .ok (.invokevirtual 129, 3) := by decide +kernel
theorem dX3_hasMinuteAt_24 : decode cX3_hasMinuteAt 24 = .ok (.getfield 168, 3) := by decide +kernel
theorem dX3_hasMinuteAt_27 : decode cX3_hasMinuteAt 27 = .ok (.iadd, 1) := by decide +kernel
theorem dX3_hasMinuteAt_28 : decode cX3_hasMinuteAt 28 = .ok (.iload_n 2, 1) := by decide +kernel
theorem dX3_hasMinuteAt_29 : decode cX3_hasMinuteAt 29 = .ok (.if_icmp .gt 7, 3) := by decide +kernel
theorem dX3_hasMinuteAt_32 : decode cX3_hasMinuteAt 32 = .ok (.iconst 1, 1) := by decide +kernel
theorem dX3_hasMinuteAt_33 : decode cX3_hasMinuteAt 33 = .ok (.goto 4, 3) := by decide +kernel
theorem dX3_hasMinuteAt_36 : decode cX3_hasMinuteAt 36 = .ok (.iconst 0, 1) := by decide +kernel
theorem dX3_hasMinuteAt_37 : decode cX3_hasMinuteAt 37 = .ok (.ireturn, 1) := by decide +kernel
set_option maxHeartbeats 4000000 in
set_option maxRecDepth 100000 in
theorem g_X3_hasMinuteAt (l : Launch) (G : xG) (S : yS) (d : yD) (g0 : Nat) (p0 : Int32) (p1 : Int32) (hSh : ySh S) (hm_g0 : g0 ∈ S.1) (hk_g0 : S.2.1 g0 = 3) : xRi l G yX3_hasMinuteAt cX3_hasMinuteAt 3 (some .boolean) 1 21 [.ref g0, .int p0, .int p1] (yW G S d) (fun r => r = 0 ∨ r = 1) := by
  intro sz
  refine xstart (by decide) (Nat.le_of_ble_eq_true rfl) (fun p e s m args below meth c ls C0 hr hlocks hin hsz hP hK hD hN hl => ?_)
  obtain ⟨hx, hb, hml, hown, htl⟩ := id C0
  have hl : lv_has ls 3 [(0, .ref g0), (1, .int p0), (2, .int p1)] := hl
  refine lv_aload_n hx hb dX3_hasMinuteAt_0 rfl (lv_at hl 0 rfl) ?_
  refine lv_iload_n hx hb dX3_hasMinuteAt_1 rfl (lv_at hl 1 rfl) ?_
  refine yVri (As := [.int p0]) (rest := []) C0 (g_X3_isRunning l G S d g0 p0 hSh hm_g0 hk_g0) ok_X3_isRunning (mW821 : Cond.methodLink RX3 158 yX3_isRunning ∈ wsT) ⟨Nat.le_of_ble_eq_true rfl, Nat.le_of_ble_eq_true rfl⟩ hP hD hK hN hm_g0 hk_g0 (by decide) rfl rfl rfl hl.1 rfl (Nat.le_of_ble_eq_true rfl) ⟨Nat.le_of_ble_eq_true rfl, Nat.le_of_ble_eq_true rfl⟩ dX3_hasMinuteAt_2 (fun r_1 hr_1 => ?_)
  refine lv_if_eq (tgt := 36) hx hb dX3_hasMinuteAt_5 (by decide) (fun c_2 => ?_) (fun c_2 => ?_)
  · refine lv_iconst (v := 0) hx hb dX3_hasMinuteAt_36 (by decide) ?_
    exact W.zret (v := 0) (ty := .boolean) hx hb hr rfl (fun t ht hW => ⟨0, rfl, Or.inl rfl, ht⟩) (fun q hq => by cases hq) dX3_hasMinuteAt_37
  · refine lv_aload_n hx hb dX3_hasMinuteAt_8 rfl (lv_at hl 0 rfl) ?_
    refine yget (ci := 3) (k := 0) (v := .ref (S.2.2.1 g0 0)) (C := RX3) (T := TX3) (N := 16) C0 hK hP hm_g0 hk_g0 (by decide) rfl inlX3 (by decide) mW83 (fun _ h9 => h9) rfl dX3_hasMinuteAt_9 ?_
    obtain ⟨hmy_3, hky_3⟩ := ySh.f3_0 hSh _ hm_g0 hk_g0
    refine lv_iload_n hx hb dX3_hasMinuteAt_12 rfl (lv_at hl 1 rfl) ?_
    refine yVrr (As := [.int p0]) (rest := []) C0 (g_X0_portAt l G S d (S.2.2.1 g0 0) p0 hSh hmy_3 hky_3) ok_X0_portAt (mW808 : Cond.methodLink RX3 141 yX0_portAt ∈ wsT) ⟨Nat.le_of_ble_eq_true rfl, Nat.le_of_ble_eq_true rfl⟩ hP hD hK hN hmy_3 hky_3 (by decide) rfl rfl rfl hl.1 rfl (Nat.le_of_ble_eq_true rfl) ⟨Nat.le_of_ble_eq_true rfl, Nat.le_of_ble_eq_true rfl⟩ dX3_hasMinuteAt_13 (fun r_4 hr_4 => ?_)
    obtain ⟨hmr_4, hkr_4, her_4⟩ := hr_4
    refine yget (ci := 4) (k := 7) (v := .int (d.1 r_4 7)) (C := RX4) (T := TX4) (N := 11) C0 hK hP hmr_4 hkr_4 (by decide) rfl inlX4 (by decide) mW733 (fun _ h9 => h9) rfl dX3_hasMinuteAt_16 ?_
    refine lv_topi (fun z_5 ez_5 => ?_)
    refine lv_aload_n hx hb dX3_hasMinuteAt_19 rfl (lv_at hl 0 rfl) ?_
    refine lv_iload_n hx hb dX3_hasMinuteAt_20 rfl (lv_at hl 1 rfl) ?_
    refine yVrr (As := [.int p0]) (rest := [.int z_5]) C0 (g_X3_walkAt l G S d g0 p0 hSh hm_g0 hk_g0) ok_X3_walkAt (mW735 : Cond.methodLink RX3 129 yX3_walkAt ∈ wsT) ⟨Nat.le_of_ble_eq_true rfl, Nat.le_of_ble_eq_true rfl⟩ hP hD hK hN hm_g0 hk_g0 (by decide) rfl rfl rfl hl.1 rfl (Nat.le_of_ble_eq_true rfl) ⟨Nat.le_of_ble_eq_true rfl, Nat.le_of_ble_eq_true rfl⟩ dX3_hasMinuteAt_21 (fun r_6 hr_6 => ?_)
    obtain ⟨hmr_6, hkr_6⟩ := hr_6
    refine yget (ci := 7) (k := 8) (v := .int (d.1 r_6 8)) (C := RX7) (T := TX7) (N := 18) C0 hK hP hmr_6 hkr_6 (by decide) rfl inlX7 (by decide) mW820 (fun _ h9 => h9) rfl dX3_hasMinuteAt_24 ?_
    refine lv_topi (fun z_7 ez_7 => ?_)
    refine lv_iadd hx hb dX3_hasMinuteAt_27 ?_
    refine lv_topi (fun z_8 ez_8 => ?_)
    refine lv_iload_n hx hb dX3_hasMinuteAt_28 rfl (lv_at hl 2 rfl) ?_
    refine lv_icmp_gt (tgt := 36) hx hb dX3_hasMinuteAt_29 (by decide) (fun c_9 => ?_) (fun c_9 => ?_)
    · refine lv_iconst (v := 0) hx hb dX3_hasMinuteAt_36 (by decide) ?_
      exact W.zret (v := 0) (ty := .boolean) hx hb hr rfl (fun t ht hW => ⟨0, rfl, Or.inl rfl, ht⟩) (fun q hq => by cases hq) dX3_hasMinuteAt_37
    · refine lv_iconst (v := 1) hx hb dX3_hasMinuteAt_32 (by decide) ?_
      refine lv_goto (tgt := 37) hx hb dX3_hasMinuteAt_33 (by decide) ?_
      exact W.zret (v := 1) (ty := .boolean) hx hb hr rfl (fun t ht hW => ⟨1, rfl, Or.inr rfl, ht⟩) (fun q hq => by cases hq) dX3_hasMinuteAt_37
theorem dX3_nextChange_0 : decode cX3_nextChange 0 = .ok (.ldc 96, 2) := by decide +kernel
theorem dX3_nextChange_2 : decode cX3_nextChange 2 = .ok (.istore_n 2, 1) := by decide +kernel
theorem dX3_nextChange_3 : decode cX3_nextChange 3 = .ok (.iconst 0, 1) := by decide +kernel
theorem dX3_nextChange_4 : decode cX3_nextChange 4 = .ok (.istore_n 3, 1) := by decide +kernel
theorem dX3_nextChange_5 : decode cX3_nextChange 5 = .ok (.iload_n 3, 1) := by decide +kernel
theorem dX3_nextChange_6 : decode cX3_nextChange 6 = .ok (.bipush 8, 2) := by decide +kernel
theorem dX3_nextChange_8 : decode cX3_nextChange 8 = .ok (.if_icmp .ge 70, 3) := by decide +kernel
theorem dX3_nextChange_11 : decode cX3_nextChange 11 = .ok (.aload_n 0, 1) := by decide +kernel
theorem dX3_nextChange_12 : decode cX3_nextChange 12 = .ok (.iload_n 3, 1) := by decide +kernel
theorem dX3_nextChange_13 : decode cX3_nextChange 13 = .ok (.invokevirtual 158, 3) := by decide +kernel
theorem dX3_nextChange_16 : decode cX3_nextChange 16 = .ok (.ifCond .eq 56, 3) := by decide +kernel
theorem dX3_nextChange_19 : decode cX3_nextChange 19 = .ok (.aload_n 0, 1) := by decide +kernel
theorem dX3_nextChange_20 : decode cX3_nextChange 20 = .ok (.getfield 23, 3) := by decide +kernel
theorem dX3_nextChange_23 : decode cX3_nextChange 23 = .ok (.iload_n 3, 1) := by decide +kernel
theorem dX3_nextChange_24 : decode cX3_nextChange 24 = .ok (.invokevirtual 141, 3) := by decide +kernel
theorem dX3_nextChange_27 : decode cX3_nextChange 27 = .ok (.getfield 147, 3) := by decide +kernel
theorem dX3_nextChange_30 : decode cX3_nextChange 30 = .ok (.istore 4, 2) := by decide +kernel
theorem dX3_nextChange_32 : decode cX3_nextChange 32 = .ok (.aload_n 0, 1) := by decide +kernel
theorem dX3_nextChange_33 : decode cX3_nextChange 33 = .ok (.iload_n 3, 1) := by decide +kernel
theorem dX3_nextChange_34 : decode cX3_nextChange 34 = .ok (.iload_n 1, 1) := by decide +kernel
theorem dX3_nextChange_35 : decode cX3_nextChange 35 = .ok (.invokevirtual 164, 3) := by decide +kernel
theorem dX3_nextChange_38 : decode cX3_nextChange 38 = .ok (.ifCond .eq 14, 3) := by decide +kernel
theorem dX3_nextChange_41 : decode cX3_nextChange 41 = .ok (.aload_n 0, 1) := by decide +kernel
theorem dX3_nextChange_42 : decode cX3_nextChange 42 = .ok (.iload_n 3, 1) := by decide +kernel
theorem dX3_nextChange_43 : decode cX3_nextChange 43 = .ok (.invokevirtual 129, 3) := by decide +kernel
theorem dX3_nextChange_46 : decode cX3_nextChange 46 = .ok (.getfield 161, 3) := by decide +kernel
theorem dX3_nextChange_49 : decode cX3_nextChange 49 = .ok (.goto 11, 3) := by decide +kernel
theorem dX3_nextChange_52 : decode cX3_nextChange 52 = .ok (.aload_n 0, 1) := by decide +kernel
theorem dX3_nextChange_53 : decode cX3_nextChange 53 = .ok (.iload_n 3, 1) := by decide +kernel
theorem dX3_nextChange_54 : decode cX3_nextChange 54 = .ok (.invokevirtual 129, 3) := by decide +kernel
theorem dX3_nextChange_57 : decode cX3_nextChange 57 = .ok (.getfield 168, 3) := by decide +kernel
theorem dX3_nextChange_60 : decode cX3_nextChange 60 = .ok (.istore 5, 2) := by decide +kernel
theorem dX3_nextChange_62 : decode cX3_nextChange 62 = .ok (.iload_n 2, 1) := by decide +kernel
theorem dX3_nextChange_63 : decode cX3_nextChange 63 = .ok (.iload 4, 2) := by decide +kernel
theorem dX3_nextChange_65 : decode cX3_nextChange 65 = .ok (.iload 5, 2) := by decide +kernel
theorem dX3_nextChange_67 : decode cX3_nextChange 67 = .ok (.iadd, 1) := by decide +kernel
theorem dX3_nextChange_68 : decode cX3_nextChange 68 = .ok (.invokestatic 152, 3) := by decide +kernel
theorem dX3_nextChange_71 : decode cX3_nextChange 71 = .ok (.istore_n 2, 1) := by decide +kernel
theorem dX3_nextChange_72 : decode cX3_nextChange 72 = .ok (.iinc 3 1, 3) := by decide +kernel
theorem dX3_nextChange_75 : decode cX3_nextChange 75 = .ok (.goto (-70), 3) := by decide +kernel
theorem dX3_nextChange_78 : decode cX3_nextChange 78 = .ok (.iload_n 2, 1) := by decide +kernel
theorem dX3_nextChange_79 : decode cX3_nextChange 79 = .ok (.ireturn, 1) := by decide +kernel
set_option maxHeartbeats 4000000 in
set_option maxRecDepth 100000 in
theorem g_X3_nextChange (l : Launch) (G : xG) (S : yS) (d : yD) (g0 : Nat) (p0 : Int32) (hSh : ySh S) (hm_g0 : g0 ∈ S.1) (hk_g0 : S.2.1 g0 = 3) : xRi l G yX3_nextChange cX3_nextChange 6 (some .int) 2 43 [.ref g0, .int p0] (yW G S d) (fun r => True) := by
  intro sz
  refine xstart (by decide) (Nat.le_of_ble_eq_true rfl) (fun p e s m args below meth c ls C0 hr hlocks hin hsz hP hK hD hN hl => ?_)
  obtain ⟨hx, hb, hml, hown, htl⟩ := id C0
  have hl : lv_has ls 6 [(0, .ref g0), (1, .int p0)] := hl
  refine lv_ldc (v := 2000000000) hx hb hown (htl (.constant RX3 96 (2000000000)) mW724) dX3_nextChange_0 ?_
  refine lv_istore_n (lv' := [(2, .int 2000000000), (0, .ref g0), (1, .int p0)]) hx hb dX3_nextChange_2 rfl hl (by decide) rfl (fun ls hl => ?_)
  refine lv_iconst (v := 0) hx hb dX3_nextChange_3 (by decide) ?_
  refine lv_istore_n (lv' := [(3, .int 0), (2, .int 2000000000), (0, .ref g0), (1, .int p0)]) hx hb dX3_nextChange_4 rfl hl (by decide) rfl (fun ls hl => ?_)
  refine yloopR (σ := Int32 × Int32) (fun x => (2147483647 - (x.2 : Int32).toInt).toNat) 5 (fun x ls => lv_has ls 6 [(3, .int x.2), (2, .int x.1), (0, .ref g0), (1, .int p0)]) (fun x ls hl hnext_3 => ?_) (2000000000, 0) (lv_sub hl [0, 1, 2, 3] rfl)
  obtain ⟨v_1, v_2⟩ := x
  have hl : lv_has ls 6 [(3, .int v_2), (2, .int v_1), (0, .ref g0), (1, .int p0)] := hl
  refine lv_iload_n hx hb dX3_nextChange_5 rfl (lv_at hl 0 rfl) ?_
  refine lv_bipush (v := 8) hx hb dX3_nextChange_6 (by decide) ?_
  refine lv_icmp_ge (tgt := 78) hx hb dX3_nextChange_8 (by decide) (fun c_5 => ?_) (fun c_5 => ?_)
  · refine lv_iload_n hx hb dX3_nextChange_78 rfl (lv_at hl 1 rfl) ?_
    exact W.iret (v := v_1) hx hb hr (fun t ht hW => ⟨v_1, rfl, trivial, ht⟩) (fun q hq => by cases hq) dX3_nextChange_79
  · refine lv_aload_n hx hb dX3_nextChange_11 rfl (lv_at hl 2 rfl) ?_
    refine lv_iload_n hx hb dX3_nextChange_12 rfl (lv_at hl 0 rfl) ?_
    refine yVri (As := [.int v_2]) (rest := []) C0 (g_X3_isRunning l G S d g0 v_2 hSh hm_g0 hk_g0) ok_X3_isRunning (mW821 : Cond.methodLink RX3 158 yX3_isRunning ∈ wsT) ⟨Nat.le_of_ble_eq_true rfl, Nat.le_of_ble_eq_true rfl⟩ hP hD hK hN hm_g0 hk_g0 (by decide) rfl rfl rfl hl.1 rfl (Nat.le_of_ble_eq_true rfl) ⟨Nat.le_of_ble_eq_true rfl, Nat.le_of_ble_eq_true rfl⟩ dX3_nextChange_13 (fun r_6 hr_6 => ?_)
    refine lv_if_eq (tgt := 72) hx hb dX3_nextChange_16 (by decide) (fun c_7 => ?_) (fun c_7 => ?_)
    · refine lv_iinc (v := v_2 + 1) (lv' := [(3, .int (v_2 + 1)), (2, .int v_1), (0, .ref g0), (1, .int p0)]) hx hb dX3_nextChange_72 hl (k := 0) rfl rfl (by decide) rfl (fun ls hl => ?_)
      refine lv_goto (tgt := 5) hx hb dX3_nextChange_75 (by decide) ?_
      exact hnext_3 (v_1, v_2 + 1) ls (xup c_5) (lv_sub hl [0, 1, 2, 3] rfl)
    · refine lv_aload_n hx hb dX3_nextChange_19 rfl (lv_at hl 2 rfl) ?_
      refine yget (ci := 3) (k := 0) (v := .ref (S.2.2.1 g0 0)) (C := RX3) (T := TX3) (N := 16) C0 hK hP hm_g0 hk_g0 (by decide) rfl inlX3 (by decide) mW83 (fun _ h9 => h9) rfl dX3_nextChange_20 ?_
      obtain ⟨hmy_9, hky_9⟩ := ySh.f3_0 hSh _ hm_g0 hk_g0
      refine lv_iload_n hx hb dX3_nextChange_23 rfl (lv_at hl 0 rfl) ?_
      refine yVrr (As := [.int v_2]) (rest := []) C0 (g_X0_portAt l G S d (S.2.2.1 g0 0) v_2 hSh hmy_9 hky_9) ok_X0_portAt (mW808 : Cond.methodLink RX3 141 yX0_portAt ∈ wsT) ⟨Nat.le_of_ble_eq_true rfl, Nat.le_of_ble_eq_true rfl⟩ hP hD hK hN hmy_9 hky_9 (by decide) rfl rfl rfl hl.1 rfl (Nat.le_of_ble_eq_true rfl) ⟨Nat.le_of_ble_eq_true rfl, Nat.le_of_ble_eq_true rfl⟩ dX3_nextChange_24 (fun r_10 hr_10 => ?_)
      obtain ⟨hmr_10, hkr_10, her_10⟩ := hr_10
      refine yget (ci := 4) (k := 7) (v := .int (d.1 r_10 7)) (C := RX4) (T := TX4) (N := 11) C0 hK hP hmr_10 hkr_10 (by decide) rfl inlX4 (by decide) mW733 (fun _ h9 => h9) rfl dX3_nextChange_27 ?_
      refine lv_topi (fun z_11 ez_11 => ?_)
      refine lv_istore (lv' := [(4, .int z_11), (3, .int v_2), (2, .int v_1), (0, .ref g0), (1, .int p0)]) hx hb dX3_nextChange_30 hl (by decide) rfl (fun ls hl => ?_)
      refine lv_aload_n hx hb dX3_nextChange_32 rfl (lv_at hl 3 rfl) ?_
      refine lv_iload_n hx hb dX3_nextChange_33 rfl (lv_at hl 1 rfl) ?_
      refine lv_iload_n hx hb dX3_nextChange_34 rfl (lv_at hl 4 rfl) ?_
      refine yVri (As := [.int v_2, .int p0]) (rest := []) C0 (g_X3_hasMinuteAt l G S d g0 v_2 p0 hSh hm_g0 hk_g0) ok_X3_hasMinuteAt (mW825 : Cond.methodLink RX3 164 yX3_hasMinuteAt ∈ wsT) ⟨Nat.le_of_ble_eq_true rfl, Nat.le_of_ble_eq_true rfl⟩ hP hD hK hN hm_g0 hk_g0 (by decide) rfl rfl rfl hl.1 rfl (Nat.le_of_ble_eq_true rfl) ⟨Nat.le_of_ble_eq_true rfl, Nat.le_of_ble_eq_true rfl⟩ dX3_nextChange_35 (fun r_12 hr_12 => ?_)
      refine yjoinR (σ := Int32) 60 (fun x ls st => st = [.int x] ∧ lv_has ls 6 [(4, .int z_11), (3, .int v_2), (2, .int v_1), (0, .ref g0), (1, .int p0)]) (fun x ls st hI => ?_) (fun J60_13 => ?_)
      · obtain ⟨v_13, rfl⟩ : ∃ z, z = x := ⟨_, rfl⟩
        obtain ⟨rfl, hl⟩ := hI
        have hl : lv_has ls 6 [(4, .int z_11), (3, .int v_2), (2, .int v_1), (0, .ref g0), (1, .int p0)] := hl
        refine lv_istore (lv' := [(5, .int v_13), (4, .int z_11), (3, .int v_2), (2, .int v_1), (0, .ref g0), (1, .int p0)]) hx hb dX3_nextChange_60 hl (by decide) rfl (fun ls hl => ?_)
        refine lv_iload_n hx hb dX3_nextChange_62 rfl (lv_at hl 3 rfl) ?_
        refine lv_iload hx hb dX3_nextChange_63 (lv_at hl 1 rfl) ?_
        refine lv_iload hx hb dX3_nextChange_65 (lv_at hl 0 rfl) ?_
        refine lv_iadd hx hb dX3_nextChange_67 ?_
        refine lv_topi (fun z_14 ez_14 => ?_)
        refine va_mmin hx hb (by rw [hml]; exact hl.1.symm) hown (htl (.methodLink RX3 152 Lib.Math.min.name) mW734) (htl (.static Lib.Math.min.name) mW203) (htl (.initialized "java/lang/Math") mW204) (htl (.code Lib.Math.min.name Lib.Math.min.code 2 (some .int)) mW205) (Nat.le_of_ble_eq_true rfl) (Nat.le_of_ble_eq_true rfl) (Nat.le_of_ble_eq_true rfl) (Nat.le_of_ble_eq_true rfl) dX3_nextChange_68 ?_
        refine lv_topi (fun z_15 ez_15 => ?_)
        refine lv_istore_n (lv' := [(2, .int z_15), (5, .int v_13), (4, .int z_11), (3, .int v_2), (0, .ref g0), (1, .int p0)]) hx hb dX3_nextChange_71 rfl hl (by decide) rfl (fun ls hl => ?_)
        refine lv_iinc (v := v_2 + 1) (lv' := [(3, .int (v_2 + 1)), (2, .int z_15), (5, .int v_13), (4, .int z_11), (0, .ref g0), (1, .int p0)]) hx hb dX3_nextChange_72 hl (k := 3) rfl rfl (by decide) rfl (fun ls hl => ?_)
        refine lv_goto (tgt := 5) hx hb dX3_nextChange_75 (by decide) ?_
        exact hnext_3 (z_15, v_2 + 1) ls (xup c_5) (lv_sub hl [0, 1, 4, 5] rfl)
      refine lv_if_eq (tgt := 52) hx hb dX3_nextChange_38 (by decide) (fun c_17 => ?_) (fun c_17 => ?_)
      · refine lv_aload_n hx hb dX3_nextChange_52 rfl (lv_at hl 3 rfl) ?_
        refine lv_iload_n hx hb dX3_nextChange_53 rfl (lv_at hl 1 rfl) ?_
        refine yVrr (As := [.int v_2]) (rest := []) C0 (g_X3_walkAt l G S d g0 v_2 hSh hm_g0 hk_g0) ok_X3_walkAt (mW735 : Cond.methodLink RX3 129 yX3_walkAt ∈ wsT) ⟨Nat.le_of_ble_eq_true rfl, Nat.le_of_ble_eq_true rfl⟩ hP hD hK hN hm_g0 hk_g0 (by decide) rfl rfl rfl hl.1 rfl (Nat.le_of_ble_eq_true rfl) ⟨Nat.le_of_ble_eq_true rfl, Nat.le_of_ble_eq_true rfl⟩ dX3_nextChange_54 (fun r_18 hr_18 => ?_)
        obtain ⟨hmr_18, hkr_18⟩ := hr_18
        refine yget (ci := 7) (k := 8) (v := .int (d.1 r_18 8)) (C := RX7) (T := TX7) (N := 18) C0 hK hP hmr_18 hkr_18 (by decide) rfl inlX7 (by decide) mW820 (fun _ h9 => h9) rfl dX3_nextChange_57 ?_
        refine lv_topi (fun z_19 ez_19 => ?_)
        exact J60_13 z_19 ls _ ⟨rfl, lv_sub hl [0, 1, 2, 3, 4] rfl⟩
      · refine lv_aload_n hx hb dX3_nextChange_41 rfl (lv_at hl 3 rfl) ?_
        refine lv_iload_n hx hb dX3_nextChange_42 rfl (lv_at hl 1 rfl) ?_
        refine yVrr (As := [.int v_2]) (rest := []) C0 (g_X3_walkAt l G S d g0 v_2 hSh hm_g0 hk_g0) ok_X3_walkAt (mW735 : Cond.methodLink RX3 129 yX3_walkAt ∈ wsT) ⟨Nat.le_of_ble_eq_true rfl, Nat.le_of_ble_eq_true rfl⟩ hP hD hK hN hm_g0 hk_g0 (by decide) rfl rfl rfl hl.1 rfl (Nat.le_of_ble_eq_true rfl) ⟨Nat.le_of_ble_eq_true rfl, Nat.le_of_ble_eq_true rfl⟩ dX3_nextChange_43 (fun r_20 hr_20 => ?_)
        obtain ⟨hmr_20, hkr_20⟩ := hr_20
        refine yget (ci := 7) (k := 9) (v := .int (d.1 r_20 9)) (C := RX7) (T := TX7) (N := 18) C0 hK hP hmr_20 hkr_20 (by decide) rfl inlX7 (by decide) mW819 (fun _ h9 => h9) rfl dX3_nextChange_46 ?_
        refine lv_topi (fun z_21 ez_21 => ?_)
        refine lv_goto (tgt := 60) hx hb dX3_nextChange_49 (by decide) ?_
        exact J60_13 z_21 ls _ ⟨rfl, lv_sub hl [0, 1, 2, 3, 4] rfl⟩
theorem dX3_halvesAt_0 : decode cX3_halvesAt 0 = .ok (.lconst 0, 1) := by decide +kernel
theorem dX3_halvesAt_1 : decode cX3_halvesAt 1 = .ok (.lstore_n 2, 1) := by decide +kernel
theorem dX3_halvesAt_2 : decode cX3_halvesAt 2 = .ok (.iconst 0, 1) := by decide +kernel
theorem dX3_halvesAt_3 : decode cX3_halvesAt 3 = .ok (.istore 4, 2) := by decide +kernel
theorem dX3_halvesAt_5 : decode cX3_halvesAt 5 = .ok (.iload 4, 2) := by decide +kernel
theorem dX3_halvesAt_7 : decode cX3_halvesAt 7 = .ok (.bipush 8, 2) := by decide +kernel
theorem dX3_halvesAt_9 : decode cX3_halvesAt 9 = .ok (.if_icmp .ge 36, 3) := by decide +kernel
theorem dX3_halvesAt_12 : decode cX3_halvesAt 12 = .ok (.lload_n 2, 1) := by decide +kernel
theorem dX3_halvesAt_13 : decode cX3_halvesAt 13 = .ok (.aload_n 0, 1) := by decide +kernel
theorem dX3_halvesAt_14 : decode cX3_halvesAt 14 = .ok (.iload 4, 2) := by decide +kernel
theorem dX3_halvesAt_16 : decode cX3_halvesAt 16 = .ok (.iload_n 1, 1) := by decide +kernel
theorem dX3_halvesAt_17 : decode cX3_halvesAt 17 = .ok (.invokevirtual 164, 3) := by decide +kernel
theorem dX3_halvesAt_20 : decode cX3_halvesAt 20 = .ok (.ifCond .eq 16, 3) := by decide +kernel
theorem dX3_halvesAt_23 : decode cX3_halvesAt 23 = .ok (.aload_n 0, 1) := by decide +kernel
theorem dX3_halvesAt_24 : decode cX3_halvesAt 24 = .ok (.iload 4, 2) := by decide +kernel
theorem dX3_halvesAt_26 : decode cX3_halvesAt 26 = .ok (.invokevirtual 129, 3) := by decide +kernel
theorem dX3_halvesAt_29 : decode cX3_halvesAt 29 = .ok (.getfield 171, 3) := by decide +kernel
theorem dX3_halvesAt_32 : decode cX3_halvesAt 32 = .ok (.i2l, 1) := by decide +kernel
theorem dX3_halvesAt_33 : decode cX3_halvesAt 33 = .ok (.goto 4, 3) := by decide +kernel
theorem dX3_halvesAt_36 : decode cX3_halvesAt 36 = .ok (.lconst 0, 1) := by decide +kernel
theorem dX3_halvesAt_37 : decode cX3_halvesAt 37 = .ok (.ladd, 1) := by decide +kernel
theorem dX3_halvesAt_38 : decode cX3_halvesAt 38 = .ok (.lstore_n 2, 1) := by decide +kernel
theorem dX3_halvesAt_39 : decode cX3_halvesAt 39 = .ok (.iinc 4 1, 3) := by decide +kernel
theorem dX3_halvesAt_42 : decode cX3_halvesAt 42 = .ok (.goto (-37), 3) := by decide +kernel
theorem dX3_halvesAt_45 : decode cX3_halvesAt 45 = .ok (.lload_n 2, 1) := by decide +kernel
theorem dX3_halvesAt_46 : decode cX3_halvesAt 46 = .ok (.lreturn, 1) := by decide +kernel
set_option maxHeartbeats 4000000 in
set_option maxRecDepth 100000 in
theorem g_X3_halvesAt (l : Launch) (G : xG) (S : yS) (d : yD) (g0 : Nat) (p0 : Int32) (hSh : ySh S) (hPo : yPo S d) (hm_g0 : g0 ∈ S.1) (hk_g0 : S.2.1 g0 = 3) : yRl l G yX3_halvesAt cX3_halvesAt 5 (some .long) 2 43 [.ref g0, .int p0] (yW G S d) (fun r => True) := by
  intro sz
  refine xstart (by decide) (Nat.le_of_ble_eq_true rfl) (fun p e s m args below meth c ls C0 hr hlocks hin hsz hP hK hD hN hl => ?_)
  obtain ⟨hx, hb, hml, hown, htl⟩ := id C0
  have hl : lv_has ls 5 [(0, .ref g0), (1, .int p0)] := hl
  refine lv_lconst (v := 0) hx hb dX3_halvesAt_0 (by decide) ?_
  refine lv_lstore_n (lv' := [(2, .long 0), (0, .ref g0), (1, .int p0)]) hx hb dX3_halvesAt_1 rfl hl (by decide) rfl (fun ls hl => ?_)
  refine lv_iconst (v := 0) hx hb dX3_halvesAt_2 (by decide) ?_
  refine lv_istore (lv' := [(4, .int 0), (2, .long 0), (0, .ref g0), (1, .int p0)]) hx hb dX3_halvesAt_3 hl (by decide) rfl (fun ls hl => ?_)
  refine yloopR (σ := Int64 × Int32) (fun x => (2147483647 - (x.2 : Int32).toInt).toNat) 5 (fun x ls => lv_has ls 5 [(4, .int x.2), (2, .long x.1), (0, .ref g0), (1, .int p0)]) (fun x ls hl hnext_3 => ?_) (0, 0) (lv_sub hl [0, 1, 2, 3] rfl)
  obtain ⟨v_1, v_2⟩ := x
  have hl : lv_has ls 5 [(4, .int v_2), (2, .long v_1), (0, .ref g0), (1, .int p0)] := hl
  refine lv_iload hx hb dX3_halvesAt_5 (lv_at hl 0 rfl) ?_
  refine lv_bipush (v := 8) hx hb dX3_halvesAt_7 (by decide) ?_
  refine lv_icmp_ge (tgt := 45) hx hb dX3_halvesAt_9 (by decide) (fun c_5 => ?_) (fun c_5 => ?_)
  · refine lv_lload_n hx hb dX3_halvesAt_45 rfl (lv_at hl 1 rfl) ?_
    exact W.lret (v := v_1) hx hb hr (fun t ht hW => ⟨v_1, rfl, trivial, ht⟩) (fun q hq => by cases hq) dX3_halvesAt_46
  · refine lv_lload_n hx hb dX3_halvesAt_12 rfl (lv_at hl 1 rfl) ?_
    refine lv_aload_n hx hb dX3_halvesAt_13 rfl (lv_at hl 2 rfl) ?_
    refine lv_iload hx hb dX3_halvesAt_14 (lv_at hl 0 rfl) ?_
    refine lv_iload_n hx hb dX3_halvesAt_16 rfl (lv_at hl 3 rfl) ?_
    refine yVri (As := [.int v_2, .int p0]) (rest := [.long v_1]) C0 (g_X3_hasMinuteAt l G S d g0 v_2 p0 hSh hm_g0 hk_g0) ok_X3_hasMinuteAt (mW825 : Cond.methodLink RX3 164 yX3_hasMinuteAt ∈ wsT) ⟨Nat.le_of_ble_eq_true rfl, Nat.le_of_ble_eq_true rfl⟩ hP hD hK hN hm_g0 hk_g0 (by decide) rfl rfl rfl hl.1 rfl (Nat.le_of_ble_eq_true rfl) ⟨Nat.le_of_ble_eq_true rfl, Nat.le_of_ble_eq_true rfl⟩ dX3_halvesAt_17 (fun r_6 hr_6 => ?_)
    refine lv_if_eq (tgt := 36) hx hb dX3_halvesAt_20 (by decide) (fun c_7 => ?_) (fun c_7 => ?_)
    · refine lv_lconst (v := 0) hx hb dX3_halvesAt_36 (by decide) ?_
      refine lv_ladd hx hb dX3_halvesAt_37 ?_
      refine lv_topl (fun z_8 ez_8 => ?_)
      refine lv_lstore_n (lv' := [(2, .long z_8), (4, .int v_2), (0, .ref g0), (1, .int p0)]) hx hb dX3_halvesAt_38 rfl hl (by decide) rfl (fun ls hl => ?_)
      refine lv_iinc (v := v_2 + 1) (lv' := [(4, .int (v_2 + 1)), (2, .long z_8), (0, .ref g0), (1, .int p0)]) hx hb dX3_halvesAt_39 hl (k := 1) rfl rfl (by decide) rfl (fun ls hl => ?_)
      refine lv_goto (tgt := 5) hx hb dX3_halvesAt_42 (by decide) ?_
      exact hnext_3 (z_8, v_2 + 1) ls (xup c_5) (lv_sub hl [0, 1, 2, 3] rfl)
    · refine lv_aload_n hx hb dX3_halvesAt_23 rfl (lv_at hl 2 rfl) ?_
      refine lv_iload hx hb dX3_halvesAt_24 (lv_at hl 0 rfl) ?_
      refine yVrr (As := [.int v_2]) (rest := [.long v_1]) C0 (g_X3_walkAt l G S d g0 v_2 hSh hm_g0 hk_g0) ok_X3_walkAt (mW735 : Cond.methodLink RX3 129 yX3_walkAt ∈ wsT) ⟨Nat.le_of_ble_eq_true rfl, Nat.le_of_ble_eq_true rfl⟩ hP hD hK hN hm_g0 hk_g0 (by decide) rfl rfl rfl hl.1 rfl (Nat.le_of_ble_eq_true rfl) ⟨Nat.le_of_ble_eq_true rfl, Nat.le_of_ble_eq_true rfl⟩ dX3_halvesAt_26 (fun r_10 hr_10 => ?_)
      obtain ⟨hmr_10, hkr_10⟩ := hr_10
      refine yget (ci := 7) (k := 16) (v := .int (d.1 r_10 16)) (C := RX7) (T := TX7) (N := 18) C0 hK hP hmr_10 hkr_10 (by decide) rfl inlX7 (by decide) mW833 (fun _ h9 => h9) rfl dX3_halvesAt_29 ?_
      refine lv_topi (fun z_11 ez_11 => ?_)
      refine lv_i2l hx hb dX3_halvesAt_32 rfl ?_
      refine lv_topl (fun z_12 ez_12 => ?_)
      refine lv_goto (tgt := 37) hx hb dX3_halvesAt_33 (by decide) ?_
      refine lv_ladd hx hb dX3_halvesAt_37 ?_
      refine lv_topl (fun z_13 ez_13 => ?_)
      refine lv_lstore_n (lv' := [(2, .long z_13), (4, .int v_2), (0, .ref g0), (1, .int p0)]) hx hb dX3_halvesAt_38 rfl hl (by decide) rfl (fun ls hl => ?_)
      refine lv_iinc (v := v_2 + 1) (lv' := [(4, .int (v_2 + 1)), (2, .long z_13), (0, .ref g0), (1, .int p0)]) hx hb dX3_halvesAt_39 hl (k := 1) rfl rfl (by decide) rfl (fun ls hl => ?_)
      refine lv_goto (tgt := 5) hx hb dX3_halvesAt_42 (by decide) ?_
      exact hnext_3 (z_13, v_2 + 1) ls (xup c_5) (lv_sub hl [0, 1, 2, 3] rfl)
theorem dX3_overFrom_0 : decode cX3_overFrom 0 = .ok (.aload_n 0, 1) := by decide +kernel
theorem dX3_overFrom_1 : decode cX3_overFrom 1 = .ok (.getfield 86, 3) := by decide +kernel
theorem dX3_overFrom_4 : decode cX3_overFrom 4 = .ok (.ifCond .ne 6, 3) := by decide +kernel
theorem dX3_overFrom_7 : decode cX3_overFrom 7 = .ok (.ldc 96, 2) := by decide +kernel
theorem dX3_overFrom_9 : decode cX3_overFrom 9 = .ok (.ireturn, 1) := by decide +kernel
theorem dX3_overFrom_10 : decode cX3_overFrom 10 = .ok (.aload_n 0, 1) := by decide +kernel
theorem dX3_overFrom_11 : decode cX3_overFrom 11 = .ok (.getfield 117, 3) := by decide +kernel
theorem dX3_overFrom_14 : decode cX3_overFrom 14 = .ok (.aload_n 0, 1) := by decide +kernel
theorem dX3_overFrom_15 : decode cX3_overFrom 15 = .ok (.getfield 23, 3) := by decide +kernel
theorem dX3_overFrom_18 : decode cX3_overFrom 18 = .ok (.iload_n 1, 1) := by decide +kernel
theorem dX3_overFrom_19 : decode cX3_overFrom 19 = .ok (.invokevirtual 141, 3) := by decide +kernel
theorem dX3_overFrom_22 : decode cX3_overFrom 22 = .ok (.getfield 147, 3) := by decide +kernel
theorem dX3_overFrom_25 : decode cX3_overFrom 25 = .ok (.isub, 1) := by decide +kernel
theorem dX3_overFrom_26 : decode cX3_overFrom 26 = .ok (.iload_n 1, 1) := by decide +kernel
theorem dX3_overFrom_27 : decode cX3_overFrom 27 = .ok (.aload_n 0, 1) := by decide +kernel
theorem dX3_overFrom_28 : decode cX3_overFrom 28 = .ok (.getfield 120, 3) := by decide +kernel
theorem dX3_overFrom_31 : decode cX3_overFrom 31 = .ok (.if_icmp .le 7, 3) := by decide +kernel
theorem dX3_overFrom_34 : decode cX3_overFrom 34 = .ok (.iconst 0, 1) := by decide +kernel
theorem dX3_overFrom_35 : decode cX3_overFrom 35 = .ok (.goto 4, 3) := by decide +kernel
theorem dX3_overFrom_38 : decode cX3_overFrom 38 = .ok (.iconst 1, 1) := by decide +kernel
theorem dX3_overFrom_39 : decode cX3_overFrom 39 = .ok (.iadd, 1) := by decide +kernel
theorem dX3_overFrom_40 : decode cX3_overFrom 40 = .ok (.ireturn, 1) := by decide +kernel
set_option maxHeartbeats 4000000 in
set_option maxRecDepth 100000 in
theorem g_X3_overFrom (l : Launch) (G : xG) (S : yS) (d : yD) (g0 : Nat) (p0 : Int32) (hSh : ySh S) (hm_g0 : g0 ∈ S.1) (hk_g0 : S.2.1 g0 = 3) : xRi l G yX3_overFrom cX3_overFrom 2 (some .int) 1 21 [.ref g0, .int p0] (yW G S d) (fun r => True) := by
  intro sz
  refine xstart (by decide) (Nat.le_of_ble_eq_true rfl) (fun p e s m args below meth c ls C0 hr hlocks hin hsz hP hK hD hN hl => ?_)
  obtain ⟨hx, hb, hml, hown, htl⟩ := id C0
  have hl : lv_has ls 2 [(0, .ref g0), (1, .int p0)] := hl
  refine lv_aload_n hx hb dX3_overFrom_0 rfl (lv_at hl 0 rfl) ?_
  refine yget (ci := 3) (k := 12) (v := .int (d.1 g0 12)) (C := RX3) (T := TX3) (N := 16) C0 hK hP hm_g0 hk_g0 (by decide) rfl inlX3 (by decide) mW722 (fun _ h9 => h9) rfl dX3_overFrom_1 ?_
  refine lv_topi (fun z_1 ez_1 => ?_)
  refine lv_if_ne (tgt := 10) hx hb dX3_overFrom_4 (by decide) (fun c_2 => ?_) (fun c_2 => ?_)
  · refine lv_aload_n hx hb dX3_overFrom_10 rfl (lv_at hl 0 rfl) ?_
    refine yget (ci := 3) (k := 13) (v := .int (d.1 g0 13)) (C := RX3) (T := TX3) (N := 16) C0 hK hP hm_g0 hk_g0 (by decide) rfl inlX3 (by decide) mW813 (fun _ h9 => h9) rfl dX3_overFrom_11 ?_
    refine lv_topi (fun z_3 ez_3 => ?_)
    refine lv_aload_n hx hb dX3_overFrom_14 rfl (lv_at hl 0 rfl) ?_
    refine yget (ci := 3) (k := 0) (v := .ref (S.2.2.1 g0 0)) (C := RX3) (T := TX3) (N := 16) C0 hK hP hm_g0 hk_g0 (by decide) rfl inlX3 (by decide) mW83 (fun _ h9 => h9) rfl dX3_overFrom_15 ?_
    obtain ⟨hmy_4, hky_4⟩ := ySh.f3_0 hSh _ hm_g0 hk_g0
    refine lv_iload_n hx hb dX3_overFrom_18 rfl (lv_at hl 1 rfl) ?_
    refine yVrr (As := [.int p0]) (rest := [.int z_3]) C0 (g_X0_portAt l G S d (S.2.2.1 g0 0) p0 hSh hmy_4 hky_4) ok_X0_portAt (mW808 : Cond.methodLink RX3 141 yX0_portAt ∈ wsT) ⟨Nat.le_of_ble_eq_true rfl, Nat.le_of_ble_eq_true rfl⟩ hP hD hK hN hmy_4 hky_4 (by decide) rfl rfl rfl hl.1 rfl (Nat.le_of_ble_eq_true rfl) ⟨Nat.le_of_ble_eq_true rfl, Nat.le_of_ble_eq_true rfl⟩ dX3_overFrom_19 (fun r_5 hr_5 => ?_)
    obtain ⟨hmr_5, hkr_5, her_5⟩ := hr_5
    refine yget (ci := 4) (k := 7) (v := .int (d.1 r_5 7)) (C := RX4) (T := TX4) (N := 11) C0 hK hP hmr_5 hkr_5 (by decide) rfl inlX4 (by decide) mW733 (fun _ h9 => h9) rfl dX3_overFrom_22 ?_
    refine lv_topi (fun z_6 ez_6 => ?_)
    refine lv_isub hx hb dX3_overFrom_25 ?_
    refine lv_topi (fun z_7 ez_7 => ?_)
    refine lv_iload_n hx hb dX3_overFrom_26 rfl (lv_at hl 1 rfl) ?_
    refine lv_aload_n hx hb dX3_overFrom_27 rfl (lv_at hl 0 rfl) ?_
    refine yget (ci := 3) (k := 14) (v := .int (d.1 g0 14)) (C := RX3) (T := TX3) (N := 16) C0 hK hP hm_g0 hk_g0 (by decide) rfl inlX3 (by decide) mW814 (fun _ h9 => h9) rfl dX3_overFrom_28 ?_
    refine lv_topi (fun z_8 ez_8 => ?_)
    refine lv_icmp_le (tgt := 38) hx hb dX3_overFrom_31 (by decide) (fun c_9 => ?_) (fun c_9 => ?_)
    · refine lv_iconst (v := 1) hx hb dX3_overFrom_38 (by decide) ?_
      refine lv_iadd hx hb dX3_overFrom_39 ?_
      refine lv_topi (fun z_10 ez_10 => ?_)
      exact W.iret (v := z_10) hx hb hr (fun t ht hW => ⟨z_10, rfl, trivial, ht⟩) (fun q hq => by cases hq) dX3_overFrom_40
    · refine lv_iconst (v := 0) hx hb dX3_overFrom_34 (by decide) ?_
      refine lv_goto (tgt := 39) hx hb dX3_overFrom_35 (by decide) ?_
      refine lv_iadd hx hb dX3_overFrom_39 ?_
      refine lv_topi (fun z_11 ez_11 => ?_)
      exact W.iret (v := z_11) hx hb hr (fun t ht hW => ⟨z_11, rfl, trivial, ht⟩) (fun q hq => by cases hq) dX3_overFrom_40
  · refine lv_ldc (v := 2000000000) hx hb hown (htl (.constant RX3 96 (2000000000)) mW724) dX3_overFrom_7 ?_
    exact W.iret (v := 2000000000) hx hb hr (fun t ht hW => ⟨2000000000, rfl, trivial, ht⟩) (fun q hq => by cases hq) dX3_overFrom_9
theorem dX3_minutes_0 : decode cX3_minutes 0 = .ok (.iconst 0, 1) := by decide +kernel
theorem dX3_minutes_1 : decode cX3_minutes 1 = .ok (.istore_n 1, 1) := by decide +kernel
theorem dX3_minutes_2 : decode cX3_minutes 2 = .ok (.iconst 0, 1) := by decide +kernel
theorem dX3_minutes_3 : decode cX3_minutes 3 = .ok (.istore_n 2, 1) := by decide +kernel
theorem dX3_minutes_4 : decode cX3_minutes 4 = .ok (.iload_n 2, 1) := by decide +kernel
theorem dX3_minutes_5 : decode cX3_minutes 5 = .ok (.bipush 8, 2) := by decide +kernel
theorem dX3_minutes_7 : decode cX3_minutes 7 = .ok (.if_icmp .ge 41, 3) := by decide +kernel
theorem dX3_minutes_10 : decode cX3_minutes 10 = .ok (.iload_n 1, 1) := by decide +kernel
theorem dX3_minutes_11 : decode cX3_minutes 11 = .ok (.aload_n 0, 1) := by decide +kernel
theorem dX3_minutes_12 : decode cX3_minutes 12 = .ok (.iload_n 2, 1) := by decide +kernel
theorem dX3_minutes_13 : decode cX3_minutes 13 = .ok (.invokevirtual 60, 3) := by decide +kernel
theorem dX3_minutes_16 : decode cX3_minutes 16 = .ok (.ifCond .eq 23, 3) := by decide +kernel
theorem dX3_minutes_19 : decode cX3_minutes 19 = .ok (.aload_n 0, 1) := by decide +kernel
theorem dX3_minutes_20 : decode cX3_minutes 20 = .ok (.iload_n 2, 1) := by decide +kernel
theorem dX3_minutes_21 : decode cX3_minutes 21 = .ok (.invokevirtual 64, 3) := by decide +kernel
theorem dX3_minutes_24 : decode cX3_minutes 24 = .ok (.getfield 126, 3) := by decide +kernel
theorem dX3_minutes_27 : decode cX3_minutes 27 = .ok (.aload_n 0, 1) := by decide +kernel
theorem dX3_minutes_28 : decode cX3_minutes 28 = .ok (.iload_n 2, 1) := by decide +kernel
theorem dX3_minutes_29 : decode cX3_minutes 29 = .ok (.invokevirtual 64, 3) := by decide +kernel
theorem dX3_minutes_32 : decode cX3_minutes 32 = .ok (.getfield 123, 3) := by decide +kernel
theorem dX3_minutes_35 : decode cX3_minutes 35 = .ok (.isub, 1) := by decide +kernel
theorem dX3_minutes_36 : decode cX3_minutes 36 = .ok (.goto 4, 3) := by decide +kernel
theorem dX3_minutes_39 : decode cX3_minutes 39 = .ok (.iconst 0, 1) := by decide +kernel
theorem dX3_minutes_40 : decode cX3_minutes 40 = .ok (.iadd, 1) := by decide +kernel
theorem dX3_minutes_41 : decode cX3_minutes 41 = .ok (.istore_n 1, 1) := by decide +kernel
theorem dX3_minutes_42 : decode cX3_minutes 42 = .ok (.iinc 2 1, 3) := by decide +kernel
theorem dX3_minutes_45 : decode cX3_minutes 45 = .ok (.goto (-41), 3) := by decide +kernel
theorem dX3_minutes_48 : decode cX3_minutes 48 = .ok (.iload_n 1, 1) := by decide +kernel
theorem dX3_minutes_49 : decode cX3_minutes 49 = .ok (.ireturn, 1) := by decide +kernel
set_option maxHeartbeats 4000000 in
set_option maxRecDepth 100000 in
theorem g_X3_minutes (l : Launch) (G : xG) (S : yS) (d : yD) (g0 : Nat) (hSh : ySh S) (hm_g0 : g0 ∈ S.1) (hk_g0 : S.2.1 g0 = 3) : xRi l G yX3_minutes cX3_minutes 3 (some .int) 1 21 [.ref g0] (yW G S d) (fun r => True) := by
  intro sz
  refine xstart (by decide) (Nat.le_of_ble_eq_true rfl) (fun p e s m args below meth c ls C0 hr hlocks hin hsz hP hK hD hN hl => ?_)
  obtain ⟨hx, hb, hml, hown, htl⟩ := id C0
  have hl : lv_has ls 3 [(0, .ref g0)] := hl
  refine lv_iconst (v := 0) hx hb dX3_minutes_0 (by decide) ?_
  refine lv_istore_n (lv' := [(1, .int 0), (0, .ref g0)]) hx hb dX3_minutes_1 rfl hl (by decide) rfl (fun ls hl => ?_)
  refine lv_iconst (v := 0) hx hb dX3_minutes_2 (by decide) ?_
  refine lv_istore_n (lv' := [(2, .int 0), (1, .int 0), (0, .ref g0)]) hx hb dX3_minutes_3 rfl hl (by decide) rfl (fun ls hl => ?_)
  refine yloopR (σ := Int32 × Int32) (fun x => (2147483647 - (x.2 : Int32).toInt).toNat) 4 (fun x ls => lv_has ls 3 [(2, .int x.2), (1, .int x.1), (0, .ref g0)]) (fun x ls hl hnext_3 => ?_) (0, 0) (lv_sub hl [0, 1, 2] rfl)
  obtain ⟨v_1, v_2⟩ := x
  have hl : lv_has ls 3 [(2, .int v_2), (1, .int v_1), (0, .ref g0)] := hl
  refine lv_iload_n hx hb dX3_minutes_4 rfl (lv_at hl 0 rfl) ?_
  refine lv_bipush (v := 8) hx hb dX3_minutes_5 (by decide) ?_
  refine lv_icmp_ge (tgt := 48) hx hb dX3_minutes_7 (by decide) (fun c_5 => ?_) (fun c_5 => ?_)
  · refine lv_iload_n hx hb dX3_minutes_48 rfl (lv_at hl 1 rfl) ?_
    exact W.iret (v := v_1) hx hb hr (fun t ht hW => ⟨v_1, rfl, trivial, ht⟩) (fun q hq => by cases hq) dX3_minutes_49
  · refine lv_iload_n hx hb dX3_minutes_10 rfl (lv_at hl 1 rfl) ?_
    refine lv_aload_n hx hb dX3_minutes_11 rfl (lv_at hl 2 rfl) ?_
    refine lv_iload_n hx hb dX3_minutes_12 rfl (lv_at hl 0 rfl) ?_
    refine yVri (As := [.int v_2]) (rest := [.int v_1]) C0 (g_X3_isMember l G S d g0 v_2 hSh hm_g0 hk_g0) ok_X3_isMember (mW712 : Cond.methodLink RX3 60 yX3_isMember ∈ wsT) ⟨Nat.le_of_ble_eq_true rfl, Nat.le_of_ble_eq_true rfl⟩ hP hD hK hN hm_g0 hk_g0 (by decide) rfl rfl rfl hl.1 rfl (Nat.le_of_ble_eq_true rfl) ⟨Nat.le_of_ble_eq_true rfl, Nat.le_of_ble_eq_true rfl⟩ dX3_minutes_13 (fun r_6 hr_6 => ?_)
    refine lv_if_eq (tgt := 39) hx hb dX3_minutes_16 (by decide) (fun c_7 => ?_) (fun c_7 => ?_)
    · refine lv_iconst (v := 0) hx hb dX3_minutes_39 (by decide) ?_
      refine lv_iadd hx hb dX3_minutes_40 ?_
      refine lv_topi (fun z_8 ez_8 => ?_)
      refine lv_istore_n (lv' := [(1, .int z_8), (2, .int v_2), (0, .ref g0)]) hx hb dX3_minutes_41 rfl hl (by decide) rfl (fun ls hl => ?_)
      refine lv_iinc (v := v_2 + 1) (lv' := [(2, .int (v_2 + 1)), (1, .int z_8), (0, .ref g0)]) hx hb dX3_minutes_42 hl (k := 1) rfl rfl (by decide) rfl (fun ls hl => ?_)
      refine lv_goto (tgt := 4) hx hb dX3_minutes_45 (by decide) ?_
      exact hnext_3 (z_8, v_2 + 1) ls (xup c_5) (lv_sub hl [0, 1, 2] rfl)
    · refine lv_aload_n hx hb dX3_minutes_19 rfl (lv_at hl 2 rfl) ?_
      refine lv_iload_n hx hb dX3_minutes_20 rfl (lv_at hl 0 rfl) ?_
      refine yVrr (As := [.int v_2]) (rest := [.int v_1]) C0 (g_X3_stayAt l G S d g0 v_2 hSh hm_g0 hk_g0) ok_X3_stayAt (mW716 : Cond.methodLink RX3 64 yX3_stayAt ∈ wsT) ⟨Nat.le_of_ble_eq_true rfl, Nat.le_of_ble_eq_true rfl⟩ hP hD hK hN hm_g0 hk_g0 (by decide) rfl rfl rfl hl.1 rfl (Nat.le_of_ble_eq_true rfl) ⟨Nat.le_of_ble_eq_true rfl, Nat.le_of_ble_eq_true rfl⟩ dX3_minutes_21 (fun r_10 hr_10 => ?_)
      obtain ⟨hmr_10, hkr_10⟩ := hr_10
      refine yget (ci := 5) (k := 3) (v := .int (d.1 r_10 3)) (C := RX5) (T := TX5) (N := 7) C0 hK hP hmr_10 hkr_10 (by decide) rfl inlX5 (by decide) mW732 (fun _ h9 => h9) rfl dX3_minutes_24 ?_
      refine lv_topi (fun z_11 ez_11 => ?_)
      refine lv_aload_n hx hb dX3_minutes_27 rfl (lv_at hl 2 rfl) ?_
      refine lv_iload_n hx hb dX3_minutes_28 rfl (lv_at hl 0 rfl) ?_
      refine yVrr (As := [.int v_2]) (rest := [.int z_11, .int v_1]) C0 (g_X3_stayAt l G S d g0 v_2 hSh hm_g0 hk_g0) ok_X3_stayAt (mW716 : Cond.methodLink RX3 64 yX3_stayAt ∈ wsT) ⟨Nat.le_of_ble_eq_true rfl, Nat.le_of_ble_eq_true rfl⟩ hP hD hK hN hm_g0 hk_g0 (by decide) rfl rfl rfl hl.1 rfl (Nat.le_of_ble_eq_true rfl) ⟨Nat.le_of_ble_eq_true rfl, Nat.le_of_ble_eq_true rfl⟩ dX3_minutes_29 (fun r_12 hr_12 => ?_)
      obtain ⟨hmr_12, hkr_12⟩ := hr_12
      refine yget (ci := 5) (k := 2) (v := .int (d.1 r_12 2)) (C := RX5) (T := TX5) (N := 7) C0 hK hP hmr_12 hkr_12 (by decide) rfl inlX5 (by decide) mW731 (fun _ h9 => h9) rfl dX3_minutes_32 ?_
      refine lv_topi (fun z_13 ez_13 => ?_)
      refine lv_isub hx hb dX3_minutes_35 ?_
      refine lv_topi (fun z_14 ez_14 => ?_)
      refine lv_goto (tgt := 40) hx hb dX3_minutes_36 (by decide) ?_
      refine lv_iadd hx hb dX3_minutes_40 ?_
      refine lv_topi (fun z_15 ez_15 => ?_)
      refine lv_istore_n (lv' := [(1, .int z_15), (2, .int v_2), (0, .ref g0)]) hx hb dX3_minutes_41 rfl hl (by decide) rfl (fun ls hl => ?_)
      refine lv_iinc (v := v_2 + 1) (lv' := [(2, .int (v_2 + 1)), (1, .int z_15), (0, .ref g0)]) hx hb dX3_minutes_42 hl (k := 1) rfl rfl (by decide) rfl (fun ls hl => ?_)
      refine lv_goto (tgt := 4) hx hb dX3_minutes_45 (by decide) ?_
      exact hnext_3 (z_15, v_2 + 1) ls (xup c_5) (lv_sub hl [0, 1, 2] rfl)
theorem dX3_owed_0 : decode cX3_owed 0 = .ok (.lconst 0, 1) := by decide +kernel
theorem dX3_owed_1 : decode cX3_owed 1 = .ok (.aload_n 0, 1) := by decide +kernel
theorem dX3_owed_2 : decode cX3_owed 2 = .ok (.getfield 207, 3) := by decide +kernel
theorem dX3_owed_5 : decode cX3_owed 5 = .ok (.aload_n 0, 1) := by decide +kernel
theorem dX3_owed_6 : decode cX3_owed 6 = .ok (.getfield 56, 3) := by decide +kernel
theorem dX3_owed_9 : decode cX3_owed 9 = .ok (.lsub, 1) := by decide +kernel
theorem dX3_owed_10 : decode cX3_owed 10 = .ok (.invokestatic 213, 3) := by decide +kernel
theorem dX3_owed_13 : decode cX3_owed 13 = .ok (.lreturn, 1) := by decide +kernel
set_option maxHeartbeats 4000000 in
set_option maxRecDepth 100000 in
theorem g_X3_owed (l : Launch) (G : xG) (S : yS) (d : yD) (g0 : Nat) (hSh : ySh S) (hm_g0 : g0 ∈ S.1) (hk_g0 : S.2.1 g0 = 3) : yRl l G yX3_owed cX3_owed 1 (some .long) 1 15 [.ref g0] (yW G S d) (fun r => True) := by
  intro sz
  refine xstart (by decide) (Nat.le_of_ble_eq_true rfl) (fun p e s m args below meth c ls C0 hr hlocks hin hsz hP hK hD hN hl => ?_)
  obtain ⟨hx, hb, hml, hown, htl⟩ := id C0
  have hl : lv_has ls 1 [(0, .ref g0)] := hl
  refine lv_lconst (v := 0) hx hb dX3_owed_0 (by decide) ?_
  refine lv_aload_n hx hb dX3_owed_1 rfl (lv_at hl 0 rfl) ?_
  refine yget (ci := 3) (k := 11) (v := .long (d.2.1 g0 11)) (C := RX3) (T := TX3) (N := 16) C0 hK hP hm_g0 hk_g0 (by decide) rfl inlX3 (by decide) mW956 (fun _ h9 => h9) rfl dX3_owed_2 ?_
  refine lv_topl (fun z_1 ez_1 => ?_)
  refine lv_aload_n hx hb dX3_owed_5 rfl (lv_at hl 0 rfl) ?_
  refine yget (ci := 3) (k := 9) (v := .long (d.2.1 g0 9)) (C := RX3) (T := TX3) (N := 16) C0 hK hP hm_g0 hk_g0 (by decide) rfl inlX3 (by decide) mW707 (fun _ h9 => h9) rfl dX3_owed_6 ?_
  refine lv_topl (fun z_2 ez_2 => ?_)
  refine lv_lsub hx hb dX3_owed_9 ?_
  refine lv_topl (fun z_3 ez_3 => ?_)
  refine va_mmax_long hx hb (by rw [hml]; exact hl.1.symm) hown (htl (.methodLink RX3 213 Lib.MathLoose.max_long.x) mW962) (htl (.static Lib.MathLoose.max_long.x) mW963) (htl (.initialized "java/lang/Math") mW204) (htl (.code Lib.MathLoose.max_long.x Lib.MathLoose.max_long.code 4 (some .long)) mW964) (Nat.le_of_ble_eq_true rfl) (Nat.le_of_ble_eq_true rfl) (Nat.le_of_ble_eq_true rfl) (Nat.le_of_ble_eq_true rfl) dX3_owed_10 ?_
  refine lv_topl (fun z_4 ez_4 => ?_)
  exact W.lret (v := z_4) hx hb hr (fun t ht hW => ⟨z_4, rfl, trivial, ht⟩) (fun q hq => by cases hq) dX3_owed_13
theorem dX3_saved_0 : decode cX3_saved 0 = .ok (.aload_n 0, 1) := by decide +kernel
theorem dX3_saved_1 : decode cX3_saved 1 = .ok (.getfield 50, 3) := by decide +kernel
theorem dX3_saved_4 : decode cX3_saved 4 = .ok (.ifCond .le 26, 3) := by decide +kernel
theorem dX3_saved_7 : decode cX3_saved 7 = .ok (.aload_n 0, 1) := by decide +kernel
theorem dX3_saved_8 : decode cX3_saved 8 = .ok (.getfield 53, 3) := by decide +kernel
theorem dX3_saved_11 : decode cX3_saved 11 = .ok (.ifCond .eq 19, 3) := by decide +kernel
theorem dX3_saved_14 : decode cX3_saved 14 = .ok (.lconst 0, 1) := by decide +kernel
theorem dX3_saved_15 : decode cX3_saved 15 = .ok (.aload_n 0, 1) := by decide +kernel
theorem dX3_saved_16 : decode cX3_saved 16 = .ok (.getfield 56, 3) := by decide +kernel
theorem dX3_saved_19 : decode cX3_saved 19 = .ok (.aload_n 0, 1) := by decide +kernel
theorem dX3_saved_20 : decode cX3_saved 20 = .ok (.getfield 207, 3) := by decide +kernel
theorem dX3_saved_23 : decode cX3_saved 23 = .ok (.lsub, 1) := by decide +kernel
theorem dX3_saved_24 : decode cX3_saved 24 = .ok (.invokestatic 213, 3) := by decide +kernel
theorem dX3_saved_27 : decode cX3_saved 27 = .ok (.goto 4, 3) := by decide +kernel
theorem dX3_saved_30 : decode cX3_saved 30 = .ok (.lconst 0, 1) := by decide +kernel
theorem dX3_saved_31 : decode cX3_saved 31 = .ok (.lreturn, 1) := by decide +kernel
set_option maxHeartbeats 4000000 in
set_option maxRecDepth 100000 in
theorem g_X3_saved (l : Launch) (G : xG) (S : yS) (d : yD) (g0 : Nat) (hSh : ySh S) (hm_g0 : g0 ∈ S.1) (hk_g0 : S.2.1 g0 = 3) : yRl l G yX3_saved cX3_saved 1 (some .long) 1 15 [.ref g0] (yW G S d) (fun r => True) := by
  intro sz
  refine xstart (by decide) (Nat.le_of_ble_eq_true rfl) (fun p e s m args below meth c ls C0 hr hlocks hin hsz hP hK hD hN hl => ?_)
  obtain ⟨hx, hb, hml, hown, htl⟩ := id C0
  have hl : lv_has ls 1 [(0, .ref g0)] := hl
  refine lv_aload_n hx hb dX3_saved_0 rfl (lv_at hl 0 rfl) ?_
  refine yget (ci := 3) (k := 7) (v := .int (d.1 g0 7)) (C := RX3) (T := TX3) (N := 16) C0 hK hP hm_g0 hk_g0 (by decide) rfl inlX3 (by decide) mW705 (fun _ h9 => h9) rfl dX3_saved_1 ?_
  refine lv_topi (fun z_1 ez_1 => ?_)
  refine lv_if_le (tgt := 30) hx hb dX3_saved_4 (by decide) (fun c_2 => ?_) (fun c_2 => ?_)
  · refine lv_lconst (v := 0) hx hb dX3_saved_30 (by decide) ?_
    exact W.lret (v := 0) hx hb hr (fun t ht hW => ⟨0, rfl, trivial, ht⟩) (fun q hq => by cases hq) dX3_saved_31
  · refine lv_aload_n hx hb dX3_saved_7 rfl (lv_at hl 0 rfl) ?_
    refine yget (ci := 3) (k := 8) (v := .int (d.1 g0 8)) (C := RX3) (T := TX3) (N := 16) C0 hK hP hm_g0 hk_g0 (by decide) rfl inlX3 (by decide) mW706 (fun _ h9 => h9) rfl dX3_saved_8 ?_
    refine lv_topi (fun z_3 ez_3 => ?_)
    refine lv_if_eq (tgt := 30) hx hb dX3_saved_11 (by decide) (fun c_4 => ?_) (fun c_4 => ?_)
    · refine lv_lconst (v := 0) hx hb dX3_saved_30 (by decide) ?_
      exact W.lret (v := 0) hx hb hr (fun t ht hW => ⟨0, rfl, trivial, ht⟩) (fun q hq => by cases hq) dX3_saved_31
    · refine lv_lconst (v := 0) hx hb dX3_saved_14 (by decide) ?_
      refine lv_aload_n hx hb dX3_saved_15 rfl (lv_at hl 0 rfl) ?_
      refine yget (ci := 3) (k := 9) (v := .long (d.2.1 g0 9)) (C := RX3) (T := TX3) (N := 16) C0 hK hP hm_g0 hk_g0 (by decide) rfl inlX3 (by decide) mW707 (fun _ h9 => h9) rfl dX3_saved_16 ?_
      refine lv_topl (fun z_5 ez_5 => ?_)
      refine lv_aload_n hx hb dX3_saved_19 rfl (lv_at hl 0 rfl) ?_
      refine yget (ci := 3) (k := 11) (v := .long (d.2.1 g0 11)) (C := RX3) (T := TX3) (N := 16) C0 hK hP hm_g0 hk_g0 (by decide) rfl inlX3 (by decide) mW956 (fun _ h9 => h9) rfl dX3_saved_20 ?_
      refine lv_topl (fun z_6 ez_6 => ?_)
      refine lv_lsub hx hb dX3_saved_23 ?_
      refine lv_topl (fun z_7 ez_7 => ?_)
      refine va_mmax_long hx hb (by rw [hml]; exact hl.1.symm) hown (htl (.methodLink RX3 213 Lib.MathLoose.max_long.x) mW962) (htl (.static Lib.MathLoose.max_long.x) mW963) (htl (.initialized "java/lang/Math") mW204) (htl (.code Lib.MathLoose.max_long.x Lib.MathLoose.max_long.code 4 (some .long)) mW964) (Nat.le_of_ble_eq_true rfl) (Nat.le_of_ble_eq_true rfl) (Nat.le_of_ble_eq_true rfl) (Nat.le_of_ble_eq_true rfl) dX3_saved_24 ?_
      refine lv_topl (fun z_8 ez_8 => ?_)
      refine lv_goto (tgt := 31) hx hb dX3_saved_27 (by decide) ?_
      exact W.lret (v := z_8) hx hb hr (fun t ht hW => ⟨z_8, rfl, trivial, ht⟩) (fun q hq => by cases hq) dX3_saved_31
theorem dX3_leastPort_0 : decode cX3_leastPort 0 = .ok (.iconst 0, 1) := by decide +kernel
theorem dX3_leastPort_1 : decode cX3_leastPort 1 = .ok (.istore_n 1, 1) := by decide +kernel
theorem dX3_leastPort_2 : decode cX3_leastPort 2 = .ok (.iload_n 1, 1) := by decide +kernel
theorem dX3_leastPort_3 : decode cX3_leastPort 3 = .ok (.bipush 8, 2) := by decide +kernel
theorem dX3_leastPort_5 : decode cX3_leastPort 5 = .ok (.if_icmp .ge 19, 3) := by decide +kernel
theorem dX3_leastPort_8 : decode cX3_leastPort 8 = .ok (.aload_n 0, 1) := by decide +kernel
theorem dX3_leastPort_9 : decode cX3_leastPort 9 = .ok (.iload_n 1, 1) := by decide +kernel
theorem dX3_leastPort_10 : decode cX3_leastPort 10 = .ok (.invokevirtual 60, 3) := by decide +kernel
theorem dX3_leastPort_13 : decode cX3_leastPort 13 = .ok (.ifCond .eq 5, 3) := by decide +kernel
theorem dX3_leastPort_16 : decode cX3_leastPort 16 = .ok (.iload_n 1, 1) := by decide +kernel
theorem dX3_leastPort_17 : decode cX3_leastPort 17 = .ok (.ireturn, 1) := by decide +kernel
theorem dX3_leastPort_18 : decode cX3_leastPort 18 = .ok (.iinc 1 1, 3) := by decide +kernel
theorem dX3_leastPort_21 : decode cX3_leastPort 21 = .ok (.goto (-19), 3) := by decide +kernel
theorem dX3_leastPort_24 : decode cX3_leastPort 24 = .ok (.iconst 0, 1) := by decide +kernel
theorem dX3_leastPort_25 : decode cX3_leastPort 25 = .ok (.ireturn, 1) := by decide +kernel
set_option maxHeartbeats 4000000 in
set_option maxRecDepth 100000 in
theorem g_X3_leastPort (l : Launch) (G : xG) (S : yS) (d : yD) (g0 : Nat) (hSh : ySh S) (hm_g0 : g0 ∈ S.1) (hk_g0 : S.2.1 g0 = 3) : xRi l G yX3_leastPort cX3_leastPort 2 (some .int) 1 21 [.ref g0] (yW G S d) (fun r => True) := by
  intro sz
  refine xstart (by decide) (Nat.le_of_ble_eq_true rfl) (fun p e s m args below meth c ls C0 hr hlocks hin hsz hP hK hD hN hl => ?_)
  obtain ⟨hx, hb, hml, hown, htl⟩ := id C0
  have hl : lv_has ls 2 [(0, .ref g0)] := hl
  refine lv_iconst (v := 0) hx hb dX3_leastPort_0 (by decide) ?_
  refine lv_istore_n (lv' := [(1, .int 0), (0, .ref g0)]) hx hb dX3_leastPort_1 rfl hl (by decide) rfl (fun ls hl => ?_)
  refine yloopR (σ := Int32) (fun x => (2147483647 - (x : Int32).toInt).toNat) 2 (fun x ls => lv_has ls 2 [(1, .int x), (0, .ref g0)]) (fun x ls hl hnext_2 => ?_) 0 (lv_sub hl [0, 1] rfl)
  obtain ⟨v_1, rfl⟩ : ∃ z, z = x := ⟨_, rfl⟩
  have hl : lv_has ls 2 [(1, .int v_1), (0, .ref g0)] := hl
  refine lv_iload_n hx hb dX3_leastPort_2 rfl (lv_at hl 0 rfl) ?_
  refine lv_bipush (v := 8) hx hb dX3_leastPort_3 (by decide) ?_
  refine lv_icmp_ge (tgt := 24) hx hb dX3_leastPort_5 (by decide) (fun c_4 => ?_) (fun c_4 => ?_)
  · refine lv_iconst (v := 0) hx hb dX3_leastPort_24 (by decide) ?_
    exact W.iret (v := 0) hx hb hr (fun t ht hW => ⟨0, rfl, trivial, ht⟩) (fun q hq => by cases hq) dX3_leastPort_25
  · refine lv_aload_n hx hb dX3_leastPort_8 rfl (lv_at hl 1 rfl) ?_
    refine lv_iload_n hx hb dX3_leastPort_9 rfl (lv_at hl 0 rfl) ?_
    refine yVri (As := [.int v_1]) (rest := []) C0 (g_X3_isMember l G S d g0 v_1 hSh hm_g0 hk_g0) ok_X3_isMember (mW712 : Cond.methodLink RX3 60 yX3_isMember ∈ wsT) ⟨Nat.le_of_ble_eq_true rfl, Nat.le_of_ble_eq_true rfl⟩ hP hD hK hN hm_g0 hk_g0 (by decide) rfl rfl rfl hl.1 rfl (Nat.le_of_ble_eq_true rfl) ⟨Nat.le_of_ble_eq_true rfl, Nat.le_of_ble_eq_true rfl⟩ dX3_leastPort_10 (fun r_5 hr_5 => ?_)
    refine lv_if_eq (tgt := 18) hx hb dX3_leastPort_13 (by decide) (fun c_6 => ?_) (fun c_6 => ?_)
    · refine lv_iinc (v := v_1 + 1) (lv' := [(1, .int (v_1 + 1)), (0, .ref g0)]) hx hb dX3_leastPort_18 hl (k := 0) rfl rfl (by decide) rfl (fun ls hl => ?_)
      refine lv_goto (tgt := 2) hx hb dX3_leastPort_21 (by decide) ?_
      exact hnext_2 (v_1 + 1) ls (xup c_4) (lv_sub hl [0, 1] rfl)
    · refine lv_iload_n hx hb dX3_leastPort_16 rfl (lv_at hl 0 rfl) ?_
      exact W.iret (v := v_1) hx hb hr (fun t ht hW => ⟨v_1, rfl, trivial, ht⟩) (fun q hq => by cases hq) dX3_leastPort_17
theorem dX3_money_0 : decode cX3_money 0 = .ok (.aload_n 0, 1) := by decide +kernel
theorem dX3_money_1 : decode cX3_money 1 = .ok (.getfield 23, 3) := by decide +kernel
theorem dX3_money_4 : decode cX3_money 4 = .ok (.aload_n 0, 1) := by decide +kernel
theorem dX3_money_5 : decode cX3_money 5 = .ok (.invokevirtual 216, 3) := by decide +kernel
theorem dX3_money_8 : decode cX3_money 8 = .ok (.invokevirtual 141, 3) := by decide +kernel
theorem dX3_money_11 : decode cX3_money 11 = .ok (.astore_n 1, 1) := by decide +kernel
theorem dX3_money_12 : decode cX3_money 12 = .ok (.aload_n 0, 1) := by decide +kernel
theorem dX3_money_13 : decode cX3_money 13 = .ok (.invokevirtual 219, 3) := by decide +kernel
theorem dX3_money_16 : decode cX3_money 16 = .ok (.aload_n 1, 1) := by decide +kernel
theorem dX3_money_17 : decode cX3_money 17 = .ok (.getfield 223, 3) := by decide +kernel
theorem dX3_money_20 : decode cX3_money 20 = .ok (.lmul, 1) := by decide +kernel
theorem dX3_money_21 : decode cX3_money 21 = .ok (.ldc2_w 226, 3) := by decide +kernel
theorem dX3_money_24 : decode cX3_money 24 = .ok (.ldiv, 1) := by decide +kernel
theorem dX3_money_25 : decode cX3_money 25 = .ok (.aload_n 0, 1) := by decide +kernel
theorem dX3_money_26 : decode cX3_money 26 = .ok (.invokevirtual 228, 3) := by decide +kernel
theorem dX3_money_29 : decode cX3_money 29 = .ok (.aload_n 1, 1) := by decide +kernel
theorem dX3_money_30 : decode cX3_money 30 = .ok (.getfield 231, 3) := by decide +kernel
theorem dX3_money_33 : decode cX3_money 33 = .ok (.lmul, 1) := by decide +kernel
theorem dX3_money_34 : decode cX3_money 34 = .ok (.ldc2_w 226, 3) := by decide +kernel
theorem dX3_money_37 : decode cX3_money 37 = .ok (.ldiv, 1) := by decide +kernel
theorem dX3_money_38 : decode cX3_money 38 = .ok (.lsub, 1) := by decide +kernel
theorem dX3_money_39 : decode cX3_money 39 = .ok (.lreturn, 1) := by decide +kernel
set_option maxHeartbeats 4000000 in
set_option maxRecDepth 100000 in
theorem g_X3_money (l : Launch) (G : xG) (S : yS) (d : yD) (g0 : Nat) (hSh : ySh S) (hm_g0 : g0 ∈ S.1) (hk_g0 : S.2.1 g0 = 3) : yRl l G yX3_money cX3_money 2 (some .long) 2 42 [.ref g0] (yW G S d) (fun r => True) := by
  intro sz
  refine xstart (by decide) (Nat.le_of_ble_eq_true rfl) (fun p e s m args below meth c ls C0 hr hlocks hin hsz hP hK hD hN hl => ?_)
  obtain ⟨hx, hb, hml, hown, htl⟩ := id C0
  have hl : lv_has ls 2 [(0, .ref g0)] := hl
  refine lv_aload_n hx hb dX3_money_0 rfl (lv_at hl 0 rfl) ?_
  refine yget (ci := 3) (k := 0) (v := .ref (S.2.2.1 g0 0)) (C := RX3) (T := TX3) (N := 16) C0 hK hP hm_g0 hk_g0 (by decide) rfl inlX3 (by decide) mW83 (fun _ h9 => h9) rfl dX3_money_1 ?_
  obtain ⟨hmy_1, hky_1⟩ := ySh.f3_0 hSh _ hm_g0 hk_g0
  refine lv_aload_n hx hb dX3_money_4 rfl (lv_at hl 0 rfl) ?_
  refine yVri (As := []) (rest := [.ref (S.2.2.1 g0 0)]) C0 (g_X3_leastPort l G S d g0 hSh hm_g0 hk_g0) ok_X3_leastPort (mW976 : Cond.methodLink RX3 216 yX3_leastPort ∈ wsT) ⟨Nat.le_of_ble_eq_true rfl, Nat.le_of_ble_eq_true rfl⟩ hP hD hK hN hm_g0 hk_g0 (by decide) rfl rfl rfl hl.1 rfl (Nat.le_of_ble_eq_true rfl) ⟨Nat.le_of_ble_eq_true rfl, Nat.le_of_ble_eq_true rfl⟩ dX3_money_5 (fun r_2 hr_2 => ?_)
  refine yVrr (As := [.int r_2]) (rest := []) C0 (g_X0_portAt l G S d (S.2.2.1 g0 0) r_2 hSh hmy_1 hky_1) ok_X0_portAt (mW808 : Cond.methodLink RX3 141 yX0_portAt ∈ wsT) ⟨Nat.le_of_ble_eq_true rfl, Nat.le_of_ble_eq_true rfl⟩ hP hD hK hN hmy_1 hky_1 (by decide) rfl rfl rfl hl.1 rfl (Nat.le_of_ble_eq_true rfl) ⟨Nat.le_of_ble_eq_true rfl, Nat.le_of_ble_eq_true rfl⟩ dX3_money_8 (fun r_3 hr_3 => ?_)
  obtain ⟨hmr_3, hkr_3, her_3⟩ := hr_3
  refine lv_astore_n (lv' := [(1, .ref r_3), (0, .ref g0)]) hx hb dX3_money_11 rfl hl (by decide) rfl (fun ls hl => ?_)
  refine lv_aload_n hx hb dX3_money_12 rfl (lv_at hl 1 rfl) ?_
  refine yVrl (As := []) (rest := []) C0 (g_X3_owed l G S d g0 hSh hm_g0 hk_g0) ok_X3_owed (mW980 : Cond.methodLink RX3 219 yX3_owed ∈ wsT) ⟨Nat.le_of_ble_eq_true rfl, Nat.le_of_ble_eq_true rfl⟩ hP hD hK hN hm_g0 hk_g0 (by decide) rfl rfl rfl hl.1 rfl (Nat.le_of_ble_eq_true rfl) ⟨Nat.le_of_ble_eq_true rfl, Nat.le_of_ble_eq_true rfl⟩ dX3_money_13 (fun r_4 hr_4 => ?_)
  refine lv_aload_n hx hb dX3_money_16 rfl (lv_at hl 0 rfl) ?_
  refine yget (ci := 4) (k := 9) (v := .long (d.2.1 r_3 9)) (C := RX4) (T := TX4) (N := 11) C0 hK hP hmr_3 hkr_3 (by decide) rfl inlX4 (by decide) mW973 (fun _ h9 => h9) rfl dX3_money_17 ?_
  refine lv_topl (fun z_5 ez_5 => ?_)
  refine lv_lmul hx hb dX3_money_20 ?_
  refine lv_topl (fun z_6 ez_6 => ?_)
  refine lv_ldc2 (v := 2880) hx hb hown (htl (.constantLong RX3 226 (2880)) mW974) dX3_money_21 ?_
  refine lv_ldiv hx hb dX3_money_24 (by decide) ?_
  refine lv_topl (fun z_7 ez_7 => ?_)
  refine lv_aload_n hx hb dX3_money_25 rfl (lv_at hl 1 rfl) ?_
  refine yVrl (As := []) (rest := [.long z_7]) C0 (g_X3_saved l G S d g0 hSh hm_g0 hk_g0) ok_X3_saved (mW981 : Cond.methodLink RX3 228 yX3_saved ∈ wsT) ⟨Nat.le_of_ble_eq_true rfl, Nat.le_of_ble_eq_true rfl⟩ hP hD hK hN hm_g0 hk_g0 (by decide) rfl rfl rfl hl.1 rfl (Nat.le_of_ble_eq_true rfl) ⟨Nat.le_of_ble_eq_true rfl, Nat.le_of_ble_eq_true rfl⟩ dX3_money_26 (fun r_8 hr_8 => ?_)
  refine lv_aload_n hx hb dX3_money_29 rfl (lv_at hl 0 rfl) ?_
  refine yget (ci := 4) (k := 10) (v := .long (d.2.1 r_3 10)) (C := RX4) (T := TX4) (N := 11) C0 hK hP hmr_3 hkr_3 (by decide) rfl inlX4 (by decide) mW975 (fun _ h9 => h9) rfl dX3_money_30 ?_
  refine lv_topl (fun z_9 ez_9 => ?_)
  refine lv_lmul hx hb dX3_money_33 ?_
  refine lv_topl (fun z_10 ez_10 => ?_)
  refine lv_ldc2 (v := 2880) hx hb hown (htl (.constantLong RX3 226 (2880)) mW974) dX3_money_34 ?_
  refine lv_ldiv hx hb dX3_money_37 (by decide) ?_
  refine lv_topl (fun z_11 ez_11 => ?_)
  refine lv_lsub hx hb dX3_money_38 ?_
  refine lv_topl (fun z_12 ez_12 => ?_)
  exact W.lret (v := z_12) hx hb hr (fun t ht hW => ⟨z_12, rfl, trivial, ht⟩) (fun q hq => by cases hq) dX3_money_39
theorem dX3_reach_0 : decode cX3_reach 0 = .ok (.aload_n 0, 1) := by decide +kernel
theorem dX3_reach_1 : decode cX3_reach 1 = .ok (.iconst 1, 1) := by decide +kernel
theorem dX3_reach_2 : decode cX3_reach 2 = .ok (.putfield 86, 3) := by decide +kernel
theorem dX3_reach_5 : decode cX3_reach 5 = .ok (.aload_n 0, 1) := by decide +kernel
theorem dX3_reach_6 : decode cX3_reach 6 = .ok (.iload_n 1, 1) := by decide +kernel
theorem dX3_reach_7 : decode cX3_reach 7 = .ok (.putfield 117, 3) := by decide +kernel
theorem dX3_reach_10 : decode cX3_reach 10 = .ok (.aload_n 0, 1) := by decide +kernel
theorem dX3_reach_11 : decode cX3_reach 11 = .ok (.iload_n 2, 1) := by decide +kernel
theorem dX3_reach_12 : decode cX3_reach 12 = .ok (.putfield 120, 3) := by decide +kernel
theorem dX3_reach_15 : decode cX3_reach 15 = .ok (.return_, 1) := by decide +kernel
set_option maxHeartbeats 4000000 in
set_option maxRecDepth 100000 in
theorem g_X3_reach (l : Launch) (G : xG) (S : yS) (d : yD) (g0 : Nat) (p0 : Int32) (p1 : Int32) (hSh : ySh S) (hPo : yPo S d) (hm_g0 : g0 ∈ S.1) (hk_g0 : S.2.1 g0 = 3) : xWv l G yX3_reach cX3_reach 3 none 0 0 0 0 [.ref g0, .int p0, .int p1] (yW G S d) (fun u : yD => yAg S [3, 5, 7, 22, 23] d u ∧ (yPo S d → yPo S u) ∧ (True)) (fun u => yW G S u) := by
  intro sz
  refine xstart (by decide) (Nat.le_of_ble_eq_true rfl) (fun p e s m args below meth c ls C0 hr hlocks hin hsz hP hK hD hN hl => ?_)
  obtain ⟨hx, hb, hml, hown, htl⟩ := id C0
  subst hsz
  have hD := hD.self (sz := s.heap.size)
  generalize hAe : va_A (yW G S d) s.heap.size = A at hD ⊢
  have hA : ∀ q : Nat, s.heap.size ≤ q → A q := fun q h => by rw [← hAe]; exact Or.inr h
  have hS : va_S A s.heap s.heap [] := va_S.rf
  have hg0 : yAg S [3, 5, 7, 22, 23] d d := yAg.rf
  have hl : lv_has ls 3 [(0, .ref g0), (1, .int p0), (2, .int p1)] := hl
  refine lv_aload_n hx hb dX3_reach_0 rfl (lv_at hl 0 rfl) ?_
  refine lv_iconst (v := 1) hx hb dX3_reach_1 (by decide) ?_
  refine yputI (ci := 3) (k := 12) (ty := .boolean) (C := RX3) (T := TX3) (N := 16) C0 hK hP hD hS hm_g0 hk_g0 (by decide) rfl inlX3 tyX3 tyX3_ok nmX3 (by decide) mW722 (fun _ h9 => h9) rfl (by decide +kernel) rfl rfl (Nat.le_of_ble_eq_true rfl) ysi_3_12 dX3_reach_2 (fun H locs hP hD hS => ?_)
  obtain ⟨d_1, ed_1⟩ : ∃ z : yD, z = yi d g0 12 1 := ⟨_, rfl⟩
  rw [← ed_1] at hP hD
  have hgd_1 : yAg S [3, 5, 7, 22, 23] d d_1 := by rw [ed_1]; exact yAg.i hg0 (by rw [hk_g0]; decide)
  have hPod_1 : yPo S d_1 := by rw [ed_1]; exact yPo.i hPo hk_g0 (Or.inr (Or.inr rfl))
  refine lv_aload_n hx hb dX3_reach_5 rfl (lv_at hl 0 rfl) ?_
  refine lv_iload_n hx hb dX3_reach_6 rfl (lv_at hl 1 rfl) ?_
  refine yputI (ci := 3) (k := 13) (ty := .int) (C := RX3) (T := TX3) (N := 16) C0 hK hP hD hS hm_g0 hk_g0 (by decide) rfl inlX3 tyX3 tyX3_ok nmX3 (by decide) mW813 (fun _ h9 => h9) rfl (by decide +kernel) rfl rfl (Nat.le_of_ble_eq_true rfl) ysi_3_13 dX3_reach_7 (fun H locs hP hD hS => ?_)
  obtain ⟨d_2, ed_2⟩ : ∃ z : yD, z = yi d_1 g0 13 p0 := ⟨_, rfl⟩
  rw [← ed_2] at hP hD
  have hgd_2 : yAg S [3, 5, 7, 22, 23] d d_2 := by rw [ed_2]; exact yAg.i hgd_1 (by rw [hk_g0]; decide)
  have hPod_2 : yPo S d_2 := by rw [ed_2]; exact yPo.i hPod_1 hk_g0 (Or.inl rfl)
  refine lv_aload_n hx hb dX3_reach_10 rfl (lv_at hl 0 rfl) ?_
  refine lv_iload_n hx hb dX3_reach_11 rfl (lv_at hl 2 rfl) ?_
  refine yputI (ci := 3) (k := 14) (ty := .int) (C := RX3) (T := TX3) (N := 16) C0 hK hP hD hS hm_g0 hk_g0 (by decide) rfl inlX3 tyX3 tyX3_ok nmX3 (by decide) mW814 (fun _ h9 => h9) rfl (by decide +kernel) rfl rfl (Nat.le_of_ble_eq_true rfl) ysi_3_14 dX3_reach_12 (fun H locs hP hD hS => ?_)
  obtain ⟨d_3, ed_3⟩ : ∃ z : yD, z = yi d_2 g0 14 p1 := ⟨_, rfl⟩
  rw [← ed_3] at hP hD
  have hgd_3 : yAg S [3, 5, 7, 22, 23] d d_3 := by rw [ed_3]; exact yAg.i hgd_2 (by rw [hk_g0]; decide)
  have hPod_3 : yPo S d_3 := by rw [ed_3]; exact yPo.i hPod_2 hk_g0 (Or.inl rfl)
  exact W.vret hx hb hr (fun t ht hW => ⟨⟨d_3, rfl, ⟨hgd_3, (fun _ => hPod_3), trivial⟩, by rw [ht]; exact hP, hD⟩, hS.F ht⟩) hS.2.2 dX3_reach_15
theorem dX3_startAll_0 : decode cX3_startAll 0 = .ok (.aload_n 0, 1) := by decide +kernel
theorem dX3_startAll_1 : decode cX3_startAll 1 = .ok (.iconst 0, 1) := by decide +kernel
theorem dX3_startAll_2 : decode cX3_startAll 2 = .ok (.putfield 43, 3) := by decide +kernel
theorem dX3_startAll_5 : decode cX3_startAll 5 = .ok (.ldc 96, 2) := by decide +kernel
theorem dX3_startAll_7 : decode cX3_startAll 7 = .ok (.istore_n 1, 1) := by decide +kernel
theorem dX3_startAll_8 : decode cX3_startAll 8 = .ok (.iconst 0, 1) := by decide +kernel
theorem dX3_startAll_9 : decode cX3_startAll 9 = .ok (.istore_n 2, 1) := by decide +kernel
theorem dX3_startAll_10 : decode cX3_startAll 10 = .ok (.iload_n 2, 1) := by decide +kernel
theorem dX3_startAll_11 : decode cX3_startAll 11 = .ok (.bipush 8, 2) := by decide +kernel
theorem dX3_startAll_13 : decode cX3_startAll 13 = .ok (.if_icmp .ge 102, 3) := by decide +kernel
theorem dX3_startAll_16 : decode cX3_startAll 16 = .ok (.aload_n 0, 1) := by decide +kernel
theorem dX3_startAll_17 : decode cX3_startAll 17 = .ok (.iload_n 2, 1) := by decide +kernel
theorem dX3_startAll_18 : decode cX3_startAll 18 = .ok (.invokevirtual 64, 3) := by decide +kernel
theorem dX3_startAll_21 : decode cX3_startAll 21 = .ok (.astore_n 3, 1) := by decide +kernel
theorem dX3_startAll_22 : decode cX3_startAll 22 = .ok (.aload_n 0, 1) := by decide +kernel
theorem dX3_startAll_23 : decode cX3_startAll 23 = .ok (.iload_n 2, 1) := by decide +kernel
theorem dX3_startAll_24 : decode cX3_startAll 24 = .ok (.invokevirtual 60, 3) := by decide +kernel
theorem dX3_startAll_27 : decode cX3_startAll 27 = .ok (.ifCond .eq 82, 3) := by decide +kernel
theorem dX3_startAll_30 : decode cX3_startAll 30 = .ok (.aload_n 3, 1) := by decide +kernel
theorem dX3_startAll_31 : decode cX3_startAll 31 = .ok (.getfield 123, 3) := by decide +kernel
theorem dX3_startAll_34 : decode cX3_startAll 34 = .ok (.aload_n 3, 1) := by decide +kernel
theorem dX3_startAll_35 : decode cX3_startAll 35 = .ok (.getfield 126, 3) := by decide +kernel
theorem dX3_startAll_38 : decode cX3_startAll 38 = .ok (.if_icmp .lt 6, 3) := by decide +kernel
theorem dX3_startAll_41 : decode cX3_startAll 41 = .ok (.goto 68, 3) := by decide +kernel
theorem dX3_startAll_44 : decode cX3_startAll 44 = .ok (.aload_n 0, 1) := by decide +kernel
theorem dX3_startAll_45 : decode cX3_startAll 45 = .ok (.iload_n 2, 1) := by decide +kernel
theorem dX3_startAll_46 : decode cX3_startAll 46 = .ok (.invokevirtual 129, 3) := by decide +kernel
theorem dX3_startAll_49 : decode cX3_startAll 49 = .ok (.iload_n 2, 1) := by decide +kernel
theorem dX3_startAll_50 : decode cX3_startAll 50 = .ok (.aload_n 3, 1) := by decide +kernel
theorem dX3_startAll_51 : decode cX3_startAll 51 = .ok (.getfield 123, 3) := by decide +kernel
theorem dX3_startAll_54 : decode cX3_startAll 54 = .ok (.aload_n 3, 1) := by decide +kernel
theorem dX3_startAll_55 : decode cX3_startAll 55 = .ok (.getfield 126, 3) := by decide +kernel
theorem dX3_startAll_58 : decode cX3_startAll 58 = .ok (.ldc 96, 2) := by decide +kernel
theorem dX3_startAll_60 : decode cX3_startAll 60 = .ok (.aload_n 0, 1) := by decide +kernel
theorem dX3_startAll_61 : decode cX3_startAll 61 = .ok (.getfield 46, 3) := by decide +kernel
theorem dX3_startAll_64 : decode cX3_startAll 64 = .ok (.invokevirtual 133, 3) := by decide +kernel
theorem dX3_startAll_67 : decode cX3_startAll 67 = .ok (.aload_n 0, 1) := by decide +kernel
theorem dX3_startAll_68 : decode cX3_startAll 68 = .ok (.iload_n 2, 1) := by decide +kernel
theorem dX3_startAll_69 : decode cX3_startAll 69 = .ok (.invokevirtual 129, 3) := by decide +kernel
theorem dX3_startAll_72 : decode cX3_startAll 72 = .ok (.invokevirtual 137, 3) := by decide +kernel
theorem dX3_startAll_75 : decode cX3_startAll 75 = .ok (.pop, 1) := by decide +kernel
theorem dX3_startAll_76 : decode cX3_startAll 76 = .ok (.aload_n 0, 1) := by decide +kernel
theorem dX3_startAll_77 : decode cX3_startAll 77 = .ok (.dup, 1) := by decide +kernel
theorem dX3_startAll_78 : decode cX3_startAll 78 = .ok (.getfield 43, 3) := by decide +kernel
theorem dX3_startAll_81 : decode cX3_startAll 81 = .ok (.iconst 1, 1) := by decide +kernel
theorem dX3_startAll_82 : decode cX3_startAll 82 = .ok (.iload_n 2, 1) := by decide +kernel
theorem dX3_startAll_83 : decode cX3_startAll 83 = .ok (.ishl, 1) := by decide +kernel
theorem dX3_startAll_84 : decode cX3_startAll 84 = .ok (.ior, 1) := by decide +kernel
theorem dX3_startAll_85 : decode cX3_startAll 85 = .ok (.putfield 43, 3) := by decide +kernel
theorem dX3_startAll_88 : decode cX3_startAll 88 = .ok (.iload_n 1, 1) := by decide +kernel
theorem dX3_startAll_89 : decode cX3_startAll 89 = .ok (.aload_n 0, 1) := by decide +kernel
theorem dX3_startAll_90 : decode cX3_startAll 90 = .ok (.getfield 23, 3) := by decide +kernel
theorem dX3_startAll_93 : decode cX3_startAll 93 = .ok (.iload_n 2, 1) := by decide +kernel
theorem dX3_startAll_94 : decode cX3_startAll 94 = .ok (.invokevirtual 141, 3) := by decide +kernel
theorem dX3_startAll_97 : decode cX3_startAll 97 = .ok (.getfield 147, 3) := by decide +kernel
theorem dX3_startAll_100 : decode cX3_startAll 100 = .ok (.aload_n 3, 1) := by decide +kernel
theorem dX3_startAll_101 : decode cX3_startAll 101 = .ok (.getfield 123, 3) := by decide +kernel
theorem dX3_startAll_104 : decode cX3_startAll 104 = .ok (.iadd, 1) := by decide +kernel
theorem dX3_startAll_105 : decode cX3_startAll 105 = .ok (.invokestatic 152, 3) := by decide +kernel
theorem dX3_startAll_108 : decode cX3_startAll 108 = .ok (.istore_n 1, 1) := by decide +kernel
theorem dX3_startAll_109 : decode cX3_startAll 109 = .ok (.iinc 2 1, 3) := by decide +kernel
theorem dX3_startAll_112 : decode cX3_startAll 112 = .ok (.goto (-102), 3) := by decide +kernel
theorem dX3_startAll_115 : decode cX3_startAll 115 = .ok (.iload_n 1, 1) := by decide +kernel
theorem dX3_startAll_116 : decode cX3_startAll 116 = .ok (.ireturn, 1) := by decide +kernel
set_option maxHeartbeats 4000000 in
set_option maxRecDepth 100000 in
theorem g_X3_startAll (l : Launch) (G : xG) (S : yS) (d : yD) (g0 : Nat) (hSh : ySh S) (hPo : yPo S d) (hm_g0 : g0 ∈ S.1) (hk_g0 : S.2.1 g0 = 3) : xWi l G yX3_startAll cX3_startAll 4 (some .int) 4 100 0 0 [.ref g0] (yW G S d) (fun r (u : yD) => yAg S [3, 5, 7, 22, 23] d u ∧ (yPo S d → yPo S u) ∧ (True)) (fun u => yW G S u) := by
  intro sz
  refine xstart (by decide) (Nat.le_of_ble_eq_true rfl) (fun p e s m args below meth c ls C0 hr hlocks hin hsz hP hK hD hN hl => ?_)
  obtain ⟨hx, hb, hml, hown, htl⟩ := id C0
  subst hsz
  have hD := hD.self (sz := s.heap.size)
  generalize hAe : va_A (yW G S d) s.heap.size = A at hD ⊢
  have hA : ∀ q : Nat, s.heap.size ≤ q → A q := fun q h => by rw [← hAe]; exact Or.inr h
  have hS : va_S A s.heap s.heap [] := va_S.rf
  have hg0 : yAg S [3, 5, 7, 22, 23] d d := yAg.rf
  have hl : lv_has ls 4 [(0, .ref g0)] := hl
  refine lv_aload_n hx hb dX3_startAll_0 rfl (lv_at hl 0 rfl) ?_
  refine lv_iconst (v := 0) hx hb dX3_startAll_1 (by decide) ?_
  refine yputI (ci := 3) (k := 15) (ty := .int) (C := RX3) (T := TX3) (N := 16) C0 hK hP hD hS hm_g0 hk_g0 (by decide) rfl inlX3 tyX3 tyX3_ok nmX3 (by decide) mW726 (fun _ h9 => h9) rfl (by decide +kernel) rfl rfl (Nat.le_of_ble_eq_true rfl) ysi_3_15 dX3_startAll_2 (fun H locs hP hD hS => ?_)
  obtain ⟨d_1, ed_1⟩ : ∃ z : yD, z = yi d g0 15 0 := ⟨_, rfl⟩
  rw [← ed_1] at hP hD
  have hgd_1 : yAg S [3, 5, 7, 22, 23] d d_1 := by rw [ed_1]; exact yAg.i hg0 (by rw [hk_g0]; decide)
  have hPod_1 : yPo S d_1 := by rw [ed_1]; exact yPo.i hPo hk_g0 (Or.inl rfl)
  refine lv_ldc (v := 2000000000) hx hb hown (htl (.constant RX3 96 (2000000000)) mW724) dX3_startAll_5 ?_
  refine lv_istore_n (lv' := [(1, .int 2000000000), (0, .ref g0)]) hx hb dX3_startAll_7 rfl hl (by decide) rfl (fun ls hl => ?_)
  refine lv_iconst (v := 0) hx hb dX3_startAll_8 (by decide) ?_
  refine lv_istore_n (lv' := [(2, .int 0), (1, .int 2000000000), (0, .ref g0)]) hx hb dX3_startAll_9 rfl hl (by decide) rfl (fun ls hl => ?_)
  refine yloop (σ := Int32 × Int32 × yD) (fun x => (2147483647 - (x.2.1 : Int32).toInt).toNat) 10 (fun x H locs ls => va_P G.1 xcl (yW G S x.2.2) H ∧ va_D A (yW G S x.2.2) ∧ va_S A s.heap H locs ∧ yAg S [3, 5, 7, 22, 23] d x.2.2 ∧ yPo S x.2.2 ∧ lv_has ls 4 [(2, .int x.2.1), (1, .int x.1), (0, .ref g0)]) (fun x H locs ls hI hnext_5 => ?_) (2000000000, 0, d_1) ⟨hP, hD, hS, hgd_1, hPod_1, lv_sub hl [0, 1, 2] rfl⟩
  obtain ⟨v_2, v_3, d_4⟩ := x
  obtain ⟨hP, hD, hS, hgd_4, hPod_4, hl⟩ := hI
  have hl : lv_has ls 4 [(2, .int v_3), (1, .int v_2), (0, .ref g0)] := hl
  refine lv_iload_n hx hb dX3_startAll_10 rfl (lv_at hl 0 rfl) ?_
  refine lv_bipush (v := 8) hx hb dX3_startAll_11 (by decide) ?_
  refine lv_icmp_ge (tgt := 115) hx hb dX3_startAll_13 (by decide) (fun c_7 => ?_) (fun c_7 => ?_)
  · refine lv_iload_n hx hb dX3_startAll_115 rfl (lv_at hl 1 rfl) ?_
    exact W.iret (v := v_2) hx hb hr (fun t ht hW => ⟨⟨v_2, d_4, rfl, ⟨hgd_4, (fun _ => hPod_4), trivial⟩, by rw [ht]; exact hP, hD⟩, hS.F ht⟩) hS.2.2 dX3_startAll_116
  · refine lv_aload_n hx hb dX3_startAll_16 rfl (lv_at hl 2 rfl) ?_
    refine lv_iload_n hx hb dX3_startAll_17 rfl (lv_at hl 0 rfl) ?_
    refine yVrr (As := [.int v_3]) (rest := []) C0 (g_X3_stayAt l G S d_4 g0 v_3 hSh hm_g0 hk_g0) ok_X3_stayAt (mW716 : Cond.methodLink RX3 64 yX3_stayAt ∈ wsT) ⟨Nat.le_of_ble_eq_true rfl, Nat.le_of_ble_eq_true rfl⟩ hP hD hK hN hm_g0 hk_g0 (by decide) rfl rfl rfl hl.1 rfl (Nat.le_of_ble_eq_true rfl) ⟨Nat.le_of_ble_eq_true rfl, Nat.le_of_ble_eq_true rfl⟩ dX3_startAll_18 (fun r_8 hr_8 => ?_)
    obtain ⟨hmr_8, hkr_8⟩ := hr_8
    refine lv_astore_n (lv' := [(3, .ref r_8), (2, .int v_3), (1, .int v_2), (0, .ref g0)]) hx hb dX3_startAll_21 rfl hl (by decide) rfl (fun ls hl => ?_)
    refine lv_aload_n hx hb dX3_startAll_22 rfl (lv_at hl 3 rfl) ?_
    refine lv_iload_n hx hb dX3_startAll_23 rfl (lv_at hl 1 rfl) ?_
    refine yVri (As := [.int v_3]) (rest := []) C0 (g_X3_isMember l G S d_4 g0 v_3 hSh hm_g0 hk_g0) ok_X3_isMember (mW712 : Cond.methodLink RX3 60 yX3_isMember ∈ wsT) ⟨Nat.le_of_ble_eq_true rfl, Nat.le_of_ble_eq_true rfl⟩ hP hD hK hN hm_g0 hk_g0 (by decide) rfl rfl rfl hl.1 rfl (Nat.le_of_ble_eq_true rfl) ⟨Nat.le_of_ble_eq_true rfl, Nat.le_of_ble_eq_true rfl⟩ dX3_startAll_24 (fun r_9 hr_9 => ?_)
    refine lv_if_eq (tgt := 109) hx hb dX3_startAll_27 (by decide) (fun c_10 => ?_) (fun c_10 => ?_)
    · refine lv_iinc (v := v_3 + 1) (lv' := [(2, .int (v_3 + 1)), (3, .ref r_8), (1, .int v_2), (0, .ref g0)]) hx hb dX3_startAll_109 hl (k := 1) rfl rfl (by decide) rfl (fun ls hl => ?_)
      refine lv_goto (tgt := 10) hx hb dX3_startAll_112 (by decide) ?_
      exact hnext_5 (v_2, v_3 + 1, d_4) _ _ ls (xup c_7) ⟨hP, hD, hS, hgd_4, hPod_4, lv_sub hl [0, 2, 3] rfl⟩
    · refine lv_aload_n hx hb dX3_startAll_30 rfl (lv_at hl 0 rfl) ?_
      refine yget (ci := 5) (k := 2) (v := .int (d_4.1 r_8 2)) (C := RX5) (T := TX5) (N := 7) C0 hK hP hmr_8 hkr_8 (by decide) rfl inlX5 (by decide) mW731 (fun _ h9 => h9) rfl dX3_startAll_31 ?_
      refine lv_topi (fun z_12 ez_12 => ?_)
      refine lv_aload_n hx hb dX3_startAll_34 rfl (lv_at hl 0 rfl) ?_
      refine yget (ci := 5) (k := 3) (v := .int (d_4.1 r_8 3)) (C := RX5) (T := TX5) (N := 7) C0 hK hP hmr_8 hkr_8 (by decide) rfl inlX5 (by decide) mW732 (fun _ h9 => h9) rfl dX3_startAll_35 ?_
      refine lv_topi (fun z_13 ez_13 => ?_)
      refine lv_icmp_lt (tgt := 44) hx hb dX3_startAll_38 (by decide) (fun c_14 => ?_) (fun c_14 => ?_)
      · refine lv_aload_n hx hb dX3_startAll_44 rfl (lv_at hl 3 rfl) ?_
        refine lv_iload_n hx hb dX3_startAll_45 rfl (lv_at hl 1 rfl) ?_
        refine yVrr (As := [.int v_3]) (rest := []) C0 (g_X3_walkAt l G S d_4 g0 v_3 hSh hm_g0 hk_g0) ok_X3_walkAt (mW735 : Cond.methodLink RX3 129 yX3_walkAt ∈ wsT) ⟨Nat.le_of_ble_eq_true rfl, Nat.le_of_ble_eq_true rfl⟩ hP hD hK hN hm_g0 hk_g0 (by decide) rfl rfl rfl hl.1 rfl (Nat.le_of_ble_eq_true rfl) ⟨Nat.le_of_ble_eq_true rfl, Nat.le_of_ble_eq_true rfl⟩ dX3_startAll_46 (fun r_15 hr_15 => ?_)
        obtain ⟨hmr_15, hkr_15⟩ := hr_15
        refine lv_iload_n hx hb dX3_startAll_49 rfl (lv_at hl 1 rfl) ?_
        refine lv_aload_n hx hb dX3_startAll_50 rfl (lv_at hl 0 rfl) ?_
        refine yget (ci := 5) (k := 2) (v := .int (d_4.1 r_8 2)) (C := RX5) (T := TX5) (N := 7) C0 hK hP hmr_8 hkr_8 (by decide) rfl inlX5 (by decide) mW731 (fun _ h9 => h9) rfl dX3_startAll_51 ?_
        refine lv_topi (fun z_16 ez_16 => ?_)
        refine lv_aload_n hx hb dX3_startAll_54 rfl (lv_at hl 0 rfl) ?_
        refine yget (ci := 5) (k := 3) (v := .int (d_4.1 r_8 3)) (C := RX5) (T := TX5) (N := 7) C0 hK hP hmr_8 hkr_8 (by decide) rfl inlX5 (by decide) mW732 (fun _ h9 => h9) rfl dX3_startAll_55 ?_
        refine lv_topi (fun z_17 ez_17 => ?_)
        refine lv_ldc (v := 2000000000) hx hb hown (htl (.constant RX3 96 (2000000000)) mW724) dX3_startAll_58 ?_
        refine lv_aload_n hx hb dX3_startAll_60 rfl (lv_at hl 3 rfl) ?_
        refine yget (ci := 3) (k := 6) (v := .int (d_4.1 g0 6)) (C := RX3) (T := TX3) (N := 16) C0 hK hP hm_g0 hk_g0 (by decide) rfl inlX3 (by decide) mW704 (fun _ h9 => h9) rfl dX3_startAll_61 ?_
        refine lv_topi (fun z_18 ez_18 => ?_)
        have hzz_18 : z_18 = 0 ∨ z_18 = 1 := by rw [ez_18]; exact yPo.b hPod_4 hm_g0 hk_g0 rfl
        refine yVwv (As := [.int v_3, .int z_16, .int z_17, .int 2000000000, .int z_18]) (rest := []) C0 (g_X7_start l G S d_4 r_15 v_3 z_16 z_17 2000000000 z_18 hSh hPod_4 hmr_15 hkr_15 hzz_18) ok_X7_start (mW739 : Cond.methodLink RX3 133 yX7_start ∈ wsT) ⟨Nat.le_of_ble_eq_true rfl, Nat.le_of_ble_eq_true rfl⟩ hP hD hS hA hK hN hmr_15 hkr_15 (by decide) rfl rfl rfl hl.1 rfl (Nat.le_of_ble_eq_true rfl) ⟨Nat.le_of_ble_eq_true rfl, Nat.le_of_ble_eq_true rfl⟩ dX3_startAll_64 (fun d_20 H locs hr_19 hP hD hS => ?_)
        obtain ⟨hgad_20, hpad_20, hxd_20⟩ := hr_19
        have hgd_20 : yAg S [3, 5, 7, 22, 23] d d_20 := yAg.tr hgd_4 hgad_20 (by first | decide | exact fun _ h => h)
        have hPod_20 : yPo S d_20 := hpad_20 hPod_4
        refine lv_aload_n hx hb dX3_startAll_67 rfl (lv_at hl 3 rfl) ?_
        refine lv_iload_n hx hb dX3_startAll_68 rfl (lv_at hl 1 rfl) ?_
        refine yVrr (As := [.int v_3]) (rest := []) C0 (g_X3_walkAt l G S d_20 g0 v_3 hSh hm_g0 hk_g0) ok_X3_walkAt (mW735 : Cond.methodLink RX3 129 yX3_walkAt ∈ wsT) ⟨Nat.le_of_ble_eq_true rfl, Nat.le_of_ble_eq_true rfl⟩ hP hD hK hN hm_g0 hk_g0 (by decide) rfl rfl rfl hl.1 rfl (Nat.le_of_ble_eq_true rfl) ⟨Nat.le_of_ble_eq_true rfl, Nat.le_of_ble_eq_true rfl⟩ dX3_startAll_69 (fun r_21 hr_21 => ?_)
        obtain ⟨hmr_21, hkr_21⟩ := hr_21
        refine yVwi (As := []) (rest := []) C0 (g_X7_step l G S d_20 r_21 hSh hPod_20 hmr_21 hkr_21) ok_X7_step (mW760 : Cond.methodLink RX3 137 yX7_step ∈ wsT) ⟨Nat.le_of_ble_eq_true rfl, Nat.le_of_ble_eq_true rfl⟩ hP hD hS hA hK hN hmr_21 hkr_21 (by decide) rfl rfl rfl hl.1 rfl (Nat.le_of_ble_eq_true rfl) ⟨Nat.le_of_ble_eq_true rfl, Nat.le_of_ble_eq_true rfl⟩ dX3_startAll_72 (fun r_22 d_23 H locs hr_22 hP hD hS => ?_)
        obtain ⟨hgad_23, hpad_23, hxd_23⟩ := hr_22
        have hgd_23 : yAg S [3, 5, 7, 22, 23] d d_23 := yAg.tr hgd_20 hgad_23 (by first | decide | exact fun _ h => h)
        have hPod_23 : yPo S d_23 := hpad_23 hPod_20
        refine lv_pop hx hb dX3_startAll_75 rfl ?_
        refine lv_aload_n hx hb dX3_startAll_76 rfl (lv_at hl 3 rfl) ?_
        refine lv_dup hx hb dX3_startAll_77 rfl ?_
        refine yget (ci := 3) (k := 15) (v := .int (d_23.1 g0 15)) (C := RX3) (T := TX3) (N := 16) C0 hK hP hm_g0 hk_g0 (by decide) rfl inlX3 (by decide) mW726 (fun _ h9 => h9) rfl dX3_startAll_78 ?_
        refine lv_topi (fun z_24 ez_24 => ?_)
        refine lv_iconst (v := 1) hx hb dX3_startAll_81 (by decide) ?_
        refine lv_iload_n hx hb dX3_startAll_82 rfl (lv_at hl 1 rfl) ?_
        refine lv_ishl hx hb dX3_startAll_83 ?_
        refine lv_topi (fun z_25 ez_25 => ?_)
        refine lv_ior hx hb dX3_startAll_84 ?_
        refine lv_topi (fun z_26 ez_26 => ?_)
        refine yputI (ci := 3) (k := 15) (ty := .int) (C := RX3) (T := TX3) (N := 16) C0 hK hP hD hS hm_g0 hk_g0 (by decide) rfl inlX3 tyX3 tyX3_ok nmX3 (by decide) mW726 (fun _ h9 => h9) rfl (by decide +kernel) rfl rfl (Nat.le_of_ble_eq_true rfl) ysi_3_15 dX3_startAll_85 (fun H locs hP hD hS => ?_)
        obtain ⟨d_27, ed_27⟩ : ∃ z : yD, z = yi d_23 g0 15 z_26 := ⟨_, rfl⟩
        rw [← ed_27] at hP hD
        have hgd_27 : yAg S [3, 5, 7, 22, 23] d d_27 := by rw [ed_27]; exact yAg.i hgd_23 (by rw [hk_g0]; decide)
        have hPod_27 : yPo S d_27 := by rw [ed_27]; exact yPo.i hPod_23 hk_g0 (Or.inl rfl)
        refine lv_iload_n hx hb dX3_startAll_88 rfl (lv_at hl 2 rfl) ?_
        refine lv_aload_n hx hb dX3_startAll_89 rfl (lv_at hl 3 rfl) ?_
        refine yget (ci := 3) (k := 0) (v := .ref (S.2.2.1 g0 0)) (C := RX3) (T := TX3) (N := 16) C0 hK hP hm_g0 hk_g0 (by decide) rfl inlX3 (by decide) mW83 (fun _ h9 => h9) rfl dX3_startAll_90 ?_
        obtain ⟨hmy_28, hky_28⟩ := ySh.f3_0 hSh _ hm_g0 hk_g0
        refine lv_iload_n hx hb dX3_startAll_93 rfl (lv_at hl 1 rfl) ?_
        refine yVrr (As := [.int v_3]) (rest := [.int v_2]) C0 (g_X0_portAt l G S d_27 (S.2.2.1 g0 0) v_3 hSh hmy_28 hky_28) ok_X0_portAt (mW808 : Cond.methodLink RX3 141 yX0_portAt ∈ wsT) ⟨Nat.le_of_ble_eq_true rfl, Nat.le_of_ble_eq_true rfl⟩ hP hD hK hN hmy_28 hky_28 (by decide) rfl rfl rfl hl.1 rfl (Nat.le_of_ble_eq_true rfl) ⟨Nat.le_of_ble_eq_true rfl, Nat.le_of_ble_eq_true rfl⟩ dX3_startAll_94 (fun r_29 hr_29 => ?_)
        obtain ⟨hmr_29, hkr_29, her_29⟩ := hr_29
        refine yget (ci := 4) (k := 7) (v := .int (d_27.1 r_29 7)) (C := RX4) (T := TX4) (N := 11) C0 hK hP hmr_29 hkr_29 (by decide) rfl inlX4 (by decide) mW733 (fun _ h9 => h9) rfl dX3_startAll_97 ?_
        refine lv_topi (fun z_30 ez_30 => ?_)
        refine lv_aload_n hx hb dX3_startAll_100 rfl (lv_at hl 0 rfl) ?_
        refine yget (ci := 5) (k := 2) (v := .int (d_27.1 r_8 2)) (C := RX5) (T := TX5) (N := 7) C0 hK hP hmr_8 hkr_8 (by decide) rfl inlX5 (by decide) mW731 (fun _ h9 => h9) rfl dX3_startAll_101 ?_
        refine lv_topi (fun z_31 ez_31 => ?_)
        refine lv_iadd hx hb dX3_startAll_104 ?_
        refine lv_topi (fun z_32 ez_32 => ?_)
        refine va_mmin hx hb (by rw [hml]; exact hl.1.symm) hown (htl (.methodLink RX3 152 Lib.Math.min.name) mW734) (htl (.static Lib.Math.min.name) mW203) (htl (.initialized "java/lang/Math") mW204) (htl (.code Lib.Math.min.name Lib.Math.min.code 2 (some .int)) mW205) (Nat.le_of_ble_eq_true rfl) (Nat.le_of_ble_eq_true rfl) (Nat.le_of_ble_eq_true rfl) (Nat.le_of_ble_eq_true rfl) dX3_startAll_105 ?_
        refine lv_topi (fun z_33 ez_33 => ?_)
        refine lv_istore_n (lv' := [(1, .int z_33), (3, .ref r_8), (2, .int v_3), (0, .ref g0)]) hx hb dX3_startAll_108 rfl hl (by decide) rfl (fun ls hl => ?_)
        refine lv_iinc (v := v_3 + 1) (lv' := [(2, .int (v_3 + 1)), (1, .int z_33), (3, .ref r_8), (0, .ref g0)]) hx hb dX3_startAll_109 hl (k := 2) rfl rfl (by decide) rfl (fun ls hl => ?_)
        refine lv_goto (tgt := 10) hx hb dX3_startAll_112 (by decide) ?_
        exact hnext_5 (z_33, v_3 + 1, d_27) _ _ ls (xup c_7) ⟨hP, hD, hS, hgd_27, hPod_27, lv_sub hl [0, 1, 3] rfl⟩
      · refine lv_goto (tgt := 109) hx hb dX3_startAll_41 (by decide) ?_
        refine lv_iinc (v := v_3 + 1) (lv' := [(2, .int (v_3 + 1)), (3, .ref r_8), (1, .int v_2), (0, .ref g0)]) hx hb dX3_startAll_109 hl (k := 1) rfl rfl (by decide) rfl (fun ls hl => ?_)
        refine lv_goto (tgt := 10) hx hb dX3_startAll_112 (by decide) ?_
        exact hnext_5 (v_2, v_3 + 1, d_4) _ _ ls (xup c_7) ⟨hP, hD, hS, hgd_4, hPod_4, lv_sub hl [0, 2, 3] rfl⟩
theorem dX3_stepAll_0 : decode cX3_stepAll 0 = .ok (.iconst 0, 1) := by decide +kernel
theorem dX3_stepAll_1 : decode cX3_stepAll 1 = .ok (.istore_n 2, 1) := by decide +kernel
theorem dX3_stepAll_2 : decode cX3_stepAll 2 = .ok (.iload_n 2, 1) := by decide +kernel
theorem dX3_stepAll_3 : decode cX3_stepAll 3 = .ok (.bipush 8, 2) := by decide +kernel
theorem dX3_stepAll_5 : decode cX3_stepAll 5 = .ok (.if_icmp .ge 76, 3) := by decide +kernel
theorem dX3_stepAll_8 : decode cX3_stepAll 8 = .ok (.aload_n 0, 1) := by decide +kernel
theorem dX3_stepAll_9 : decode cX3_stepAll 9 = .ok (.iload_n 2, 1) := by decide +kernel
theorem dX3_stepAll_10 : decode cX3_stepAll 10 = .ok (.invokevirtual 158, 3) := by decide +kernel
theorem dX3_stepAll_13 : decode cX3_stepAll 13 = .ok (.ifCond .eq 31, 3) := by decide +kernel
theorem dX3_stepAll_16 : decode cX3_stepAll 16 = .ok (.aload_n 0, 1) := by decide +kernel
theorem dX3_stepAll_17 : decode cX3_stepAll 17 = .ok (.getfield 23, 3) := by decide +kernel
theorem dX3_stepAll_20 : decode cX3_stepAll 20 = .ok (.iload_n 2, 1) := by decide +kernel
theorem dX3_stepAll_21 : decode cX3_stepAll 21 = .ok (.invokevirtual 141, 3) := by decide +kernel
theorem dX3_stepAll_24 : decode cX3_stepAll 24 = .ok (.getfield 147, 3) := by decide +kernel
theorem dX3_stepAll_27 : decode cX3_stepAll 27 = .ok (.aload_n 0, 1) := by decide +kernel
theorem dX3_stepAll_28 : decode cX3_stepAll 28 = .ok (.iload_n 2, 1) := by decide +kernel
theorem dX3_stepAll_29 : decode cX3_stepAll 29 = .ok (.invokevirtual 129, 3) := by decide +kernel
theorem dX3_stepAll_32 : decode cX3_stepAll 32 = .ok (.getfield 161, 3) := by decide +kernel
theorem dX3_stepAll_35 : decode cX3_stepAll 35 = .ok (.iadd, 1) := by decide +kernel
theorem dX3_stepAll_36 : decode cX3_stepAll 36 = .ok (.iload_n 1, 1) := by decide +kernel
theorem dX3_stepAll_37 : decode cX3_stepAll 37 = .ok (.if_icmp .gt 7, 3) := by decide +kernel
theorem dX3_stepAll_40 : decode cX3_stepAll 40 = .ok (.iconst 1, 1) := by decide +kernel
theorem dX3_stepAll_41 : decode cX3_stepAll 41 = .ok (.goto 4, 3) := by decide +kernel
theorem dX3_stepAll_44 : decode cX3_stepAll 44 = .ok (.iconst 0, 1) := by decide +kernel
theorem dX3_stepAll_45 : decode cX3_stepAll 45 = .ok (.istore_n 3, 1) := by decide +kernel
theorem dX3_stepAll_46 : decode cX3_stepAll 46 = .ok (.iload_n 3, 1) := by decide +kernel
theorem dX3_stepAll_47 : decode cX3_stepAll 47 = .ok (.ifCond .eq 28, 3) := by decide +kernel
theorem dX3_stepAll_50 : decode cX3_stepAll 50 = .ok (.aload_n 0, 1) := by decide +kernel
theorem dX3_stepAll_51 : decode cX3_stepAll 51 = .ok (.iload_n 2, 1) := by decide +kernel
theorem dX3_stepAll_52 : decode cX3_stepAll 52 = .ok (.invokevirtual 129, 3) := by decide +kernel
theorem dX3_stepAll_55 : decode cX3_stepAll 55 = .ok (.invokevirtual 137, 3) := by decide +kernel
theorem dX3_stepAll_58 : decode cX3_stepAll 58 = .ok (.ifCond .ne 17, 3) := by decide +kernel
theorem dX3_stepAll_61 : decode cX3_stepAll 61 = .ok (.aload_n 0, 1) := by decide +kernel
theorem dX3_stepAll_62 : decode cX3_stepAll 62 = .ok (.dup, 1) := by decide +kernel
theorem dX3_stepAll_63 : decode cX3_stepAll 63 = .ok (.getfield 43, 3) := by decide +kernel
theorem dX3_stepAll_66 : decode cX3_stepAll 66 = .ok (.iconst 1, 1) := by decide +kernel
theorem dX3_stepAll_67 : decode cX3_stepAll 67 = .ok (.iload_n 2, 1) := by decide +kernel
theorem dX3_stepAll_68 : decode cX3_stepAll 68 = .ok (.ishl, 1) := by decide +kernel
theorem dX3_stepAll_69 : decode cX3_stepAll 69 = .ok (.iconst (-1), 1) := by decide +kernel
theorem dX3_stepAll_70 : decode cX3_stepAll 70 = .ok (.ixor, 1) := by decide +kernel
theorem dX3_stepAll_71 : decode cX3_stepAll 71 = .ok (.iand, 1) := by decide +kernel
theorem dX3_stepAll_72 : decode cX3_stepAll 72 = .ok (.putfield 43, 3) := by decide +kernel
theorem dX3_stepAll_75 : decode cX3_stepAll 75 = .ok (.iinc 2 1, 3) := by decide +kernel
theorem dX3_stepAll_78 : decode cX3_stepAll 78 = .ok (.goto (-76), 3) := by decide +kernel
theorem dX3_stepAll_81 : decode cX3_stepAll 81 = .ok (.return_, 1) := by decide +kernel
set_option maxHeartbeats 4000000 in
set_option maxRecDepth 100000 in
theorem g_X3_stepAll (l : Launch) (G : xG) (S : yS) (d : yD) (g0 : Nat) (p0 : Int32) (hSh : ySh S) (hPo : yPo S d) (hm_g0 : g0 ∈ S.1) (hk_g0 : S.2.1 g0 = 3) : xWv l G yX3_stepAll cX3_stepAll 4 none 4 89 0 0 [.ref g0, .int p0] (yW G S d) (fun u : yD => yAg S [3, 5, 7, 22, 23] d u ∧ (yPo S d → yPo S u) ∧ (True)) (fun u => yW G S u) := by
  intro sz
  refine xstart (by decide) (Nat.le_of_ble_eq_true rfl) (fun p e s m args below meth c ls C0 hr hlocks hin hsz hP hK hD hN hl => ?_)
  obtain ⟨hx, hb, hml, hown, htl⟩ := id C0
  subst hsz
  have hD := hD.self (sz := s.heap.size)
  generalize hAe : va_A (yW G S d) s.heap.size = A at hD ⊢
  have hA : ∀ q : Nat, s.heap.size ≤ q → A q := fun q h => by rw [← hAe]; exact Or.inr h
  have hS : va_S A s.heap s.heap [] := va_S.rf
  have hg0 : yAg S [3, 5, 7, 22, 23] d d := yAg.rf
  have hl : lv_has ls 4 [(0, .ref g0), (1, .int p0)] := hl
  refine lv_iconst (v := 0) hx hb dX3_stepAll_0 (by decide) ?_
  refine lv_istore_n (lv' := [(2, .int 0), (0, .ref g0), (1, .int p0)]) hx hb dX3_stepAll_1 rfl hl (by decide) rfl (fun ls hl => ?_)
  refine yloop (σ := Int32 × yD) (fun x => (2147483647 - (x.1 : Int32).toInt).toNat) 2 (fun x H locs ls => va_P G.1 xcl (yW G S x.2) H ∧ va_D A (yW G S x.2) ∧ va_S A s.heap H locs ∧ yAg S [3, 5, 7, 22, 23] d x.2 ∧ yPo S x.2 ∧ lv_has ls 4 [(2, .int x.1), (0, .ref g0), (1, .int p0)]) (fun x H locs ls hI hnext_3 => ?_) (0, d) ⟨hP, hD, hS, hg0, hPo, lv_sub hl [0, 1, 2] rfl⟩
  obtain ⟨v_1, d_2⟩ := x
  obtain ⟨hP, hD, hS, hgd_2, hPod_2, hl⟩ := hI
  have hl : lv_has ls 4 [(2, .int v_1), (0, .ref g0), (1, .int p0)] := hl
  refine lv_iload_n hx hb dX3_stepAll_2 rfl (lv_at hl 0 rfl) ?_
  refine lv_bipush (v := 8) hx hb dX3_stepAll_3 (by decide) ?_
  refine lv_icmp_ge (tgt := 81) hx hb dX3_stepAll_5 (by decide) (fun c_5 => ?_) (fun c_5 => ?_)
  · exact W.vret hx hb hr (fun t ht hW => ⟨⟨d_2, rfl, ⟨hgd_2, (fun _ => hPod_2), trivial⟩, by rw [ht]; exact hP, hD⟩, hS.F ht⟩) hS.2.2 dX3_stepAll_81
  · refine lv_aload_n hx hb dX3_stepAll_8 rfl (lv_at hl 1 rfl) ?_
    refine lv_iload_n hx hb dX3_stepAll_9 rfl (lv_at hl 0 rfl) ?_
    refine yVri (As := [.int v_1]) (rest := []) C0 (g_X3_isRunning l G S d_2 g0 v_1 hSh hm_g0 hk_g0) ok_X3_isRunning (mW821 : Cond.methodLink RX3 158 yX3_isRunning ∈ wsT) ⟨Nat.le_of_ble_eq_true rfl, Nat.le_of_ble_eq_true rfl⟩ hP hD hK hN hm_g0 hk_g0 (by decide) rfl rfl rfl hl.1 rfl (Nat.le_of_ble_eq_true rfl) ⟨Nat.le_of_ble_eq_true rfl, Nat.le_of_ble_eq_true rfl⟩ dX3_stepAll_10 (fun r_6 hr_6 => ?_)
    refine yjoinR (σ := Int32) 45 (fun x ls st => st = [.int x] ∧ lv_has ls 4 [(2, .int v_1), (0, .ref g0), (1, .int p0)] ∧ (x = 0 ∨ x = 1)) (fun x ls st hI => ?_) (fun J45_7 => ?_)
    · obtain ⟨v_7, rfl⟩ : ∃ z, z = x := ⟨_, rfl⟩
      obtain ⟨rfl, hl, hzv_7⟩ := hI
      have hl : lv_has ls 4 [(2, .int v_1), (0, .ref g0), (1, .int p0)] := hl
      refine lv_istore_n (lv' := [(3, .int v_7), (2, .int v_1), (0, .ref g0), (1, .int p0)]) hx hb dX3_stepAll_45 rfl hl (by decide) rfl (fun ls hl => ?_)
      refine lv_iload_n hx hb dX3_stepAll_46 rfl (lv_at hl 0 rfl) ?_
      refine lv_if_eq (tgt := 75) hx hb dX3_stepAll_47 (by decide) (fun c_8 => ?_) (fun c_8 => ?_)
      · refine lv_iinc (v := v_1 + 1) (lv' := [(2, .int (v_1 + 1)), (3, .int v_7), (0, .ref g0), (1, .int p0)]) hx hb dX3_stepAll_75 hl (k := 1) rfl rfl (by decide) rfl (fun ls hl => ?_)
        refine lv_goto (tgt := 2) hx hb dX3_stepAll_78 (by decide) ?_
        exact hnext_3 (v_1 + 1, d_2) _ _ ls (xup c_5) ⟨hP, hD, hS, hgd_2, hPod_2, lv_sub hl [0, 2, 3] rfl⟩
      · refine lv_aload_n hx hb dX3_stepAll_50 rfl (lv_at hl 2 rfl) ?_
        refine lv_iload_n hx hb dX3_stepAll_51 rfl (lv_at hl 1 rfl) ?_
        refine yVrr (As := [.int v_1]) (rest := []) C0 (g_X3_walkAt l G S d_2 g0 v_1 hSh hm_g0 hk_g0) ok_X3_walkAt (mW735 : Cond.methodLink RX3 129 yX3_walkAt ∈ wsT) ⟨Nat.le_of_ble_eq_true rfl, Nat.le_of_ble_eq_true rfl⟩ hP hD hK hN hm_g0 hk_g0 (by decide) rfl rfl rfl hl.1 rfl (Nat.le_of_ble_eq_true rfl) ⟨Nat.le_of_ble_eq_true rfl, Nat.le_of_ble_eq_true rfl⟩ dX3_stepAll_52 (fun r_10 hr_10 => ?_)
        obtain ⟨hmr_10, hkr_10⟩ := hr_10
        refine yVwi (As := []) (rest := []) C0 (g_X7_step l G S d_2 r_10 hSh hPod_2 hmr_10 hkr_10) ok_X7_step (mW760 : Cond.methodLink RX3 137 yX7_step ∈ wsT) ⟨Nat.le_of_ble_eq_true rfl, Nat.le_of_ble_eq_true rfl⟩ hP hD hS hA hK hN hmr_10 hkr_10 (by decide) rfl rfl rfl hl.1 rfl (Nat.le_of_ble_eq_true rfl) ⟨Nat.le_of_ble_eq_true rfl, Nat.le_of_ble_eq_true rfl⟩ dX3_stepAll_55 (fun r_11 d_12 H locs hr_11 hP hD hS => ?_)
        obtain ⟨hgad_12, hpad_12, hxd_12⟩ := hr_11
        have hgd_12 : yAg S [3, 5, 7, 22, 23] d d_12 := yAg.tr hgd_2 hgad_12 (by first | decide | exact fun _ h => h)
        have hPod_12 : yPo S d_12 := hpad_12 hPod_2
        refine lv_if_ne (tgt := 75) hx hb dX3_stepAll_58 (by decide) (fun c_13 => ?_) (fun c_13 => ?_)
        · refine lv_iinc (v := v_1 + 1) (lv' := [(2, .int (v_1 + 1)), (3, .int v_7), (0, .ref g0), (1, .int p0)]) hx hb dX3_stepAll_75 hl (k := 1) rfl rfl (by decide) rfl (fun ls hl => ?_)
          refine lv_goto (tgt := 2) hx hb dX3_stepAll_78 (by decide) ?_
          exact hnext_3 (v_1 + 1, d_12) _ _ ls (xup c_5) ⟨hP, hD, hS, hgd_12, hPod_12, lv_sub hl [0, 2, 3] rfl⟩
        · refine lv_aload_n hx hb dX3_stepAll_61 rfl (lv_at hl 2 rfl) ?_
          refine lv_dup hx hb dX3_stepAll_62 rfl ?_
          refine yget (ci := 3) (k := 15) (v := .int (d_12.1 g0 15)) (C := RX3) (T := TX3) (N := 16) C0 hK hP hm_g0 hk_g0 (by decide) rfl inlX3 (by decide) mW726 (fun _ h9 => h9) rfl dX3_stepAll_63 ?_
          refine lv_topi (fun z_15 ez_15 => ?_)
          refine lv_iconst (v := 1) hx hb dX3_stepAll_66 (by decide) ?_
          refine lv_iload_n hx hb dX3_stepAll_67 rfl (lv_at hl 1 rfl) ?_
          refine lv_ishl hx hb dX3_stepAll_68 ?_
          refine lv_topi (fun z_16 ez_16 => ?_)
          refine lv_iconst (v := (-1)) hx hb dX3_stepAll_69 (by decide) ?_
          refine lv_ixor hx hb dX3_stepAll_70 ?_
          refine lv_topi (fun z_17 ez_17 => ?_)
          refine lv_iand hx hb dX3_stepAll_71 ?_
          refine lv_topi (fun z_18 ez_18 => ?_)
          refine yputI (ci := 3) (k := 15) (ty := .int) (C := RX3) (T := TX3) (N := 16) C0 hK hP hD hS hm_g0 hk_g0 (by decide) rfl inlX3 tyX3 tyX3_ok nmX3 (by decide) mW726 (fun _ h9 => h9) rfl (by decide +kernel) rfl rfl (Nat.le_of_ble_eq_true rfl) ysi_3_15 dX3_stepAll_72 (fun H locs hP hD hS => ?_)
          obtain ⟨d_19, ed_19⟩ : ∃ z : yD, z = yi d_12 g0 15 z_18 := ⟨_, rfl⟩
          rw [← ed_19] at hP hD
          have hgd_19 : yAg S [3, 5, 7, 22, 23] d d_19 := by rw [ed_19]; exact yAg.i hgd_12 (by rw [hk_g0]; decide)
          have hPod_19 : yPo S d_19 := by rw [ed_19]; exact yPo.i hPod_12 hk_g0 (Or.inl rfl)
          refine lv_iinc (v := v_1 + 1) (lv' := [(2, .int (v_1 + 1)), (3, .int v_7), (0, .ref g0), (1, .int p0)]) hx hb dX3_stepAll_75 hl (k := 1) rfl rfl (by decide) rfl (fun ls hl => ?_)
          refine lv_goto (tgt := 2) hx hb dX3_stepAll_78 (by decide) ?_
          exact hnext_3 (v_1 + 1, d_19) _ _ ls (xup c_5) ⟨hP, hD, hS, hgd_19, hPod_19, lv_sub hl [0, 2, 3] rfl⟩
    refine lv_if_eq (tgt := 44) hx hb dX3_stepAll_13 (by decide) (fun c_21 => ?_) (fun c_21 => ?_)
    · refine lv_iconst (v := 0) hx hb dX3_stepAll_44 (by decide) ?_
      exact J45_7 0 ls _ ⟨rfl, lv_sub hl [0, 1, 2] rfl, Or.inl rfl⟩
    · refine lv_aload_n hx hb dX3_stepAll_16 rfl (lv_at hl 1 rfl) ?_
      refine yget (ci := 3) (k := 0) (v := .ref (S.2.2.1 g0 0)) (C := RX3) (T := TX3) (N := 16) C0 hK hP hm_g0 hk_g0 (by decide) rfl inlX3 (by decide) mW83 (fun _ h9 => h9) rfl dX3_stepAll_17 ?_
      obtain ⟨hmy_22, hky_22⟩ := ySh.f3_0 hSh _ hm_g0 hk_g0
      refine lv_iload_n hx hb dX3_stepAll_20 rfl (lv_at hl 0 rfl) ?_
      refine yVrr (As := [.int v_1]) (rest := []) C0 (g_X0_portAt l G S d_2 (S.2.2.1 g0 0) v_1 hSh hmy_22 hky_22) ok_X0_portAt (mW808 : Cond.methodLink RX3 141 yX0_portAt ∈ wsT) ⟨Nat.le_of_ble_eq_true rfl, Nat.le_of_ble_eq_true rfl⟩ hP hD hK hN hmy_22 hky_22 (by decide) rfl rfl rfl hl.1 rfl (Nat.le_of_ble_eq_true rfl) ⟨Nat.le_of_ble_eq_true rfl, Nat.le_of_ble_eq_true rfl⟩ dX3_stepAll_21 (fun r_23 hr_23 => ?_)
      obtain ⟨hmr_23, hkr_23, her_23⟩ := hr_23
      refine yget (ci := 4) (k := 7) (v := .int (d_2.1 r_23 7)) (C := RX4) (T := TX4) (N := 11) C0 hK hP hmr_23 hkr_23 (by decide) rfl inlX4 (by decide) mW733 (fun _ h9 => h9) rfl dX3_stepAll_24 ?_
      refine lv_topi (fun z_24 ez_24 => ?_)
      refine lv_aload_n hx hb dX3_stepAll_27 rfl (lv_at hl 1 rfl) ?_
      refine lv_iload_n hx hb dX3_stepAll_28 rfl (lv_at hl 0 rfl) ?_
      refine yVrr (As := [.int v_1]) (rest := [.int z_24]) C0 (g_X3_walkAt l G S d_2 g0 v_1 hSh hm_g0 hk_g0) ok_X3_walkAt (mW735 : Cond.methodLink RX3 129 yX3_walkAt ∈ wsT) ⟨Nat.le_of_ble_eq_true rfl, Nat.le_of_ble_eq_true rfl⟩ hP hD hK hN hm_g0 hk_g0 (by decide) rfl rfl rfl hl.1 rfl (Nat.le_of_ble_eq_true rfl) ⟨Nat.le_of_ble_eq_true rfl, Nat.le_of_ble_eq_true rfl⟩ dX3_stepAll_29 (fun r_25 hr_25 => ?_)
      obtain ⟨hmr_25, hkr_25⟩ := hr_25
      refine yget (ci := 7) (k := 9) (v := .int (d_2.1 r_25 9)) (C := RX7) (T := TX7) (N := 18) C0 hK hP hmr_25 hkr_25 (by decide) rfl inlX7 (by decide) mW819 (fun _ h9 => h9) rfl dX3_stepAll_32 ?_
      refine lv_topi (fun z_26 ez_26 => ?_)
      refine lv_iadd hx hb dX3_stepAll_35 ?_
      refine lv_topi (fun z_27 ez_27 => ?_)
      refine lv_iload_n hx hb dX3_stepAll_36 rfl (lv_at hl 2 rfl) ?_
      refine lv_icmp_gt (tgt := 44) hx hb dX3_stepAll_37 (by decide) (fun c_28 => ?_) (fun c_28 => ?_)
      · refine lv_iconst (v := 0) hx hb dX3_stepAll_44 (by decide) ?_
        exact J45_7 0 ls _ ⟨rfl, lv_sub hl [0, 1, 2] rfl, Or.inl rfl⟩
      · refine lv_iconst (v := 1) hx hb dX3_stepAll_40 (by decide) ?_
        refine lv_goto (tgt := 45) hx hb dX3_stepAll_41 (by decide) ?_
        exact J45_7 1 ls _ ⟨rfl, lv_sub hl [0, 1, 2] rfl, Or.inr rfl⟩
theorem dX3_reachAt_0 : decode cX3_reachAt 0 = .ok (.iconst 0, 1) := by decide +kernel
theorem dX3_reachAt_1 : decode cX3_reachAt 1 = .ok (.istore_n 2, 1) := by decide +kernel
theorem dX3_reachAt_2 : decode cX3_reachAt 2 = .ok (.iload_n 2, 1) := by decide +kernel
theorem dX3_reachAt_3 : decode cX3_reachAt 3 = .ok (.bipush 8, 2) := by decide +kernel
theorem dX3_reachAt_5 : decode cX3_reachAt 5 = .ok (.if_icmp .ge 59, 3) := by decide +kernel
theorem dX3_reachAt_8 : decode cX3_reachAt 8 = .ok (.aload_n 0, 1) := by decide +kernel
theorem dX3_reachAt_9 : decode cX3_reachAt 9 = .ok (.dup, 1) := by decide +kernel
theorem dX3_reachAt_10 : decode cX3_reachAt 10 = .ok (.getfield 89, 3) := by decide +kernel
theorem dX3_reachAt_13 : decode cX3_reachAt 13 = .ok (.aload_n 0, 1) := by decide +kernel
theorem dX3_reachAt_14 : decode cX3_reachAt 14 = .ok (.iload_n 2, 1) := by decide +kernel
theorem dX3_reachAt_15 : decode cX3_reachAt 15 = .ok (.iload_n 1, 1) := by decide +kernel
theorem dX3_reachAt_16 : decode cX3_reachAt 16 = .ok (.invokevirtual 164, 3) := by decide +kernel
theorem dX3_reachAt_19 : decode cX3_reachAt 19 = .ok (.ifCond .eq 15, 3) := by decide +kernel
theorem dX3_reachAt_22 : decode cX3_reachAt 22 = .ok (.aload_n 0, 1) := by decide +kernel
theorem dX3_reachAt_23 : decode cX3_reachAt 23 = .ok (.iload_n 2, 1) := by decide +kernel
theorem dX3_reachAt_24 : decode cX3_reachAt 24 = .ok (.invokevirtual 129, 3) := by decide +kernel
theorem dX3_reachAt_27 : decode cX3_reachAt 27 = .ok (.getfield 171, 3) := by decide +kernel
theorem dX3_reachAt_30 : decode cX3_reachAt 30 = .ok (.i2l, 1) := by decide +kernel
theorem dX3_reachAt_31 : decode cX3_reachAt 31 = .ok (.goto 4, 3) := by decide +kernel
theorem dX3_reachAt_34 : decode cX3_reachAt 34 = .ok (.lconst 0, 1) := by decide +kernel
theorem dX3_reachAt_35 : decode cX3_reachAt 35 = .ok (.ladd, 1) := by decide +kernel
theorem dX3_reachAt_36 : decode cX3_reachAt 36 = .ok (.putfield 89, 3) := by decide +kernel
theorem dX3_reachAt_39 : decode cX3_reachAt 39 = .ok (.aload_n 0, 1) := by decide +kernel
theorem dX3_reachAt_40 : decode cX3_reachAt 40 = .ok (.getfield 89, 3) := by decide +kernel
theorem dX3_reachAt_43 : decode cX3_reachAt 43 = .ok (.aload_n 0, 1) := by decide +kernel
theorem dX3_reachAt_44 : decode cX3_reachAt 44 = .ok (.getfield 56, 3) := by decide +kernel
theorem dX3_reachAt_47 : decode cX3_reachAt 47 = .ok (.lcmp, 1) := by decide +kernel
theorem dX3_reachAt_48 : decode cX3_reachAt 48 = .ok (.ifCond .lt 10, 3) := by decide +kernel
theorem dX3_reachAt_51 : decode cX3_reachAt 51 = .ok (.aload_n 0, 1) := by decide +kernel
theorem dX3_reachAt_52 : decode cX3_reachAt 52 = .ok (.iload_n 1, 1) := by decide +kernel
theorem dX3_reachAt_53 : decode cX3_reachAt 53 = .ok (.iload_n 2, 1) := by decide +kernel
theorem dX3_reachAt_54 : decode cX3_reachAt 54 = .ok (.invokevirtual 97, 3) := by decide +kernel
theorem dX3_reachAt_57 : decode cX3_reachAt 57 = .ok (.return_, 1) := by decide +kernel
theorem dX3_reachAt_58 : decode cX3_reachAt 58 = .ok (.iinc 2 1, 3) := by decide +kernel
theorem dX3_reachAt_61 : decode cX3_reachAt 61 = .ok (.goto (-59), 3) := by decide +kernel
theorem dX3_reachAt_64 : decode cX3_reachAt 64 = .ok (.return_, 1) := by decide +kernel
set_option maxHeartbeats 4000000 in
set_option maxRecDepth 100000 in
theorem g_X3_reachAt (l : Launch) (G : xG) (S : yS) (d : yD) (g0 : Nat) (p0 : Int32) (hSh : ySh S) (hPo : yPo S d) (hm_g0 : g0 ∈ S.1) (hk_g0 : S.2.1 g0 = 3) : xWv l G yX3_reachAt cX3_reachAt 3 none 2 43 0 0 [.ref g0, .int p0] (yW G S d) (fun u : yD => yAg S [3, 5, 7, 22, 23] d u ∧ (yPo S d → yPo S u) ∧ (True)) (fun u => yW G S u) := by
  intro sz
  refine xstart (by decide) (Nat.le_of_ble_eq_true rfl) (fun p e s m args below meth c ls C0 hr hlocks hin hsz hP hK hD hN hl => ?_)
  obtain ⟨hx, hb, hml, hown, htl⟩ := id C0
  subst hsz
  have hD := hD.self (sz := s.heap.size)
  generalize hAe : va_A (yW G S d) s.heap.size = A at hD ⊢
  have hA : ∀ q : Nat, s.heap.size ≤ q → A q := fun q h => by rw [← hAe]; exact Or.inr h
  have hS : va_S A s.heap s.heap [] := va_S.rf
  have hg0 : yAg S [3, 5, 7, 22, 23] d d := yAg.rf
  have hl : lv_has ls 3 [(0, .ref g0), (1, .int p0)] := hl
  refine lv_iconst (v := 0) hx hb dX3_reachAt_0 (by decide) ?_
  refine lv_istore_n (lv' := [(2, .int 0), (0, .ref g0), (1, .int p0)]) hx hb dX3_reachAt_1 rfl hl (by decide) rfl (fun ls hl => ?_)
  refine yloop (σ := Int32 × yD) (fun x => (2147483647 - (x.1 : Int32).toInt).toNat) 2 (fun x H locs ls => va_P G.1 xcl (yW G S x.2) H ∧ va_D A (yW G S x.2) ∧ va_S A s.heap H locs ∧ yAg S [3, 5, 7, 22, 23] d x.2 ∧ yPo S x.2 ∧ lv_has ls 3 [(2, .int x.1), (0, .ref g0), (1, .int p0)]) (fun x H locs ls hI hnext_3 => ?_) (0, d) ⟨hP, hD, hS, hg0, hPo, lv_sub hl [0, 1, 2] rfl⟩
  obtain ⟨v_1, d_2⟩ := x
  obtain ⟨hP, hD, hS, hgd_2, hPod_2, hl⟩ := hI
  have hl : lv_has ls 3 [(2, .int v_1), (0, .ref g0), (1, .int p0)] := hl
  refine lv_iload_n hx hb dX3_reachAt_2 rfl (lv_at hl 0 rfl) ?_
  refine lv_bipush (v := 8) hx hb dX3_reachAt_3 (by decide) ?_
  refine lv_icmp_ge (tgt := 64) hx hb dX3_reachAt_5 (by decide) (fun c_5 => ?_) (fun c_5 => ?_)
  · exact W.vret hx hb hr (fun t ht hW => ⟨⟨d_2, rfl, ⟨hgd_2, (fun _ => hPod_2), trivial⟩, by rw [ht]; exact hP, hD⟩, hS.F ht⟩) hS.2.2 dX3_reachAt_64
  · refine lv_aload_n hx hb dX3_reachAt_8 rfl (lv_at hl 1 rfl) ?_
    refine lv_dup hx hb dX3_reachAt_9 rfl ?_
    refine yget (ci := 3) (k := 10) (v := .long (d_2.2.1 g0 10)) (C := RX3) (T := TX3) (N := 16) C0 hK hP hm_g0 hk_g0 (by decide) rfl inlX3 (by decide) mW723 (fun _ h9 => h9) rfl dX3_reachAt_10 ?_
    refine lv_topl (fun z_6 ez_6 => ?_)
    refine lv_aload_n hx hb dX3_reachAt_13 rfl (lv_at hl 1 rfl) ?_
    refine lv_iload_n hx hb dX3_reachAt_14 rfl (lv_at hl 0 rfl) ?_
    refine lv_iload_n hx hb dX3_reachAt_15 rfl (lv_at hl 2 rfl) ?_
    refine yVri (As := [.int v_1, .int p0]) (rest := [.long z_6, .ref g0]) C0 (g_X3_hasMinuteAt l G S d_2 g0 v_1 p0 hSh hm_g0 hk_g0) ok_X3_hasMinuteAt (mW825 : Cond.methodLink RX3 164 yX3_hasMinuteAt ∈ wsT) ⟨Nat.le_of_ble_eq_true rfl, Nat.le_of_ble_eq_true rfl⟩ hP hD hK hN hm_g0 hk_g0 (by decide) rfl rfl rfl hl.1 rfl (Nat.le_of_ble_eq_true rfl) ⟨Nat.le_of_ble_eq_true rfl, Nat.le_of_ble_eq_true rfl⟩ dX3_reachAt_16 (fun r_7 hr_7 => ?_)
    refine yjoinR (σ := Int64) 35 (fun x ls st => st = [.long x, .long z_6, .ref g0] ∧ lv_has ls 3 [(2, .int v_1), (0, .ref g0), (1, .int p0)]) (fun x ls st hI => ?_) (fun J35_8 => ?_)
    · obtain ⟨v_8, rfl⟩ : ∃ z, z = x := ⟨_, rfl⟩
      obtain ⟨rfl, hl⟩ := hI
      have hl : lv_has ls 3 [(2, .int v_1), (0, .ref g0), (1, .int p0)] := hl
      refine lv_ladd hx hb dX3_reachAt_35 ?_
      refine lv_topl (fun z_9 ez_9 => ?_)
      refine yputJ (ci := 3) (k := 10) (C := RX3) (T := TX3) (N := 16) C0 hK hP hD hS hm_g0 hk_g0 (by decide) rfl inlX3 tyX3 tyX3_ok nmX3 (by decide) mW723 (fun _ h9 => h9) rfl (by decide +kernel) (Nat.le_of_ble_eq_true rfl) ysj_3_10 dX3_reachAt_36 (fun H locs hP hD hS => ?_)
      obtain ⟨d_10, ed_10⟩ : ∃ z : yD, z = yj d_2 g0 10 z_9 := ⟨_, rfl⟩
      rw [← ed_10] at hP hD
      have hgd_10 : yAg S [3, 5, 7, 22, 23] d d_10 := by rw [ed_10]; exact yAg.j hgd_2 (by rw [hk_g0]; decide)
      have hPod_10 : yPo S d_10 := by rw [ed_10]; exact hPod_2
      refine lv_aload_n hx hb dX3_reachAt_39 rfl (lv_at hl 1 rfl) ?_
      refine yget (ci := 3) (k := 10) (v := .long (d_10.2.1 g0 10)) (C := RX3) (T := TX3) (N := 16) C0 hK hP hm_g0 hk_g0 (by decide) rfl inlX3 (by decide) mW723 (fun _ h9 => h9) rfl dX3_reachAt_40 ?_
      refine lv_topl (fun z_11 ez_11 => ?_)
      refine lv_aload_n hx hb dX3_reachAt_43 rfl (lv_at hl 1 rfl) ?_
      refine yget (ci := 3) (k := 9) (v := .long (d_10.2.1 g0 9)) (C := RX3) (T := TX3) (N := 16) C0 hK hP hm_g0 hk_g0 (by decide) rfl inlX3 (by decide) mW707 (fun _ h9 => h9) rfl dX3_reachAt_44 ?_
      refine lv_topl (fun z_12 ez_12 => ?_)
      refine W.lcmp hx hb dX3_reachAt_47 ?_
      refine lv_topi (fun z_13 ez_13 => ?_)
      refine lv_if_lt (tgt := 58) hx hb dX3_reachAt_48 (by decide) (fun c_14 => ?_) (fun c_14 => ?_)
      · refine lv_iinc (v := v_1 + 1) (lv' := [(2, .int (v_1 + 1)), (0, .ref g0), (1, .int p0)]) hx hb dX3_reachAt_58 hl (k := 0) rfl rfl (by decide) rfl (fun ls hl => ?_)
        refine lv_goto (tgt := 2) hx hb dX3_reachAt_61 (by decide) ?_
        exact hnext_3 (v_1 + 1, d_10) _ _ ls (xup c_5) ⟨hP, hD, hS, hgd_10, hPod_10, lv_sub hl [0, 1, 2] rfl⟩
      · refine lv_aload_n hx hb dX3_reachAt_51 rfl (lv_at hl 1 rfl) ?_
        refine lv_iload_n hx hb dX3_reachAt_52 rfl (lv_at hl 2 rfl) ?_
        refine lv_iload_n hx hb dX3_reachAt_53 rfl (lv_at hl 0 rfl) ?_
        refine yVwv (As := [.int p0, .int v_1]) (rest := []) C0 (g_X3_reach l G S d_10 g0 p0 v_1 hSh hPod_10 hm_g0 hk_g0) ok_X3_reach (mW809 : Cond.methodLink RX3 97 yX3_reach ∈ wsT) ⟨Nat.le_of_ble_eq_true rfl, Nat.le_of_ble_eq_true rfl⟩ hP hD hS hA hK hN hm_g0 hk_g0 (by decide) rfl rfl rfl hl.1 rfl (Nat.le_of_ble_eq_true rfl) ⟨Nat.le_of_ble_eq_true rfl, Nat.le_of_ble_eq_true rfl⟩ dX3_reachAt_54 (fun d_17 H locs hr_16 hP hD hS => ?_)
        obtain ⟨hgad_17, hpad_17, hxd_17⟩ := hr_16
        have hgd_17 : yAg S [3, 5, 7, 22, 23] d d_17 := yAg.tr hgd_10 hgad_17 (by first | decide | exact fun _ h => h)
        have hPod_17 : yPo S d_17 := hpad_17 hPod_10
        exact W.vret hx hb hr (fun t ht hW => ⟨⟨d_17, rfl, ⟨hgd_17, (fun _ => hPod_17), trivial⟩, by rw [ht]; exact hP, hD⟩, hS.F ht⟩) hS.2.2 dX3_reachAt_57
    refine lv_if_eq (tgt := 34) hx hb dX3_reachAt_19 (by decide) (fun c_18 => ?_) (fun c_18 => ?_)
    · refine lv_lconst (v := 0) hx hb dX3_reachAt_34 (by decide) ?_
      exact J35_8 0 ls _ ⟨rfl, lv_sub hl [0, 1, 2] rfl⟩
    · refine lv_aload_n hx hb dX3_reachAt_22 rfl (lv_at hl 1 rfl) ?_
      refine lv_iload_n hx hb dX3_reachAt_23 rfl (lv_at hl 0 rfl) ?_
      refine yVrr (As := [.int v_1]) (rest := [.long z_6, .ref g0]) C0 (g_X3_walkAt l G S d_2 g0 v_1 hSh hm_g0 hk_g0) ok_X3_walkAt (mW735 : Cond.methodLink RX3 129 yX3_walkAt ∈ wsT) ⟨Nat.le_of_ble_eq_true rfl, Nat.le_of_ble_eq_true rfl⟩ hP hD hK hN hm_g0 hk_g0 (by decide) rfl rfl rfl hl.1 rfl (Nat.le_of_ble_eq_true rfl) ⟨Nat.le_of_ble_eq_true rfl, Nat.le_of_ble_eq_true rfl⟩ dX3_reachAt_24 (fun r_19 hr_19 => ?_)
      obtain ⟨hmr_19, hkr_19⟩ := hr_19
      refine yget (ci := 7) (k := 16) (v := .int (d_2.1 r_19 16)) (C := RX7) (T := TX7) (N := 18) C0 hK hP hmr_19 hkr_19 (by decide) rfl inlX7 (by decide) mW833 (fun _ h9 => h9) rfl dX3_reachAt_27 ?_
      refine lv_topi (fun z_20 ez_20 => ?_)
      refine lv_i2l hx hb dX3_reachAt_30 rfl ?_
      refine lv_topl (fun z_21 ez_21 => ?_)
      refine lv_goto (tgt := 35) hx hb dX3_reachAt_31 (by decide) ?_
      exact J35_8 z_21 ls _ ⟨rfl, lv_sub hl [0, 1, 2] rfl⟩
theorem dX3_walkIn_0 : decode cX3_walkIn 0 = .ok (.aload_n 0, 1) := by decide +kernel
theorem dX3_walkIn_1 : decode cX3_walkIn 1 = .ok (.iload_n 1, 1) := by decide +kernel
theorem dX3_walkIn_2 : decode cX3_walkIn 2 = .ok (.invokevirtual 64, 3) := by decide +kernel
theorem dX3_walkIn_5 : decode cX3_walkIn 5 = .ok (.astore 4, 2) := by decide +kernel
theorem dX3_walkIn_7 : decode cX3_walkIn 7 = .ok (.aload_n 0, 1) := by decide +kernel
theorem dX3_walkIn_8 : decode cX3_walkIn 8 = .ok (.iload_n 1, 1) := by decide +kernel
theorem dX3_walkIn_9 : decode cX3_walkIn 9 = .ok (.invokevirtual 129, 3) := by decide +kernel
theorem dX3_walkIn_12 : decode cX3_walkIn 12 = .ok (.astore 5, 2) := by decide +kernel
theorem dX3_walkIn_14 : decode cX3_walkIn 14 = .ok (.aload 4, 2) := by decide +kernel
theorem dX3_walkIn_16 : decode cX3_walkIn 16 = .ok (.getfield 123, 3) := by decide +kernel
theorem dX3_walkIn_19 : decode cX3_walkIn 19 = .ok (.iload_n 2, 1) := by decide +kernel
theorem dX3_walkIn_20 : decode cX3_walkIn 20 = .ok (.aload 4, 2) := by decide +kernel
theorem dX3_walkIn_22 : decode cX3_walkIn 22 = .ok (.getfield 126, 3) := by decide +kernel
theorem dX3_walkIn_25 : decode cX3_walkIn 25 = .ok (.invokestatic 152, 3) := by decide +kernel
theorem dX3_walkIn_28 : decode cX3_walkIn 28 = .ok (.invokestatic 174, 3) := by decide +kernel
theorem dX3_walkIn_31 : decode cX3_walkIn 31 = .ok (.istore 6, 2) := by decide +kernel
theorem dX3_walkIn_33 : decode cX3_walkIn 33 = .ok (.aload 5, 2) := by decide +kernel
theorem dX3_walkIn_35 : decode cX3_walkIn 35 = .ok (.iload_n 1, 1) := by decide +kernel
theorem dX3_walkIn_36 : decode cX3_walkIn 36 = .ok (.iload 6, 2) := by decide +kernel
theorem dX3_walkIn_38 : decode cX3_walkIn 38 = .ok (.iload_n 3, 1) := by decide +kernel
theorem dX3_walkIn_39 : decode cX3_walkIn 39 = .ok (.aload 4, 2) := by decide +kernel
theorem dX3_walkIn_41 : decode cX3_walkIn 41 = .ok (.getfield 126, 3) := by decide +kernel
theorem dX3_walkIn_44 : decode cX3_walkIn 44 = .ok (.invokestatic 152, 3) := by decide +kernel
theorem dX3_walkIn_47 : decode cX3_walkIn 47 = .ok (.aload_n 0, 1) := by decide +kernel
theorem dX3_walkIn_48 : decode cX3_walkIn 48 = .ok (.iload_n 1, 1) := by decide +kernel
theorem dX3_walkIn_49 : decode cX3_walkIn 49 = .ok (.invokevirtual 177, 3) := by decide +kernel
theorem dX3_walkIn_52 : decode cX3_walkIn 52 = .ok (.aload_n 0, 1) := by decide +kernel
theorem dX3_walkIn_53 : decode cX3_walkIn 53 = .ok (.getfield 46, 3) := by decide +kernel
theorem dX3_walkIn_56 : decode cX3_walkIn 56 = .ok (.invokevirtual 133, 3) := by decide +kernel
theorem dX3_walkIn_59 : decode cX3_walkIn 59 = .ok (.aload 5, 2) := by decide +kernel
theorem dX3_walkIn_61 : decode cX3_walkIn 61 = .ok (.areturn, 1) := by decide +kernel
set_option maxHeartbeats 4000000 in
set_option maxRecDepth 100000 in
theorem g_X3_walkIn (l : Launch) (G : xG) (S : yS) (d : yD) (g0 : Nat) (p0 : Int32) (p1 : Int32) (p2 : Int32) (hSh : ySh S) (hPo : yPo S d) (hm_g0 : g0 ∈ S.1) (hk_g0 : S.2.1 g0 = 3) : yWr l G yX3_walkIn cX3_walkIn 7 (some (.object "LaytimeDesk$Walk")) 4 100 [.ref g0, .int p0, .int p1, .int p2] (yW G S d) (fun r (u : yD) => yAg S [3, 5, 7, 22, 23] d u ∧ (yPo S d → yPo S u) ∧ (r ∈ S.1 ∧ S.2.1 r = 7)) (fun u => yW G S u) := by
  intro sz
  refine xstart (by decide) (Nat.le_of_ble_eq_true rfl) (fun p e s m args below meth c ls C0 hr hlocks hin hsz hP hK hD hN hl => ?_)
  obtain ⟨hx, hb, hml, hown, htl⟩ := id C0
  subst hsz
  have hD := hD.self (sz := s.heap.size)
  generalize hAe : va_A (yW G S d) s.heap.size = A at hD ⊢
  have hA : ∀ q : Nat, s.heap.size ≤ q → A q := fun q h => by rw [← hAe]; exact Or.inr h
  have hS : va_S A s.heap s.heap [] := va_S.rf
  have hg0 : yAg S [3, 5, 7, 22, 23] d d := yAg.rf
  have hl : lv_has ls 7 [(0, .ref g0), (1, .int p0), (2, .int p1), (3, .int p2)] := hl
  refine lv_aload_n hx hb dX3_walkIn_0 rfl (lv_at hl 0 rfl) ?_
  refine lv_iload_n hx hb dX3_walkIn_1 rfl (lv_at hl 1 rfl) ?_
  refine yVrr (As := [.int p0]) (rest := []) C0 (g_X3_stayAt l G S d g0 p0 hSh hm_g0 hk_g0) ok_X3_stayAt (mW716 : Cond.methodLink RX3 64 yX3_stayAt ∈ wsT) ⟨Nat.le_of_ble_eq_true rfl, Nat.le_of_ble_eq_true rfl⟩ hP hD hK hN hm_g0 hk_g0 (by decide) rfl rfl rfl hl.1 rfl (Nat.le_of_ble_eq_true rfl) ⟨Nat.le_of_ble_eq_true rfl, Nat.le_of_ble_eq_true rfl⟩ dX3_walkIn_2 (fun r_1 hr_1 => ?_)
  obtain ⟨hmr_1, hkr_1⟩ := hr_1
  refine lv_astore (lv' := [(4, .ref r_1), (0, .ref g0), (1, .int p0), (2, .int p1), (3, .int p2)]) hx hb dX3_walkIn_5 hl (by decide) rfl (fun ls hl => ?_)
  refine lv_aload_n hx hb dX3_walkIn_7 rfl (lv_at hl 1 rfl) ?_
  refine lv_iload_n hx hb dX3_walkIn_8 rfl (lv_at hl 2 rfl) ?_
  refine yVrr (As := [.int p0]) (rest := []) C0 (g_X3_walkAt l G S d g0 p0 hSh hm_g0 hk_g0) ok_X3_walkAt (mW735 : Cond.methodLink RX3 129 yX3_walkAt ∈ wsT) ⟨Nat.le_of_ble_eq_true rfl, Nat.le_of_ble_eq_true rfl⟩ hP hD hK hN hm_g0 hk_g0 (by decide) rfl rfl rfl hl.1 rfl (Nat.le_of_ble_eq_true rfl) ⟨Nat.le_of_ble_eq_true rfl, Nat.le_of_ble_eq_true rfl⟩ dX3_walkIn_9 (fun r_2 hr_2 => ?_)
  obtain ⟨hmr_2, hkr_2⟩ := hr_2
  refine lv_astore (lv' := [(5, .ref r_2), (4, .ref r_1), (0, .ref g0), (1, .int p0), (2, .int p1), (3, .int p2)]) hx hb dX3_walkIn_12 hl (by decide) rfl (fun ls hl => ?_)
  refine lv_aload hx hb dX3_walkIn_14 (lv_at hl 1 rfl) ?_
  refine yget (ci := 5) (k := 2) (v := .int (d.1 r_1 2)) (C := RX5) (T := TX5) (N := 7) C0 hK hP hmr_1 hkr_1 (by decide) rfl inlX5 (by decide) mW731 (fun _ h9 => h9) rfl dX3_walkIn_16 ?_
  refine lv_topi (fun z_3 ez_3 => ?_)
  refine lv_iload_n hx hb dX3_walkIn_19 rfl (lv_at hl 4 rfl) ?_
  refine lv_aload hx hb dX3_walkIn_20 (lv_at hl 1 rfl) ?_
  refine yget (ci := 5) (k := 3) (v := .int (d.1 r_1 3)) (C := RX5) (T := TX5) (N := 7) C0 hK hP hmr_1 hkr_1 (by decide) rfl inlX5 (by decide) mW732 (fun _ h9 => h9) rfl dX3_walkIn_22 ?_
  refine lv_topi (fun z_4 ez_4 => ?_)
  refine va_mmin hx hb (by rw [hml]; exact hl.1.symm) hown (htl (.methodLink RX3 152 Lib.Math.min.name) mW734) (htl (.static Lib.Math.min.name) mW203) (htl (.initialized "java/lang/Math") mW204) (htl (.code Lib.Math.min.name Lib.Math.min.code 2 (some .int)) mW205) (Nat.le_of_ble_eq_true rfl) (Nat.le_of_ble_eq_true rfl) (Nat.le_of_ble_eq_true rfl) (Nat.le_of_ble_eq_true rfl) dX3_walkIn_25 ?_
  refine lv_topi (fun z_5 ez_5 => ?_)
  refine va_mmax hx hb (by rw [hml]; exact hl.1.symm) hown (htl (.methodLink RX3 174 Lib.Math.max.name) mW846) (htl (.static Lib.Math.max.name) mW580) (htl (.initialized "java/lang/Math") mW204) (htl (.code Lib.Math.max.name Lib.Math.max.code 2 (some .int)) mW581) (Nat.le_of_ble_eq_true rfl) (Nat.le_of_ble_eq_true rfl) (Nat.le_of_ble_eq_true rfl) (Nat.le_of_ble_eq_true rfl) dX3_walkIn_28 ?_
  refine lv_topi (fun z_6 ez_6 => ?_)
  refine lv_istore (lv' := [(6, .int z_6), (5, .ref r_2), (4, .ref r_1), (0, .ref g0), (1, .int p0), (2, .int p1), (3, .int p2)]) hx hb dX3_walkIn_31 hl (by decide) rfl (fun ls hl => ?_)
  refine lv_aload hx hb dX3_walkIn_33 (lv_at hl 1 rfl) ?_
  refine lv_iload_n hx hb dX3_walkIn_35 rfl (lv_at hl 4 rfl) ?_
  refine lv_iload hx hb dX3_walkIn_36 (lv_at hl 0 rfl) ?_
  refine lv_iload_n hx hb dX3_walkIn_38 rfl (lv_at hl 6 rfl) ?_
  refine lv_aload hx hb dX3_walkIn_39 (lv_at hl 2 rfl) ?_
  refine yget (ci := 5) (k := 3) (v := .int (d.1 r_1 3)) (C := RX5) (T := TX5) (N := 7) C0 hK hP hmr_1 hkr_1 (by decide) rfl inlX5 (by decide) mW732 (fun _ h9 => h9) rfl dX3_walkIn_41 ?_
  refine lv_topi (fun z_7 ez_7 => ?_)
  refine va_mmin hx hb (by rw [hml]; exact hl.1.symm) hown (htl (.methodLink RX3 152 Lib.Math.min.name) mW734) (htl (.static Lib.Math.min.name) mW203) (htl (.initialized "java/lang/Math") mW204) (htl (.code Lib.Math.min.name Lib.Math.min.code 2 (some .int)) mW205) (Nat.le_of_ble_eq_true rfl) (Nat.le_of_ble_eq_true rfl) (Nat.le_of_ble_eq_true rfl) (Nat.le_of_ble_eq_true rfl) dX3_walkIn_44 ?_
  refine lv_topi (fun z_8 ez_8 => ?_)
  refine lv_aload_n hx hb dX3_walkIn_47 rfl (lv_at hl 3 rfl) ?_
  refine lv_iload_n hx hb dX3_walkIn_48 rfl (lv_at hl 4 rfl) ?_
  refine yVri (As := [.int p0]) (rest := [.int z_8, .int z_6, .int p0, .ref r_2]) C0 (g_X3_overFrom l G S d g0 p0 hSh hm_g0 hk_g0) ok_X3_overFrom (mW847 : Cond.methodLink RX3 177 yX3_overFrom ∈ wsT) ⟨Nat.le_of_ble_eq_true rfl, Nat.le_of_ble_eq_true rfl⟩ hP hD hK hN hm_g0 hk_g0 (by decide) rfl rfl rfl hl.1 rfl (Nat.le_of_ble_eq_true rfl) ⟨Nat.le_of_ble_eq_true rfl, Nat.le_of_ble_eq_true rfl⟩ dX3_walkIn_49 (fun r_9 hr_9 => ?_)
  refine lv_aload_n hx hb dX3_walkIn_52 rfl (lv_at hl 3 rfl) ?_
  refine yget (ci := 3) (k := 6) (v := .int (d.1 g0 6)) (C := RX3) (T := TX3) (N := 16) C0 hK hP hm_g0 hk_g0 (by decide) rfl inlX3 (by decide) mW704 (fun _ h9 => h9) rfl dX3_walkIn_53 ?_
  refine lv_topi (fun z_10 ez_10 => ?_)
  have hzz_10 : z_10 = 0 ∨ z_10 = 1 := by rw [ez_10]; exact yPo.b hPo hm_g0 hk_g0 rfl
  refine yVwv (As := [.int p0, .int z_6, .int z_8, .int r_9, .int z_10]) (rest := []) C0 (g_X7_start l G S d r_2 p0 z_6 z_8 r_9 z_10 hSh hPo hmr_2 hkr_2 hzz_10) ok_X7_start (mW739 : Cond.methodLink RX3 133 yX7_start ∈ wsT) ⟨Nat.le_of_ble_eq_true rfl, Nat.le_of_ble_eq_true rfl⟩ hP hD hS hA hK hN hmr_2 hkr_2 (by decide) rfl rfl rfl hl.1 rfl (Nat.le_of_ble_eq_true rfl) ⟨Nat.le_of_ble_eq_true rfl, Nat.le_of_ble_eq_true rfl⟩ dX3_walkIn_56 (fun d_12 H locs hr_11 hP hD hS => ?_)
  obtain ⟨hgad_12, hpad_12, hxd_12⟩ := hr_11
  have hgd_12 : yAg S [3, 5, 7, 22, 23] d d_12 := yAg.tr hg0 hgad_12 (by first | decide | exact fun _ h => h)
  have hPod_12 : yPo S d_12 := hpad_12 hPo
  refine lv_aload hx hb dX3_walkIn_59 (lv_at hl 1 rfl) ?_
  exact W.aret (v := .ref r_2) hx hb hr (Or.inl ⟨_, rfl⟩) (Or.inr ⟨_, rfl⟩) (fun t ht hW => ⟨⟨d_12, r_2, rfl, trivial, ⟨hgd_12, (fun _ => hPod_12), ⟨hmr_2, hkr_2⟩⟩, by rw [ht]; exact hP, hD⟩, hS.F ht⟩) hS.2.2 dX3_walkIn_61
theorem dX3_findOnce_0 : decode cX3_findOnce 0 = .ok (.aload_n 0, 1) := by decide +kernel
theorem dX3_findOnce_1 : decode cX3_findOnce 1 = .ok (.iconst 0, 1) := by decide +kernel
theorem dX3_findOnce_2 : decode cX3_findOnce 2 = .ok (.putfield 86, 3) := by decide +kernel
theorem dX3_findOnce_5 : decode cX3_findOnce 5 = .ok (.aload_n 0, 1) := by decide +kernel
theorem dX3_findOnce_6 : decode cX3_findOnce 6 = .ok (.lconst 0, 1) := by decide +kernel
theorem dX3_findOnce_7 : decode cX3_findOnce 7 = .ok (.putfield 89, 3) := by decide +kernel
theorem dX3_findOnce_10 : decode cX3_findOnce 10 = .ok (.aload_n 0, 1) := by decide +kernel
theorem dX3_findOnce_11 : decode cX3_findOnce 11 = .ok (.invokevirtual 92, 3) := by decide +kernel
theorem dX3_findOnce_14 : decode cX3_findOnce 14 = .ok (.istore_n 1, 1) := by decide +kernel
theorem dX3_findOnce_15 : decode cX3_findOnce 15 = .ok (.iload_n 1, 1) := by decide +kernel
theorem dX3_findOnce_16 : decode cX3_findOnce 16 = .ok (.ldc 96, 2) := by decide +kernel
theorem dX3_findOnce_18 : decode cX3_findOnce 18 = .ok (.if_icmp .ne 4, 3) := by decide +kernel
theorem dX3_findOnce_21 : decode cX3_findOnce 21 = .ok (.return_, 1) := by decide +kernel
theorem dX3_findOnce_22 : decode cX3_findOnce 22 = .ok (.aload_n 0, 1) := by decide +kernel
theorem dX3_findOnce_23 : decode cX3_findOnce 23 = .ok (.getfield 56, 3) := by decide +kernel
theorem dX3_findOnce_26 : decode cX3_findOnce 26 = .ok (.lconst 0, 1) := by decide +kernel
theorem dX3_findOnce_27 : decode cX3_findOnce 27 = .ok (.lcmp, 1) := by decide +kernel
theorem dX3_findOnce_28 : decode cX3_findOnce 28 = .ok (.ifCond .ne 13, 3) := by decide +kernel
theorem dX3_findOnce_31 : decode cX3_findOnce 31 = .ok (.aload_n 0, 1) := by decide +kernel
theorem dX3_findOnce_32 : decode cX3_findOnce 32 = .ok (.iload_n 1, 1) := by decide +kernel
theorem dX3_findOnce_33 : decode cX3_findOnce 33 = .ok (.iconst 1, 1) := by decide +kernel
theorem dX3_findOnce_34 : decode cX3_findOnce 34 = .ok (.isub, 1) := by decide +kernel
theorem dX3_findOnce_35 : decode cX3_findOnce 35 = .ok (.bipush 7, 2) := by decide +kernel
theorem dX3_findOnce_37 : decode cX3_findOnce 37 = .ok (.invokevirtual 97, 3) := by decide +kernel
theorem dX3_findOnce_40 : decode cX3_findOnce 40 = .ok (.return_, 1) := by decide +kernel
theorem dX3_findOnce_41 : decode cX3_findOnce 41 = .ok (.iconst 0, 1) := by decide +kernel
theorem dX3_findOnce_42 : decode cX3_findOnce 42 = .ok (.istore_n 2, 1) := by decide +kernel
theorem dX3_findOnce_43 : decode cX3_findOnce 43 = .ok (.iload_n 2, 1) := by decide +kernel
theorem dX3_findOnce_44 : decode cX3_findOnce 44 = .ok (.ldc 101, 2) := by decide +kernel
theorem dX3_findOnce_46 : decode cX3_findOnce 46 = .ok (.if_icmp .ge 120, 3) := by decide +kernel
theorem dX3_findOnce_49 : decode cX3_findOnce 49 = .ok (.aload_n 0, 1) := by decide +kernel
theorem dX3_findOnce_50 : decode cX3_findOnce 50 = .ok (.getfield 43, 3) := by decide +kernel
theorem dX3_findOnce_53 : decode cX3_findOnce 53 = .ok (.ifCond .eq 113, 3) := by decide +kernel
theorem dX3_findOnce_56 : decode cX3_findOnce 56 = .ok (.aload_n 0, 1) := by decide +kernel
theorem dX3_findOnce_57 : decode cX3_findOnce 57 = .ok (.iload_n 1, 1) := by decide +kernel
theorem dX3_findOnce_58 : decode cX3_findOnce 58 = .ok (.invokevirtual 102, 3) := by decide +kernel
theorem dX3_findOnce_61 : decode cX3_findOnce 61 = .ok (.istore_n 3, 1) := by decide +kernel
theorem dX3_findOnce_62 : decode cX3_findOnce 62 = .ok (.aload_n 0, 1) := by decide +kernel
theorem dX3_findOnce_63 : decode cX3_findOnce 63 = .ok (.iload_n 1, 1) := by decide +kernel
theorem dX3_findOnce_64 : decode cX3_findOnce 64 = .ok (.invokevirtual 106, 3) := by decide +kernel
theorem dX3_findOnce_67 : decode cX3_findOnce 67 = .ok (.lstore 4, 2) := by decide +kernel
theorem dX3_findOnce_69 : decode cX3_findOnce 69 = .ok (.lload 4, 2) := by decide +kernel
theorem dX3_findOnce_71 : decode cX3_findOnce 71 = .ok (.lconst 0, 1) := by decide +kernel
theorem dX3_findOnce_72 : decode cX3_findOnce 72 = .ok (.lcmp, 1) := by decide +kernel
theorem dX3_findOnce_73 : decode cX3_findOnce 73 = .ok (.ifCond .le 64, 3) := by decide +kernel
theorem dX3_findOnce_76 : decode cX3_findOnce 76 = .ok (.aload_n 0, 1) := by decide +kernel
theorem dX3_findOnce_77 : decode cX3_findOnce 77 = .ok (.getfield 89, 3) := by decide +kernel
theorem dX3_findOnce_80 : decode cX3_findOnce 80 = .ok (.lload 4, 2) := by decide +kernel
theorem dX3_findOnce_82 : decode cX3_findOnce 82 = .ok (.iload_n 3, 1) := by decide +kernel
theorem dX3_findOnce_83 : decode cX3_findOnce 83 = .ok (.iload_n 1, 1) := by decide +kernel
theorem dX3_findOnce_84 : decode cX3_findOnce 84 = .ok (.isub, 1) := by decide +kernel
theorem dX3_findOnce_85 : decode cX3_findOnce 85 = .ok (.i2l, 1) := by decide +kernel
theorem dX3_findOnce_86 : decode cX3_findOnce 86 = .ok (.lmul, 1) := by decide +kernel
theorem dX3_findOnce_87 : decode cX3_findOnce 87 = .ok (.ladd, 1) := by decide +kernel
theorem dX3_findOnce_88 : decode cX3_findOnce 88 = .ok (.aload_n 0, 1) := by decide +kernel
theorem dX3_findOnce_89 : decode cX3_findOnce 89 = .ok (.getfield 56, 3) := by decide +kernel
theorem dX3_findOnce_92 : decode cX3_findOnce 92 = .ok (.lcmp, 1) := by decide +kernel
theorem dX3_findOnce_93 : decode cX3_findOnce 93 = .ok (.ifCond .lt 44, 3) := by decide +kernel
theorem dX3_findOnce_96 : decode cX3_findOnce 96 = .ok (.aload_n 0, 1) := by decide +kernel
theorem dX3_findOnce_97 : decode cX3_findOnce 97 = .ok (.getfield 56, 3) := by decide +kernel
theorem dX3_findOnce_100 : decode cX3_findOnce 100 = .ok (.aload_n 0, 1) := by decide +kernel
theorem dX3_findOnce_101 : decode cX3_findOnce 101 = .ok (.getfield 89, 3) := by decide +kernel
theorem dX3_findOnce_104 : decode cX3_findOnce 104 = .ok (.lsub, 1) := by decide +kernel
theorem dX3_findOnce_105 : decode cX3_findOnce 105 = .ok (.lconst 1, 1) := by decide +kernel
theorem dX3_findOnce_106 : decode cX3_findOnce 106 = .ok (.lsub, 1) := by decide +kernel
theorem dX3_findOnce_107 : decode cX3_findOnce 107 = .ok (.lload 4, 2) := by decide +kernel
theorem dX3_findOnce_109 : decode cX3_findOnce 109 = .ok (.ldiv, 1) := by decide +kernel
theorem dX3_findOnce_110 : decode cX3_findOnce 110 = .ok (.l2i, 1) := by decide +kernel
theorem dX3_findOnce_111 : decode cX3_findOnce 111 = .ok (.istore 6, 2) := by decide +kernel
theorem dX3_findOnce_113 : decode cX3_findOnce 113 = .ok (.aload_n 0, 1) := by decide +kernel
theorem dX3_findOnce_114 : decode cX3_findOnce 114 = .ok (.dup, 1) := by decide +kernel
theorem dX3_findOnce_115 : decode cX3_findOnce 115 = .ok (.getfield 89, 3) := by decide +kernel
theorem dX3_findOnce_118 : decode cX3_findOnce 118 = .ok (.lload 4, 2) := by decide +kernel
theorem dX3_findOnce_120 : decode cX3_findOnce 120 = .ok (.iload 6, 2) := by decide +kernel
theorem dX3_findOnce_122 : decode cX3_findOnce 122 = .ok (.i2l, 1) := by decide +kernel
theorem dX3_findOnce_123 : decode cX3_findOnce 123 = .ok (.lmul, 1) := by decide +kernel
theorem dX3_findOnce_124 : decode cX3_findOnce 124 = .ok (.ladd, 1) := by decide +kernel
theorem dX3_findOnce_125 : decode cX3_findOnce 125 = .ok (.putfield 89, 3) := by decide +kernel
theorem dX3_findOnce_128 : decode cX3_findOnce 128 = .ok (.aload_n 0, 1) := by decide +kernel
theorem dX3_findOnce_129 : decode cX3_findOnce 129 = .ok (.iload_n 1, 1) := by decide +kernel
theorem dX3_findOnce_130 : decode cX3_findOnce 130 = .ok (.iload 6, 2) := by decide +kernel
theorem dX3_findOnce_132 : decode cX3_findOnce 132 = .ok (.iadd, 1) := by decide +kernel
theorem dX3_findOnce_133 : decode cX3_findOnce 133 = .ok (.invokevirtual 110, 3) := by decide +kernel
theorem dX3_findOnce_136 : decode cX3_findOnce 136 = .ok (.return_, 1) := by decide +kernel
theorem dX3_findOnce_137 : decode cX3_findOnce 137 = .ok (.aload_n 0, 1) := by decide +kernel
theorem dX3_findOnce_138 : decode cX3_findOnce 138 = .ok (.dup, 1) := by decide +kernel
theorem dX3_findOnce_139 : decode cX3_findOnce 139 = .ok (.getfield 89, 3) := by decide +kernel
theorem dX3_findOnce_142 : decode cX3_findOnce 142 = .ok (.lload 4, 2) := by decide +kernel
theorem dX3_findOnce_144 : decode cX3_findOnce 144 = .ok (.iload_n 3, 1) := by decide +kernel
theorem dX3_findOnce_145 : decode cX3_findOnce 145 = .ok (.iload_n 1, 1) := by decide +kernel
theorem dX3_findOnce_146 : decode cX3_findOnce 146 = .ok (.isub, 1) := by decide +kernel
theorem dX3_findOnce_147 : decode cX3_findOnce 147 = .ok (.i2l, 1) := by decide +kernel
theorem dX3_findOnce_148 : decode cX3_findOnce 148 = .ok (.lmul, 1) := by decide +kernel
theorem dX3_findOnce_149 : decode cX3_findOnce 149 = .ok (.ladd, 1) := by decide +kernel
theorem dX3_findOnce_150 : decode cX3_findOnce 150 = .ok (.putfield 89, 3) := by decide +kernel
theorem dX3_findOnce_153 : decode cX3_findOnce 153 = .ok (.iload_n 3, 1) := by decide +kernel
theorem dX3_findOnce_154 : decode cX3_findOnce 154 = .ok (.istore_n 1, 1) := by decide +kernel
theorem dX3_findOnce_155 : decode cX3_findOnce 155 = .ok (.aload_n 0, 1) := by decide +kernel
theorem dX3_findOnce_156 : decode cX3_findOnce 156 = .ok (.iload_n 1, 1) := by decide +kernel
theorem dX3_findOnce_157 : decode cX3_findOnce 157 = .ok (.invokevirtual 114, 3) := by decide +kernel
theorem dX3_findOnce_160 : decode cX3_findOnce 160 = .ok (.iinc 2 1, 3) := by decide +kernel
theorem dX3_findOnce_163 : decode cX3_findOnce 163 = .ok (.goto (-120), 3) := by decide +kernel
theorem dX3_findOnce_166 : decode cX3_findOnce 166 = .ok (.return_, 1) := by decide +kernel
set_option maxHeartbeats 4000000 in
set_option maxRecDepth 100000 in
theorem g_X3_findOnce (l : Launch) (G : xG) (S : yS) (d : yD) (g0 : Nat) (hSh : ySh S) (hPo : yPo S d) (hm_g0 : g0 ∈ S.1) (hk_g0 : S.2.1 g0 = 3) : xWv l G yX3_findOnce cX3_findOnce 7 none 5 123 0 0 [.ref g0] (yW G S d) (fun u : yD => yAg S [3, 5, 7, 22, 23] d u ∧ (yPo S d → yPo S u) ∧ (True)) (fun u => yW G S u) := by
  intro sz
  refine xstart (by decide) (Nat.le_of_ble_eq_true rfl) (fun p e s m args below meth c ls C0 hr hlocks hin hsz hP hK hD hN hl => ?_)
  obtain ⟨hx, hb, hml, hown, htl⟩ := id C0
  subst hsz
  have hD := hD.self (sz := s.heap.size)
  generalize hAe : va_A (yW G S d) s.heap.size = A at hD ⊢
  have hA : ∀ q : Nat, s.heap.size ≤ q → A q := fun q h => by rw [← hAe]; exact Or.inr h
  have hS : va_S A s.heap s.heap [] := va_S.rf
  have hg0 : yAg S [3, 5, 7, 22, 23] d d := yAg.rf
  have hl : lv_has ls 7 [(0, .ref g0)] := hl
  refine lv_aload_n hx hb dX3_findOnce_0 rfl (lv_at hl 0 rfl) ?_
  refine lv_iconst (v := 0) hx hb dX3_findOnce_1 (by decide) ?_
  refine yputI (ci := 3) (k := 12) (ty := .boolean) (C := RX3) (T := TX3) (N := 16) C0 hK hP hD hS hm_g0 hk_g0 (by decide) rfl inlX3 tyX3 tyX3_ok nmX3 (by decide) mW722 (fun _ h9 => h9) rfl (by decide +kernel) rfl rfl (Nat.le_of_ble_eq_true rfl) ysi_3_12 dX3_findOnce_2 (fun H locs hP hD hS => ?_)
  obtain ⟨d_1, ed_1⟩ : ∃ z : yD, z = yi d g0 12 0 := ⟨_, rfl⟩
  rw [← ed_1] at hP hD
  have hgd_1 : yAg S [3, 5, 7, 22, 23] d d_1 := by rw [ed_1]; exact yAg.i hg0 (by rw [hk_g0]; decide)
  have hPod_1 : yPo S d_1 := by rw [ed_1]; exact yPo.i hPo hk_g0 (Or.inr (Or.inl rfl))
  refine lv_aload_n hx hb dX3_findOnce_5 rfl (lv_at hl 0 rfl) ?_
  refine lv_lconst (v := 0) hx hb dX3_findOnce_6 (by decide) ?_
  refine yputJ (ci := 3) (k := 10) (C := RX3) (T := TX3) (N := 16) C0 hK hP hD hS hm_g0 hk_g0 (by decide) rfl inlX3 tyX3 tyX3_ok nmX3 (by decide) mW723 (fun _ h9 => h9) rfl (by decide +kernel) (Nat.le_of_ble_eq_true rfl) ysj_3_10 dX3_findOnce_7 (fun H locs hP hD hS => ?_)
  obtain ⟨d_2, ed_2⟩ : ∃ z : yD, z = yj d_1 g0 10 0 := ⟨_, rfl⟩
  rw [← ed_2] at hP hD
  have hgd_2 : yAg S [3, 5, 7, 22, 23] d d_2 := by rw [ed_2]; exact yAg.j hgd_1 (by rw [hk_g0]; decide)
  have hPod_2 : yPo S d_2 := by rw [ed_2]; exact hPod_1
  refine lv_aload_n hx hb dX3_findOnce_10 rfl (lv_at hl 0 rfl) ?_
  refine yVwi (As := []) (rest := []) C0 (g_X3_startAll l G S d_2 g0 hSh hPod_2 hm_g0 hk_g0) ok_X3_startAll (mW727 : Cond.methodLink RX3 92 yX3_startAll ∈ wsT) ⟨Nat.le_of_ble_eq_true rfl, Nat.le_of_ble_eq_true rfl⟩ hP hD hS hA hK hN hm_g0 hk_g0 (by decide) rfl rfl rfl hl.1 rfl (Nat.le_of_ble_eq_true rfl) ⟨Nat.le_of_ble_eq_true rfl, Nat.le_of_ble_eq_true rfl⟩ dX3_findOnce_11 (fun r_3 d_4 H locs hr_3 hP hD hS => ?_)
  obtain ⟨hgad_4, hpad_4, hxd_4⟩ := hr_3
  have hgd_4 : yAg S [3, 5, 7, 22, 23] d d_4 := yAg.tr hgd_2 hgad_4 (by first | decide | exact fun _ h => h)
  have hPod_4 : yPo S d_4 := hpad_4 hPod_2
  refine lv_istore_n (lv' := [(1, .int r_3), (0, .ref g0)]) hx hb dX3_findOnce_14 rfl hl (by decide) rfl (fun ls hl => ?_)
  refine lv_iload_n hx hb dX3_findOnce_15 rfl (lv_at hl 0 rfl) ?_
  refine lv_ldc (v := 2000000000) hx hb hown (htl (.constant RX3 96 (2000000000)) mW724) dX3_findOnce_16 ?_
  refine lv_icmp_ne (tgt := 22) hx hb dX3_findOnce_18 (by decide) (fun c_5 => ?_) (fun c_5 => ?_)
  · refine lv_aload_n hx hb dX3_findOnce_22 rfl (lv_at hl 1 rfl) ?_
    refine yget (ci := 3) (k := 9) (v := .long (d_4.2.1 g0 9)) (C := RX3) (T := TX3) (N := 16) C0 hK hP hm_g0 hk_g0 (by decide) rfl inlX3 (by decide) mW707 (fun _ h9 => h9) rfl dX3_findOnce_23 ?_
    refine lv_topl (fun z_6 ez_6 => ?_)
    refine lv_lconst (v := 0) hx hb dX3_findOnce_26 (by decide) ?_
    refine W.lcmp hx hb dX3_findOnce_27 ?_
    refine lv_topi (fun z_7 ez_7 => ?_)
    refine lv_if_ne (tgt := 41) hx hb dX3_findOnce_28 (by decide) (fun c_8 => ?_) (fun c_8 => ?_)
    · refine lv_iconst (v := 0) hx hb dX3_findOnce_41 (by decide) ?_
      refine lv_istore_n (lv' := [(2, .int 0), (1, .int r_3), (0, .ref g0)]) hx hb dX3_findOnce_42 rfl hl (by decide) rfl (fun ls hl => ?_)
      refine yloop (σ := Int32 × Int32 × yD) (fun x => (2147483647 - (x.2.1 : Int32).toInt).toNat) 43 (fun x H locs ls => va_P G.1 xcl (yW G S x.2.2) H ∧ va_D A (yW G S x.2.2) ∧ va_S A s.heap H locs ∧ yAg S [3, 5, 7, 22, 23] d x.2.2 ∧ yPo S x.2.2 ∧ lv_has ls 7 [(2, .int x.2.1), (1, .int x.1), (0, .ref g0)]) (fun x H locs ls hI hnext_12 => ?_) (r_3, 0, d_4) ⟨hP, hD, hS, hgd_4, hPod_4, lv_sub hl [0, 1, 2] rfl⟩
      obtain ⟨v_9, v_10, d_11⟩ := x
      obtain ⟨hP, hD, hS, hgd_11, hPod_11, hl⟩ := hI
      have hl : lv_has ls 7 [(2, .int v_10), (1, .int v_9), (0, .ref g0)] := hl
      refine lv_iload_n hx hb dX3_findOnce_43 rfl (lv_at hl 0 rfl) ?_
      refine lv_ldc (v := 2000000) hx hb hown (htl (.constant RX3 101 (2000000)) mW725) dX3_findOnce_44 ?_
      refine lv_icmp_ge (tgt := 166) hx hb dX3_findOnce_46 (by decide) (fun c_14 => ?_) (fun c_14 => ?_)
      · exact W.vret hx hb hr (fun t ht hW => ⟨⟨d_11, rfl, ⟨hgd_11, (fun _ => hPod_11), trivial⟩, by rw [ht]; exact hP, hD⟩, hS.F ht⟩) hS.2.2 dX3_findOnce_166
      · refine lv_aload_n hx hb dX3_findOnce_49 rfl (lv_at hl 2 rfl) ?_
        refine yget (ci := 3) (k := 15) (v := .int (d_11.1 g0 15)) (C := RX3) (T := TX3) (N := 16) C0 hK hP hm_g0 hk_g0 (by decide) rfl inlX3 (by decide) mW726 (fun _ h9 => h9) rfl dX3_findOnce_50 ?_
        refine lv_topi (fun z_15 ez_15 => ?_)
        refine lv_if_eq (tgt := 166) hx hb dX3_findOnce_53 (by decide) (fun c_16 => ?_) (fun c_16 => ?_)
        · exact W.vret hx hb hr (fun t ht hW => ⟨⟨d_11, rfl, ⟨hgd_11, (fun _ => hPod_11), trivial⟩, by rw [ht]; exact hP, hD⟩, hS.F ht⟩) hS.2.2 dX3_findOnce_166
        · refine lv_aload_n hx hb dX3_findOnce_56 rfl (lv_at hl 2 rfl) ?_
          refine lv_iload_n hx hb dX3_findOnce_57 rfl (lv_at hl 1 rfl) ?_
          refine yVri (As := [.int v_9]) (rest := []) C0 (g_X3_nextChange l G S d_11 g0 v_9 hSh hm_g0 hk_g0) ok_X3_nextChange (mW815 : Cond.methodLink RX3 102 yX3_nextChange ∈ wsT) ⟨Nat.le_of_ble_eq_true rfl, Nat.le_of_ble_eq_true rfl⟩ hP hD hK hN hm_g0 hk_g0 (by decide) rfl rfl rfl hl.1 rfl (Nat.le_of_ble_eq_true rfl) ⟨Nat.le_of_ble_eq_true rfl, Nat.le_of_ble_eq_true rfl⟩ dX3_findOnce_58 (fun r_17 hr_17 => ?_)
          refine lv_istore_n (lv' := [(3, .int r_17), (2, .int v_10), (1, .int v_9), (0, .ref g0)]) hx hb dX3_findOnce_61 rfl hl (by decide) rfl (fun ls hl => ?_)
          refine lv_aload_n hx hb dX3_findOnce_62 rfl (lv_at hl 3 rfl) ?_
          refine lv_iload_n hx hb dX3_findOnce_63 rfl (lv_at hl 2 rfl) ?_
          refine yVrl (As := [.int v_9]) (rest := []) C0 (g_X3_halvesAt l G S d_11 g0 v_9 hSh hPod_11 hm_g0 hk_g0) ok_X3_halvesAt (mW829 : Cond.methodLink RX3 106 yX3_halvesAt ∈ wsT) ⟨Nat.le_of_ble_eq_true rfl, Nat.le_of_ble_eq_true rfl⟩ hP hD hK hN hm_g0 hk_g0 (by decide) rfl rfl rfl hl.1 rfl (Nat.le_of_ble_eq_true rfl) ⟨Nat.le_of_ble_eq_true rfl, Nat.le_of_ble_eq_true rfl⟩ dX3_findOnce_64 (fun r_18 hr_18 => ?_)
          refine lv_lstore (lv' := [(4, .long r_18), (3, .int r_17), (2, .int v_10), (1, .int v_9), (0, .ref g0)]) hx hb dX3_findOnce_67 hl (by decide) rfl (fun ls hl => ?_)
          refine lv_lload hx hb dX3_findOnce_69 (lv_at hl 0 rfl) ?_
          refine lv_lconst (v := 0) hx hb dX3_findOnce_71 (by decide) ?_
          refine W.lcmp hx hb dX3_findOnce_72 ?_
          refine lv_topi (fun z_19 ez_19 => ?_)
          refine lv_if_le (tgt := 137) hx hb dX3_findOnce_73 (by decide) (fun c_20 => ?_) (fun c_20 => ?_)
          · refine lv_aload_n hx hb dX3_findOnce_137 rfl (lv_at hl 4 rfl) ?_
            refine lv_dup hx hb dX3_findOnce_138 rfl ?_
            refine yget (ci := 3) (k := 10) (v := .long (d_11.2.1 g0 10)) (C := RX3) (T := TX3) (N := 16) C0 hK hP hm_g0 hk_g0 (by decide) rfl inlX3 (by decide) mW723 (fun _ h9 => h9) rfl dX3_findOnce_139 ?_
            refine lv_topl (fun z_21 ez_21 => ?_)
            refine lv_lload hx hb dX3_findOnce_142 (lv_at hl 0 rfl) ?_
            refine lv_iload_n hx hb dX3_findOnce_144 rfl (lv_at hl 1 rfl) ?_
            refine lv_iload_n hx hb dX3_findOnce_145 rfl (lv_at hl 3 rfl) ?_
            refine lv_isub hx hb dX3_findOnce_146 ?_
            refine lv_topi (fun z_22 ez_22 => ?_)
            refine lv_i2l hx hb dX3_findOnce_147 rfl ?_
            refine lv_topl (fun z_23 ez_23 => ?_)
            refine lv_lmul hx hb dX3_findOnce_148 ?_
            refine lv_topl (fun z_24 ez_24 => ?_)
            refine lv_ladd hx hb dX3_findOnce_149 ?_
            refine lv_topl (fun z_25 ez_25 => ?_)
            refine yputJ (ci := 3) (k := 10) (C := RX3) (T := TX3) (N := 16) C0 hK hP hD hS hm_g0 hk_g0 (by decide) rfl inlX3 tyX3 tyX3_ok nmX3 (by decide) mW723 (fun _ h9 => h9) rfl (by decide +kernel) (Nat.le_of_ble_eq_true rfl) ysj_3_10 dX3_findOnce_150 (fun H locs hP hD hS => ?_)
            obtain ⟨d_26, ed_26⟩ : ∃ z : yD, z = yj d_11 g0 10 z_25 := ⟨_, rfl⟩
            rw [← ed_26] at hP hD
            have hgd_26 : yAg S [3, 5, 7, 22, 23] d d_26 := by rw [ed_26]; exact yAg.j hgd_11 (by rw [hk_g0]; decide)
            have hPod_26 : yPo S d_26 := by rw [ed_26]; exact hPod_11
            refine lv_iload_n hx hb dX3_findOnce_153 rfl (lv_at hl 1 rfl) ?_
            refine lv_istore_n (lv' := [(1, .int r_17), (4, .long r_18), (3, .int r_17), (2, .int v_10), (0, .ref g0)]) hx hb dX3_findOnce_154 rfl hl (by decide) rfl (fun ls hl => ?_)
            refine lv_aload_n hx hb dX3_findOnce_155 rfl (lv_at hl 4 rfl) ?_
            refine lv_iload_n hx hb dX3_findOnce_156 rfl (lv_at hl 0 rfl) ?_
            refine yVwv (As := [.int r_17]) (rest := []) C0 (g_X3_stepAll l G S d_26 g0 r_17 hSh hPod_26 hm_g0 hk_g0) ok_X3_stepAll (mW838 : Cond.methodLink RX3 114 yX3_stepAll ∈ wsT) ⟨Nat.le_of_ble_eq_true rfl, Nat.le_of_ble_eq_true rfl⟩ hP hD hS hA hK hN hm_g0 hk_g0 (by decide) rfl rfl rfl hl.1 rfl (Nat.le_of_ble_eq_true rfl) ⟨Nat.le_of_ble_eq_true rfl, Nat.le_of_ble_eq_true rfl⟩ dX3_findOnce_157 (fun d_28 H locs hr_27 hP hD hS => ?_)
            obtain ⟨hgad_28, hpad_28, hxd_28⟩ := hr_27
            have hgd_28 : yAg S [3, 5, 7, 22, 23] d d_28 := yAg.tr hgd_26 hgad_28 (by first | decide | exact fun _ h => h)
            have hPod_28 : yPo S d_28 := hpad_28 hPod_26
            refine lv_iinc (v := v_10 + 1) (lv' := [(2, .int (v_10 + 1)), (1, .int r_17), (4, .long r_18), (3, .int r_17), (0, .ref g0)]) hx hb dX3_findOnce_160 hl (k := 3) rfl rfl (by decide) rfl (fun ls hl => ?_)
            refine lv_goto (tgt := 43) hx hb dX3_findOnce_163 (by decide) ?_
            exact hnext_12 (r_17, v_10 + 1, d_28) _ _ ls (xup c_14) ⟨hP, hD, hS, hgd_28, hPod_28, lv_sub hl [0, 1, 4] rfl⟩
          · refine lv_aload_n hx hb dX3_findOnce_76 rfl (lv_at hl 4 rfl) ?_
            refine yget (ci := 3) (k := 10) (v := .long (d_11.2.1 g0 10)) (C := RX3) (T := TX3) (N := 16) C0 hK hP hm_g0 hk_g0 (by decide) rfl inlX3 (by decide) mW723 (fun _ h9 => h9) rfl dX3_findOnce_77 ?_
            refine lv_topl (fun z_30 ez_30 => ?_)
            refine lv_lload hx hb dX3_findOnce_80 (lv_at hl 0 rfl) ?_
            refine lv_iload_n hx hb dX3_findOnce_82 rfl (lv_at hl 1 rfl) ?_
            refine lv_iload_n hx hb dX3_findOnce_83 rfl (lv_at hl 3 rfl) ?_
            refine lv_isub hx hb dX3_findOnce_84 ?_
            refine lv_topi (fun z_31 ez_31 => ?_)
            refine lv_i2l hx hb dX3_findOnce_85 rfl ?_
            refine lv_topl (fun z_32 ez_32 => ?_)
            refine lv_lmul hx hb dX3_findOnce_86 ?_
            refine lv_topl (fun z_33 ez_33 => ?_)
            refine lv_ladd hx hb dX3_findOnce_87 ?_
            refine lv_topl (fun z_34 ez_34 => ?_)
            refine lv_aload_n hx hb dX3_findOnce_88 rfl (lv_at hl 4 rfl) ?_
            refine yget (ci := 3) (k := 9) (v := .long (d_11.2.1 g0 9)) (C := RX3) (T := TX3) (N := 16) C0 hK hP hm_g0 hk_g0 (by decide) rfl inlX3 (by decide) mW707 (fun _ h9 => h9) rfl dX3_findOnce_89 ?_
            refine lv_topl (fun z_35 ez_35 => ?_)
            refine W.lcmp hx hb dX3_findOnce_92 ?_
            refine lv_topi (fun z_36 ez_36 => ?_)
            refine lv_if_lt (tgt := 137) hx hb dX3_findOnce_93 (by decide) (fun c_37 => ?_) (fun c_37 => ?_)
            · refine lv_aload_n hx hb dX3_findOnce_137 rfl (lv_at hl 4 rfl) ?_
              refine lv_dup hx hb dX3_findOnce_138 rfl ?_
              refine yget (ci := 3) (k := 10) (v := .long (d_11.2.1 g0 10)) (C := RX3) (T := TX3) (N := 16) C0 hK hP hm_g0 hk_g0 (by decide) rfl inlX3 (by decide) mW723 (fun _ h9 => h9) rfl dX3_findOnce_139 ?_
              refine lv_topl (fun z_38 ez_38 => ?_)
              refine lv_lload hx hb dX3_findOnce_142 (lv_at hl 0 rfl) ?_
              refine lv_iload_n hx hb dX3_findOnce_144 rfl (lv_at hl 1 rfl) ?_
              refine lv_iload_n hx hb dX3_findOnce_145 rfl (lv_at hl 3 rfl) ?_
              refine lv_isub hx hb dX3_findOnce_146 ?_
              refine lv_topi (fun z_39 ez_39 => ?_)
              refine lv_i2l hx hb dX3_findOnce_147 rfl ?_
              refine lv_topl (fun z_40 ez_40 => ?_)
              refine lv_lmul hx hb dX3_findOnce_148 ?_
              refine lv_topl (fun z_41 ez_41 => ?_)
              refine lv_ladd hx hb dX3_findOnce_149 ?_
              refine lv_topl (fun z_42 ez_42 => ?_)
              refine yputJ (ci := 3) (k := 10) (C := RX3) (T := TX3) (N := 16) C0 hK hP hD hS hm_g0 hk_g0 (by decide) rfl inlX3 tyX3 tyX3_ok nmX3 (by decide) mW723 (fun _ h9 => h9) rfl (by decide +kernel) (Nat.le_of_ble_eq_true rfl) ysj_3_10 dX3_findOnce_150 (fun H locs hP hD hS => ?_)
              obtain ⟨d_43, ed_43⟩ : ∃ z : yD, z = yj d_11 g0 10 z_42 := ⟨_, rfl⟩
              rw [← ed_43] at hP hD
              have hgd_43 : yAg S [3, 5, 7, 22, 23] d d_43 := by rw [ed_43]; exact yAg.j hgd_11 (by rw [hk_g0]; decide)
              have hPod_43 : yPo S d_43 := by rw [ed_43]; exact hPod_11
              refine lv_iload_n hx hb dX3_findOnce_153 rfl (lv_at hl 1 rfl) ?_
              refine lv_istore_n (lv' := [(1, .int r_17), (4, .long r_18), (3, .int r_17), (2, .int v_10), (0, .ref g0)]) hx hb dX3_findOnce_154 rfl hl (by decide) rfl (fun ls hl => ?_)
              refine lv_aload_n hx hb dX3_findOnce_155 rfl (lv_at hl 4 rfl) ?_
              refine lv_iload_n hx hb dX3_findOnce_156 rfl (lv_at hl 0 rfl) ?_
              refine yVwv (As := [.int r_17]) (rest := []) C0 (g_X3_stepAll l G S d_43 g0 r_17 hSh hPod_43 hm_g0 hk_g0) ok_X3_stepAll (mW838 : Cond.methodLink RX3 114 yX3_stepAll ∈ wsT) ⟨Nat.le_of_ble_eq_true rfl, Nat.le_of_ble_eq_true rfl⟩ hP hD hS hA hK hN hm_g0 hk_g0 (by decide) rfl rfl rfl hl.1 rfl (Nat.le_of_ble_eq_true rfl) ⟨Nat.le_of_ble_eq_true rfl, Nat.le_of_ble_eq_true rfl⟩ dX3_findOnce_157 (fun d_45 H locs hr_44 hP hD hS => ?_)
              obtain ⟨hgad_45, hpad_45, hxd_45⟩ := hr_44
              have hgd_45 : yAg S [3, 5, 7, 22, 23] d d_45 := yAg.tr hgd_43 hgad_45 (by first | decide | exact fun _ h => h)
              have hPod_45 : yPo S d_45 := hpad_45 hPod_43
              refine lv_iinc (v := v_10 + 1) (lv' := [(2, .int (v_10 + 1)), (1, .int r_17), (4, .long r_18), (3, .int r_17), (0, .ref g0)]) hx hb dX3_findOnce_160 hl (k := 3) rfl rfl (by decide) rfl (fun ls hl => ?_)
              refine lv_goto (tgt := 43) hx hb dX3_findOnce_163 (by decide) ?_
              exact hnext_12 (r_17, v_10 + 1, d_45) _ _ ls (xup c_14) ⟨hP, hD, hS, hgd_45, hPod_45, lv_sub hl [0, 1, 4] rfl⟩
            · refine lv_aload_n hx hb dX3_findOnce_96 rfl (lv_at hl 4 rfl) ?_
              refine yget (ci := 3) (k := 9) (v := .long (d_11.2.1 g0 9)) (C := RX3) (T := TX3) (N := 16) C0 hK hP hm_g0 hk_g0 (by decide) rfl inlX3 (by decide) mW707 (fun _ h9 => h9) rfl dX3_findOnce_97 ?_
              refine lv_topl (fun z_47 ez_47 => ?_)
              refine lv_aload_n hx hb dX3_findOnce_100 rfl (lv_at hl 4 rfl) ?_
              refine yget (ci := 3) (k := 10) (v := .long (d_11.2.1 g0 10)) (C := RX3) (T := TX3) (N := 16) C0 hK hP hm_g0 hk_g0 (by decide) rfl inlX3 (by decide) mW723 (fun _ h9 => h9) rfl dX3_findOnce_101 ?_
              refine lv_topl (fun z_48 ez_48 => ?_)
              refine lv_lsub hx hb dX3_findOnce_104 ?_
              refine lv_topl (fun z_49 ez_49 => ?_)
              refine lv_lconst (v := 1) hx hb dX3_findOnce_105 (by decide) ?_
              refine lv_lsub hx hb dX3_findOnce_106 ?_
              refine lv_topl (fun z_50 ez_50 => ?_)
              refine lv_lload hx hb dX3_findOnce_107 (lv_at hl 0 rfl) ?_
              refine lv_ldiv hx hb dX3_findOnce_109 (by intro h0; have h1 := ez_19; rw [h0] at h1; exact c_20 (by rw [h1]; decide +kernel)) ?_
              refine lv_topl (fun z_51 ez_51 => ?_)
              refine lv_l2i hx hb dX3_findOnce_110 rfl ?_
              refine lv_topi (fun z_52 ez_52 => ?_)
              refine lv_istore (lv' := [(6, .int z_52), (4, .long r_18), (3, .int r_17), (2, .int v_10), (1, .int v_9), (0, .ref g0)]) hx hb dX3_findOnce_111 hl (by decide) rfl (fun ls hl => ?_)
              refine lv_aload_n hx hb dX3_findOnce_113 rfl (lv_at hl 5 rfl) ?_
              refine lv_dup hx hb dX3_findOnce_114 rfl ?_
              refine yget (ci := 3) (k := 10) (v := .long (d_11.2.1 g0 10)) (C := RX3) (T := TX3) (N := 16) C0 hK hP hm_g0 hk_g0 (by decide) rfl inlX3 (by decide) mW723 (fun _ h9 => h9) rfl dX3_findOnce_115 ?_
              refine lv_topl (fun z_53 ez_53 => ?_)
              refine lv_lload hx hb dX3_findOnce_118 (lv_at hl 1 rfl) ?_
              refine lv_iload hx hb dX3_findOnce_120 (lv_at hl 0 rfl) ?_
              refine lv_i2l hx hb dX3_findOnce_122 rfl ?_
              refine lv_topl (fun z_54 ez_54 => ?_)
              refine lv_lmul hx hb dX3_findOnce_123 ?_
              refine lv_topl (fun z_55 ez_55 => ?_)
              refine lv_ladd hx hb dX3_findOnce_124 ?_
              refine lv_topl (fun z_56 ez_56 => ?_)
              refine yputJ (ci := 3) (k := 10) (C := RX3) (T := TX3) (N := 16) C0 hK hP hD hS hm_g0 hk_g0 (by decide) rfl inlX3 tyX3 tyX3_ok nmX3 (by decide) mW723 (fun _ h9 => h9) rfl (by decide +kernel) (Nat.le_of_ble_eq_true rfl) ysj_3_10 dX3_findOnce_125 (fun H locs hP hD hS => ?_)
              obtain ⟨d_57, ed_57⟩ : ∃ z : yD, z = yj d_11 g0 10 z_56 := ⟨_, rfl⟩
              rw [← ed_57] at hP hD
              have hgd_57 : yAg S [3, 5, 7, 22, 23] d d_57 := by rw [ed_57]; exact yAg.j hgd_11 (by rw [hk_g0]; decide)
              have hPod_57 : yPo S d_57 := by rw [ed_57]; exact hPod_11
              refine lv_aload_n hx hb dX3_findOnce_128 rfl (lv_at hl 5 rfl) ?_
              refine lv_iload_n hx hb dX3_findOnce_129 rfl (lv_at hl 4 rfl) ?_
              refine lv_iload hx hb dX3_findOnce_130 (lv_at hl 0 rfl) ?_
              refine lv_iadd hx hb dX3_findOnce_132 ?_
              refine lv_topi (fun z_58 ez_58 => ?_)
              refine yVwv (As := [.int z_58]) (rest := []) C0 (g_X3_reachAt l G S d_57 g0 z_58 hSh hPod_57 hm_g0 hk_g0) ok_X3_reachAt (mW834 : Cond.methodLink RX3 110 yX3_reachAt ∈ wsT) ⟨Nat.le_of_ble_eq_true rfl, Nat.le_of_ble_eq_true rfl⟩ hP hD hS hA hK hN hm_g0 hk_g0 (by decide) rfl rfl rfl hl.1 rfl (Nat.le_of_ble_eq_true rfl) ⟨Nat.le_of_ble_eq_true rfl, Nat.le_of_ble_eq_true rfl⟩ dX3_findOnce_133 (fun d_60 H locs hr_59 hP hD hS => ?_)
              obtain ⟨hgad_60, hpad_60, hxd_60⟩ := hr_59
              have hgd_60 : yAg S [3, 5, 7, 22, 23] d d_60 := yAg.tr hgd_57 hgad_60 (by first | decide | exact fun _ h => h)
              have hPod_60 : yPo S d_60 := hpad_60 hPod_57
              exact W.vret hx hb hr (fun t ht hW => ⟨⟨d_60, rfl, ⟨hgd_60, (fun _ => hPod_60), trivial⟩, by rw [ht]; exact hP, hD⟩, hS.F ht⟩) hS.2.2 dX3_findOnce_136
    · refine lv_aload_n hx hb dX3_findOnce_31 rfl (lv_at hl 1 rfl) ?_
      refine lv_iload_n hx hb dX3_findOnce_32 rfl (lv_at hl 0 rfl) ?_
      refine lv_iconst (v := 1) hx hb dX3_findOnce_33 (by decide) ?_
      refine lv_isub hx hb dX3_findOnce_34 ?_
      refine lv_topi (fun z_61 ez_61 => ?_)
      refine lv_bipush (v := 7) hx hb dX3_findOnce_35 (by decide) ?_
      refine yVwv (As := [.int z_61, .int 7]) (rest := []) C0 (g_X3_reach l G S d_4 g0 z_61 7 hSh hPod_4 hm_g0 hk_g0) ok_X3_reach (mW809 : Cond.methodLink RX3 97 yX3_reach ∈ wsT) ⟨Nat.le_of_ble_eq_true rfl, Nat.le_of_ble_eq_true rfl⟩ hP hD hS hA hK hN hm_g0 hk_g0 (by decide) rfl rfl rfl hl.1 rfl (Nat.le_of_ble_eq_true rfl) ⟨Nat.le_of_ble_eq_true rfl, Nat.le_of_ble_eq_true rfl⟩ dX3_findOnce_37 (fun d_63 H locs hr_62 hP hD hS => ?_)
      obtain ⟨hgad_63, hpad_63, hxd_63⟩ := hr_62
      have hgd_63 : yAg S [3, 5, 7, 22, 23] d d_63 := yAg.tr hgd_4 hgad_63 (by first | decide | exact fun _ h => h)
      have hPod_63 : yPo S d_63 := hpad_63 hPod_4
      exact W.vret hx hb hr (fun t ht hW => ⟨⟨d_63, rfl, ⟨hgd_63, (fun _ => hPod_63), trivial⟩, by rw [ht]; exact hP, hD⟩, hS.F ht⟩) hS.2.2 dX3_findOnce_40
  · exact W.vret hx hb hr (fun t ht hW => ⟨⟨d_4, rfl, ⟨hgd_4, (fun _ => hPod_4), trivial⟩, by rw [ht]; exact hP, hD⟩, hS.F ht⟩) hS.2.2 dX3_findOnce_21
theorem dX3_halvesOf_0 : decode cX3_halvesOf 0 = .ok (.aload_n 0, 1) := by decide +kernel
theorem dX3_halvesOf_1 : decode cX3_halvesOf 1 = .ok (.iload_n 1, 1) := by decide +kernel
theorem dX3_halvesOf_2 : decode cX3_halvesOf 2 = .ok (.iload_n 2, 1) := by decide +kernel
theorem dX3_halvesOf_3 : decode cX3_halvesOf 3 = .ok (.iload_n 3, 1) := by decide +kernel
theorem dX3_halvesOf_4 : decode cX3_halvesOf 4 = .ok (.invokevirtual 180, 3) := by decide +kernel
theorem dX3_halvesOf_7 : decode cX3_halvesOf 7 = .ok (.astore 4, 2) := by decide +kernel
theorem dX3_halvesOf_9 : decode cX3_halvesOf 9 = .ok (.iconst 0, 1) := by decide +kernel
theorem dX3_halvesOf_10 : decode cX3_halvesOf 10 = .ok (.istore 5, 2) := by decide +kernel
theorem dX3_halvesOf_12 : decode cX3_halvesOf 12 = .ok (.iconst 0, 1) := by decide +kernel
theorem dX3_halvesOf_13 : decode cX3_halvesOf 13 = .ok (.istore 6, 2) := by decide +kernel
theorem dX3_halvesOf_15 : decode cX3_halvesOf 15 = .ok (.iload 6, 2) := by decide +kernel
theorem dX3_halvesOf_17 : decode cX3_halvesOf 17 = .ok (.ldc 101, 2) := by decide +kernel
theorem dX3_halvesOf_19 : decode cX3_halvesOf 19 = .ok (.if_icmp .ge 39, 3) := by decide +kernel
theorem dX3_halvesOf_22 : decode cX3_halvesOf 22 = .ok (.aload 4, 2) := by decide +kernel
theorem dX3_halvesOf_24 : decode cX3_halvesOf 24 = .ok (.invokevirtual 137, 3) := by decide +kernel
theorem dX3_halvesOf_27 : decode cX3_halvesOf 27 = .ok (.ifCond .eq 31, 3) := by decide +kernel
theorem dX3_halvesOf_30 : decode cX3_halvesOf 30 = .ok (.iload 5, 2) := by decide +kernel
theorem dX3_halvesOf_32 : decode cX3_halvesOf 32 = .ok (.aload 4, 2) := by decide +kernel
theorem dX3_halvesOf_34 : decode cX3_halvesOf 34 = .ok (.getfield 171, 3) := by decide +kernel
theorem dX3_halvesOf_37 : decode cX3_halvesOf 37 = .ok (.aload 4, 2) := by decide +kernel
theorem dX3_halvesOf_39 : decode cX3_halvesOf 39 = .ok (.getfield 161, 3) := by decide +kernel
theorem dX3_halvesOf_42 : decode cX3_halvesOf 42 = .ok (.aload 4, 2) := by decide +kernel
theorem dX3_halvesOf_44 : decode cX3_halvesOf 44 = .ok (.getfield 168, 3) := by decide +kernel
theorem dX3_halvesOf_47 : decode cX3_halvesOf 47 = .ok (.isub, 1) := by decide +kernel
theorem dX3_halvesOf_48 : decode cX3_halvesOf 48 = .ok (.imul, 1) := by decide +kernel
theorem dX3_halvesOf_49 : decode cX3_halvesOf 49 = .ok (.iadd, 1) := by decide +kernel
theorem dX3_halvesOf_50 : decode cX3_halvesOf 50 = .ok (.istore 5, 2) := by decide +kernel
theorem dX3_halvesOf_52 : decode cX3_halvesOf 52 = .ok (.iinc 6 1, 3) := by decide +kernel
theorem dX3_halvesOf_55 : decode cX3_halvesOf 55 = .ok (.goto (-40), 3) := by decide +kernel
theorem dX3_halvesOf_58 : decode cX3_halvesOf 58 = .ok (.iload 5, 2) := by decide +kernel
theorem dX3_halvesOf_60 : decode cX3_halvesOf 60 = .ok (.ireturn, 1) := by decide +kernel
set_option maxHeartbeats 4000000 in
set_option maxRecDepth 100000 in
theorem g_X3_halvesOf (l : Launch) (G : xG) (S : yS) (d : yD) (g0 : Nat) (p0 : Int32) (p1 : Int32) (p2 : Int32) (hSh : ySh S) (hPo : yPo S d) (hm_g0 : g0 ∈ S.1) (hk_g0 : S.2.1 g0 = 3) : xWi l G yX3_halvesOf cX3_halvesOf 7 (some .int) 5 126 0 0 [.ref g0, .int p0, .int p1, .int p2] (yW G S d) (fun r (u : yD) => yAg S [3, 5, 7, 22, 23] d u ∧ (yPo S d → yPo S u) ∧ (True)) (fun u => yW G S u) := by
  intro sz
  refine xstart (by decide) (Nat.le_of_ble_eq_true rfl) (fun p e s m args below meth c ls C0 hr hlocks hin hsz hP hK hD hN hl => ?_)
  obtain ⟨hx, hb, hml, hown, htl⟩ := id C0
  subst hsz
  have hD := hD.self (sz := s.heap.size)
  generalize hAe : va_A (yW G S d) s.heap.size = A at hD ⊢
  have hA : ∀ q : Nat, s.heap.size ≤ q → A q := fun q h => by rw [← hAe]; exact Or.inr h
  have hS : va_S A s.heap s.heap [] := va_S.rf
  have hg0 : yAg S [3, 5, 7, 22, 23] d d := yAg.rf
  have hl : lv_has ls 7 [(0, .ref g0), (1, .int p0), (2, .int p1), (3, .int p2)] := hl
  refine lv_aload_n hx hb dX3_halvesOf_0 rfl (lv_at hl 0 rfl) ?_
  refine lv_iload_n hx hb dX3_halvesOf_1 rfl (lv_at hl 1 rfl) ?_
  refine lv_iload_n hx hb dX3_halvesOf_2 rfl (lv_at hl 2 rfl) ?_
  refine lv_iload_n hx hb dX3_halvesOf_3 rfl (lv_at hl 3 rfl) ?_
  refine yVwr (As := [.int p0, .int p1, .int p2]) (rest := []) C0 (g_X3_walkIn l G S d g0 p0 p1 p2 hSh hPo hm_g0 hk_g0) ok_X3_walkIn (mW921 : Cond.methodLink RX3 180 yX3_walkIn ∈ wsT) ⟨Nat.le_of_ble_eq_true rfl, Nat.le_of_ble_eq_true rfl⟩ hP hD hS hA hK hN hm_g0 hk_g0 (by decide) rfl rfl rfl hl.1 rfl (Nat.le_of_ble_eq_true rfl) ⟨Nat.le_of_ble_eq_true rfl, Nat.le_of_ble_eq_true rfl⟩ dX3_halvesOf_4 (fun r_1 d_2 H locs hr_1 hP hD hS => ?_)
  obtain ⟨hgad_2, hpad_2, hxd_2⟩ := hr_1
  have hgd_2 : yAg S [3, 5, 7, 22, 23] d d_2 := yAg.tr hg0 hgad_2 (by first | decide | exact fun _ h => h)
  have hPod_2 : yPo S d_2 := hpad_2 hPo
  obtain ⟨hmr_1, hkr_1⟩ := hxd_2
  refine lv_astore (lv' := [(4, .ref r_1), (0, .ref g0), (1, .int p0), (2, .int p1), (3, .int p2)]) hx hb dX3_halvesOf_7 hl (by decide) rfl (fun ls hl => ?_)
  refine lv_iconst (v := 0) hx hb dX3_halvesOf_9 (by decide) ?_
  refine lv_istore (lv' := [(5, .int 0), (4, .ref r_1), (0, .ref g0), (1, .int p0), (2, .int p1), (3, .int p2)]) hx hb dX3_halvesOf_10 hl (by decide) rfl (fun ls hl => ?_)
  refine lv_iconst (v := 0) hx hb dX3_halvesOf_12 (by decide) ?_
  refine lv_istore (lv' := [(6, .int 0), (5, .int 0), (4, .ref r_1), (0, .ref g0), (1, .int p0), (2, .int p1), (3, .int p2)]) hx hb dX3_halvesOf_13 hl (by decide) rfl (fun ls hl => ?_)
  refine yloop (σ := Int32 × Int32 × yD) (fun x => (2147483647 - (x.2.1 : Int32).toInt).toNat) 15 (fun x H locs ls => va_P G.1 xcl (yW G S x.2.2) H ∧ va_D A (yW G S x.2.2) ∧ va_S A s.heap H locs ∧ yAg S [3, 5, 7, 22, 23] d x.2.2 ∧ yPo S x.2.2 ∧ lv_has ls 7 [(6, .int x.2.1), (5, .int x.1), (4, .ref r_1)]) (fun x H locs ls hI hnext_6 => ?_) (0, 0, d_2) ⟨hP, hD, hS, hgd_2, hPod_2, lv_sub hl [0, 1, 2] rfl⟩
  obtain ⟨v_3, v_4, d_5⟩ := x
  obtain ⟨hP, hD, hS, hgd_5, hPod_5, hl⟩ := hI
  have hl : lv_has ls 7 [(6, .int v_4), (5, .int v_3), (4, .ref r_1)] := hl
  refine lv_iload hx hb dX3_halvesOf_15 (lv_at hl 0 rfl) ?_
  refine lv_ldc (v := 2000000) hx hb hown (htl (.constant RX3 101 (2000000)) mW725) dX3_halvesOf_17 ?_
  refine lv_icmp_ge (tgt := 58) hx hb dX3_halvesOf_19 (by decide) (fun c_8 => ?_) (fun c_8 => ?_)
  · refine lv_iload hx hb dX3_halvesOf_58 (lv_at hl 1 rfl) ?_
    exact W.iret (v := v_3) hx hb hr (fun t ht hW => ⟨⟨v_3, d_5, rfl, ⟨hgd_5, (fun _ => hPod_5), trivial⟩, by rw [ht]; exact hP, hD⟩, hS.F ht⟩) hS.2.2 dX3_halvesOf_60
  · refine lv_aload hx hb dX3_halvesOf_22 (lv_at hl 2 rfl) ?_
    refine yVwi (As := []) (rest := []) C0 (g_X7_step l G S d_5 r_1 hSh hPod_5 hmr_1 hkr_1) ok_X7_step (mW760 : Cond.methodLink RX3 137 yX7_step ∈ wsT) ⟨Nat.le_of_ble_eq_true rfl, Nat.le_of_ble_eq_true rfl⟩ hP hD hS hA hK hN hmr_1 hkr_1 (by decide) rfl rfl rfl hl.1 rfl (Nat.le_of_ble_eq_true rfl) ⟨Nat.le_of_ble_eq_true rfl, Nat.le_of_ble_eq_true rfl⟩ dX3_halvesOf_24 (fun r_9 d_10 H locs hr_9 hP hD hS => ?_)
    obtain ⟨hgad_10, hpad_10, hxd_10⟩ := hr_9
    have hgd_10 : yAg S [3, 5, 7, 22, 23] d d_10 := yAg.tr hgd_5 hgad_10 (by first | decide | exact fun _ h => h)
    have hPod_10 : yPo S d_10 := hpad_10 hPod_5
    refine lv_if_eq (tgt := 58) hx hb dX3_halvesOf_27 (by decide) (fun c_11 => ?_) (fun c_11 => ?_)
    · refine lv_iload hx hb dX3_halvesOf_58 (lv_at hl 1 rfl) ?_
      exact W.iret (v := v_3) hx hb hr (fun t ht hW => ⟨⟨v_3, d_10, rfl, ⟨hgd_10, (fun _ => hPod_10), trivial⟩, by rw [ht]; exact hP, hD⟩, hS.F ht⟩) hS.2.2 dX3_halvesOf_60
    · refine lv_iload hx hb dX3_halvesOf_30 (lv_at hl 1 rfl) ?_
      refine lv_aload hx hb dX3_halvesOf_32 (lv_at hl 2 rfl) ?_
      refine yget (ci := 7) (k := 16) (v := .int (d_10.1 r_1 16)) (C := RX7) (T := TX7) (N := 18) C0 hK hP hmr_1 hkr_1 (by decide) rfl inlX7 (by decide) mW833 (fun _ h9 => h9) rfl dX3_halvesOf_34 ?_
      refine lv_topi (fun z_12 ez_12 => ?_)
      refine lv_aload hx hb dX3_halvesOf_37 (lv_at hl 2 rfl) ?_
      refine yget (ci := 7) (k := 9) (v := .int (d_10.1 r_1 9)) (C := RX7) (T := TX7) (N := 18) C0 hK hP hmr_1 hkr_1 (by decide) rfl inlX7 (by decide) mW819 (fun _ h9 => h9) rfl dX3_halvesOf_39 ?_
      refine lv_topi (fun z_13 ez_13 => ?_)
      refine lv_aload hx hb dX3_halvesOf_42 (lv_at hl 2 rfl) ?_
      refine yget (ci := 7) (k := 8) (v := .int (d_10.1 r_1 8)) (C := RX7) (T := TX7) (N := 18) C0 hK hP hmr_1 hkr_1 (by decide) rfl inlX7 (by decide) mW820 (fun _ h9 => h9) rfl dX3_halvesOf_44 ?_
      refine lv_topi (fun z_14 ez_14 => ?_)
      refine lv_isub hx hb dX3_halvesOf_47 ?_
      refine lv_topi (fun z_15 ez_15 => ?_)
      refine lv_imul hx hb dX3_halvesOf_48 ?_
      refine lv_topi (fun z_16 ez_16 => ?_)
      refine lv_iadd hx hb dX3_halvesOf_49 ?_
      refine lv_topi (fun z_17 ez_17 => ?_)
      refine lv_istore (lv' := [(5, .int z_17), (6, .int v_4), (4, .ref r_1)]) hx hb dX3_halvesOf_50 hl (by decide) rfl (fun ls hl => ?_)
      refine lv_iinc (v := v_4 + 1) (lv' := [(6, .int (v_4 + 1)), (5, .int z_17), (4, .ref r_1)]) hx hb dX3_halvesOf_52 hl (k := 1) rfl rfl (by decide) rfl (fun ls hl => ?_)
      refine lv_goto (tgt := 15) hx hb dX3_halvesOf_55 (by decide) ?_
      exact hnext_6 (z_17, v_4 + 1, d_10) _ _ ls (xup c_8) ⟨hP, hD, hS, hgd_10, hPod_10, lv_sub hl [0, 1, 2] rfl⟩
theorem dX3_minutesBy_0 : decode cX3_minutesBy 0 = .ok (.aload_n 0, 1) := by decide +kernel
theorem dX3_minutesBy_1 : decode cX3_minutesBy 1 = .ok (.iload_n 1, 1) := by decide +kernel
theorem dX3_minutesBy_2 : decode cX3_minutesBy 2 = .ok (.iconst 0, 1) := by decide +kernel
theorem dX3_minutesBy_3 : decode cX3_minutesBy 3 = .ok (.ldc 184, 2) := by decide +kernel
theorem dX3_minutesBy_5 : decode cX3_minutesBy 5 = .ok (.invokevirtual 180, 3) := by decide +kernel
theorem dX3_minutesBy_8 : decode cX3_minutesBy 8 = .ok (.astore_n 3, 1) := by decide +kernel
theorem dX3_minutesBy_9 : decode cX3_minutesBy 9 = .ok (.iconst 0, 1) := by decide +kernel
theorem dX3_minutesBy_10 : decode cX3_minutesBy 10 = .ok (.istore 4, 2) := by decide +kernel
theorem dX3_minutesBy_12 : decode cX3_minutesBy 12 = .ok (.iconst 0, 1) := by decide +kernel
theorem dX3_minutesBy_13 : decode cX3_minutesBy 13 = .ok (.istore 5, 2) := by decide +kernel
theorem dX3_minutesBy_15 : decode cX3_minutesBy 15 = .ok (.iload 5, 2) := by decide +kernel
theorem dX3_minutesBy_17 : decode cX3_minutesBy 17 = .ok (.ldc 101, 2) := by decide +kernel
theorem dX3_minutesBy_19 : decode cX3_minutesBy 19 = .ok (.if_icmp .ge 42, 3) := by decide +kernel
theorem dX3_minutesBy_22 : decode cX3_minutesBy 22 = .ok (.aload_n 3, 1) := by decide +kernel
theorem dX3_minutesBy_23 : decode cX3_minutesBy 23 = .ok (.invokevirtual 137, 3) := by decide +kernel
theorem dX3_minutesBy_26 : decode cX3_minutesBy 26 = .ok (.ifCond .eq 35, 3) := by decide +kernel
theorem dX3_minutesBy_29 : decode cX3_minutesBy 29 = .ok (.iload 4, 2) := by decide +kernel
theorem dX3_minutesBy_31 : decode cX3_minutesBy 31 = .ok (.aload_n 3, 1) := by decide +kernel
theorem dX3_minutesBy_32 : decode cX3_minutesBy 32 = .ok (.getfield 185, 3) := by decide +kernel
theorem dX3_minutesBy_35 : decode cX3_minutesBy 35 = .ok (.iload_n 2, 1) := by decide +kernel
theorem dX3_minutesBy_36 : decode cX3_minutesBy 36 = .ok (.if_icmp .ne 15, 3) := by decide +kernel
theorem dX3_minutesBy_39 : decode cX3_minutesBy 39 = .ok (.aload_n 3, 1) := by decide +kernel
theorem dX3_minutesBy_40 : decode cX3_minutesBy 40 = .ok (.getfield 161, 3) := by decide +kernel
theorem dX3_minutesBy_43 : decode cX3_minutesBy 43 = .ok (.aload_n 3, 1) := by decide +kernel
theorem dX3_minutesBy_44 : decode cX3_minutesBy 44 = .ok (.getfield 168, 3) := by decide +kernel
theorem dX3_minutesBy_47 : decode cX3_minutesBy 47 = .ok (.isub, 1) := by decide +kernel
theorem dX3_minutesBy_48 : decode cX3_minutesBy 48 = .ok (.goto 4, 3) := by decide +kernel
theorem dX3_minutesBy_51 : decode cX3_minutesBy 51 = .ok (.iconst 0, 1) := by decide +kernel
theorem dX3_minutesBy_52 : decode cX3_minutesBy 52 = .ok (.iadd, 1) := by decide +kernel
theorem dX3_minutesBy_53 : decode cX3_minutesBy 53 = .ok (.istore 4, 2) := by decide +kernel
theorem dX3_minutesBy_55 : decode cX3_minutesBy 55 = .ok (.iinc 5 1, 3) := by decide +kernel
theorem dX3_minutesBy_58 : decode cX3_minutesBy 58 = .ok (.goto (-43), 3) := by decide +kernel
theorem dX3_minutesBy_61 : decode cX3_minutesBy 61 = .ok (.iload 4, 2) := by decide +kernel
theorem dX3_minutesBy_63 : decode cX3_minutesBy 63 = .ok (.ireturn, 1) := by decide +kernel
set_option maxHeartbeats 4000000 in
set_option maxRecDepth 100000 in
theorem g_X3_minutesBy (l : Launch) (G : xG) (S : yS) (d : yD) (g0 : Nat) (p0 : Int32) (p1 : Int32) (hSh : ySh S) (hPo : yPo S d) (hm_g0 : g0 ∈ S.1) (hk_g0 : S.2.1 g0 = 3) : xWi l G yX3_minutesBy cX3_minutesBy 6 (some .int) 5 126 0 0 [.ref g0, .int p0, .int p1] (yW G S d) (fun r (u : yD) => yAg S [3, 5, 7, 22, 23] d u ∧ (yPo S d → yPo S u) ∧ (True)) (fun u => yW G S u) := by
  intro sz
  refine xstart (by decide) (Nat.le_of_ble_eq_true rfl) (fun p e s m args below meth c ls C0 hr hlocks hin hsz hP hK hD hN hl => ?_)
  obtain ⟨hx, hb, hml, hown, htl⟩ := id C0
  subst hsz
  have hD := hD.self (sz := s.heap.size)
  generalize hAe : va_A (yW G S d) s.heap.size = A at hD ⊢
  have hA : ∀ q : Nat, s.heap.size ≤ q → A q := fun q h => by rw [← hAe]; exact Or.inr h
  have hS : va_S A s.heap s.heap [] := va_S.rf
  have hg0 : yAg S [3, 5, 7, 22, 23] d d := yAg.rf
  have hl : lv_has ls 6 [(0, .ref g0), (1, .int p0), (2, .int p1)] := hl
  refine lv_aload_n hx hb dX3_minutesBy_0 rfl (lv_at hl 0 rfl) ?_
  refine lv_iload_n hx hb dX3_minutesBy_1 rfl (lv_at hl 1 rfl) ?_
  refine lv_iconst (v := 0) hx hb dX3_minutesBy_2 (by decide) ?_
  refine lv_ldc (v := 129600) hx hb hown (htl (.constant RX3 184 (129600)) mW937) dX3_minutesBy_3 ?_
  refine yVwr (As := [.int p0, .int 0, .int 129600]) (rest := []) C0 (g_X3_walkIn l G S d g0 p0 0 129600 hSh hPo hm_g0 hk_g0) ok_X3_walkIn (mW921 : Cond.methodLink RX3 180 yX3_walkIn ∈ wsT) ⟨Nat.le_of_ble_eq_true rfl, Nat.le_of_ble_eq_true rfl⟩ hP hD hS hA hK hN hm_g0 hk_g0 (by decide) rfl rfl rfl hl.1 rfl (Nat.le_of_ble_eq_true rfl) ⟨Nat.le_of_ble_eq_true rfl, Nat.le_of_ble_eq_true rfl⟩ dX3_minutesBy_5 (fun r_1 d_2 H locs hr_1 hP hD hS => ?_)
  obtain ⟨hgad_2, hpad_2, hxd_2⟩ := hr_1
  have hgd_2 : yAg S [3, 5, 7, 22, 23] d d_2 := yAg.tr hg0 hgad_2 (by first | decide | exact fun _ h => h)
  have hPod_2 : yPo S d_2 := hpad_2 hPo
  obtain ⟨hmr_1, hkr_1⟩ := hxd_2
  refine lv_astore_n (lv' := [(3, .ref r_1), (0, .ref g0), (1, .int p0), (2, .int p1)]) hx hb dX3_minutesBy_8 rfl hl (by decide) rfl (fun ls hl => ?_)
  refine lv_iconst (v := 0) hx hb dX3_minutesBy_9 (by decide) ?_
  refine lv_istore (lv' := [(4, .int 0), (3, .ref r_1), (0, .ref g0), (1, .int p0), (2, .int p1)]) hx hb dX3_minutesBy_10 hl (by decide) rfl (fun ls hl => ?_)
  refine lv_iconst (v := 0) hx hb dX3_minutesBy_12 (by decide) ?_
  refine lv_istore (lv' := [(5, .int 0), (4, .int 0), (3, .ref r_1), (0, .ref g0), (1, .int p0), (2, .int p1)]) hx hb dX3_minutesBy_13 hl (by decide) rfl (fun ls hl => ?_)
  refine yloop (σ := Int32 × Int32 × yD) (fun x => (2147483647 - (x.2.1 : Int32).toInt).toNat) 15 (fun x H locs ls => va_P G.1 xcl (yW G S x.2.2) H ∧ va_D A (yW G S x.2.2) ∧ va_S A s.heap H locs ∧ yAg S [3, 5, 7, 22, 23] d x.2.2 ∧ yPo S x.2.2 ∧ lv_has ls 6 [(5, .int x.2.1), (4, .int x.1), (3, .ref r_1), (2, .int p1)]) (fun x H locs ls hI hnext_6 => ?_) (0, 0, d_2) ⟨hP, hD, hS, hgd_2, hPod_2, lv_sub hl [0, 1, 2, 5] rfl⟩
  obtain ⟨v_3, v_4, d_5⟩ := x
  obtain ⟨hP, hD, hS, hgd_5, hPod_5, hl⟩ := hI
  have hl : lv_has ls 6 [(5, .int v_4), (4, .int v_3), (3, .ref r_1), (2, .int p1)] := hl
  refine lv_iload hx hb dX3_minutesBy_15 (lv_at hl 0 rfl) ?_
  refine lv_ldc (v := 2000000) hx hb hown (htl (.constant RX3 101 (2000000)) mW725) dX3_minutesBy_17 ?_
  refine lv_icmp_ge (tgt := 61) hx hb dX3_minutesBy_19 (by decide) (fun c_8 => ?_) (fun c_8 => ?_)
  · refine lv_iload hx hb dX3_minutesBy_61 (lv_at hl 1 rfl) ?_
    exact W.iret (v := v_3) hx hb hr (fun t ht hW => ⟨⟨v_3, d_5, rfl, ⟨hgd_5, (fun _ => hPod_5), trivial⟩, by rw [ht]; exact hP, hD⟩, hS.F ht⟩) hS.2.2 dX3_minutesBy_63
  · refine lv_aload_n hx hb dX3_minutesBy_22 rfl (lv_at hl 2 rfl) ?_
    refine yVwi (As := []) (rest := []) C0 (g_X7_step l G S d_5 r_1 hSh hPod_5 hmr_1 hkr_1) ok_X7_step (mW760 : Cond.methodLink RX3 137 yX7_step ∈ wsT) ⟨Nat.le_of_ble_eq_true rfl, Nat.le_of_ble_eq_true rfl⟩ hP hD hS hA hK hN hmr_1 hkr_1 (by decide) rfl rfl rfl hl.1 rfl (Nat.le_of_ble_eq_true rfl) ⟨Nat.le_of_ble_eq_true rfl, Nat.le_of_ble_eq_true rfl⟩ dX3_minutesBy_23 (fun r_9 d_10 H locs hr_9 hP hD hS => ?_)
    obtain ⟨hgad_10, hpad_10, hxd_10⟩ := hr_9
    have hgd_10 : yAg S [3, 5, 7, 22, 23] d d_10 := yAg.tr hgd_5 hgad_10 (by first | decide | exact fun _ h => h)
    have hPod_10 : yPo S d_10 := hpad_10 hPod_5
    refine lv_if_eq (tgt := 61) hx hb dX3_minutesBy_26 (by decide) (fun c_11 => ?_) (fun c_11 => ?_)
    · refine lv_iload hx hb dX3_minutesBy_61 (lv_at hl 1 rfl) ?_
      exact W.iret (v := v_3) hx hb hr (fun t ht hW => ⟨⟨v_3, d_10, rfl, ⟨hgd_10, (fun _ => hPod_10), trivial⟩, by rw [ht]; exact hP, hD⟩, hS.F ht⟩) hS.2.2 dX3_minutesBy_63
    · refine lv_iload hx hb dX3_minutesBy_29 (lv_at hl 1 rfl) ?_
      refine lv_aload_n hx hb dX3_minutesBy_31 rfl (lv_at hl 2 rfl) ?_
      refine yget (ci := 7) (k := 17) (v := .int (d_10.1 r_1 17)) (C := RX7) (T := TX7) (N := 18) C0 hK hP hmr_1 hkr_1 (by decide) rfl inlX7 (by decide) mW938 (fun _ h9 => h9) rfl dX3_minutesBy_32 ?_
      refine lv_topi (fun z_12 ez_12 => ?_)
      refine lv_iload_n hx hb dX3_minutesBy_35 rfl (lv_at hl 3 rfl) ?_
      refine lv_icmp_ne (tgt := 51) hx hb dX3_minutesBy_36 (by decide) (fun c_13 => ?_) (fun c_13 => ?_)
      · refine lv_iconst (v := 0) hx hb dX3_minutesBy_51 (by decide) ?_
        refine lv_iadd hx hb dX3_minutesBy_52 ?_
        refine lv_topi (fun z_14 ez_14 => ?_)
        refine lv_istore (lv' := [(4, .int z_14), (5, .int v_4), (3, .ref r_1), (2, .int p1)]) hx hb dX3_minutesBy_53 hl (by decide) rfl (fun ls hl => ?_)
        refine lv_iinc (v := v_4 + 1) (lv' := [(5, .int (v_4 + 1)), (4, .int z_14), (3, .ref r_1), (2, .int p1)]) hx hb dX3_minutesBy_55 hl (k := 1) rfl rfl (by decide) rfl (fun ls hl => ?_)
        refine lv_goto (tgt := 15) hx hb dX3_minutesBy_58 (by decide) ?_
        exact hnext_6 (z_14, v_4 + 1, d_10) _ _ ls (xup c_8) ⟨hP, hD, hS, hgd_10, hPod_10, lv_sub hl [0, 1, 2, 3] rfl⟩
      · refine lv_aload_n hx hb dX3_minutesBy_39 rfl (lv_at hl 2 rfl) ?_
        refine yget (ci := 7) (k := 9) (v := .int (d_10.1 r_1 9)) (C := RX7) (T := TX7) (N := 18) C0 hK hP hmr_1 hkr_1 (by decide) rfl inlX7 (by decide) mW819 (fun _ h9 => h9) rfl dX3_minutesBy_40 ?_
        refine lv_topi (fun z_16 ez_16 => ?_)
        refine lv_aload_n hx hb dX3_minutesBy_43 rfl (lv_at hl 2 rfl) ?_
        refine yget (ci := 7) (k := 8) (v := .int (d_10.1 r_1 8)) (C := RX7) (T := TX7) (N := 18) C0 hK hP hmr_1 hkr_1 (by decide) rfl inlX7 (by decide) mW820 (fun _ h9 => h9) rfl dX3_minutesBy_44 ?_
        refine lv_topi (fun z_17 ez_17 => ?_)
        refine lv_isub hx hb dX3_minutesBy_47 ?_
        refine lv_topi (fun z_18 ez_18 => ?_)
        refine lv_goto (tgt := 52) hx hb dX3_minutesBy_48 (by decide) ?_
        refine lv_iadd hx hb dX3_minutesBy_52 ?_
        refine lv_topi (fun z_19 ez_19 => ?_)
        refine lv_istore (lv' := [(4, .int z_19), (5, .int v_4), (3, .ref r_1), (2, .int p1)]) hx hb dX3_minutesBy_53 hl (by decide) rfl (fun ls hl => ?_)
        refine lv_iinc (v := v_4 + 1) (lv' := [(5, .int (v_4 + 1)), (4, .int z_19), (3, .ref r_1), (2, .int p1)]) hx hb dX3_minutesBy_55 hl (k := 1) rfl rfl (by decide) rfl (fun ls hl => ?_)
        refine lv_goto (tgt := 15) hx hb dX3_minutesBy_58 (by decide) ?_
        exact hnext_6 (z_19, v_4 + 1, d_10) _ _ ls (xup c_8) ⟨hP, hD, hS, hgd_10, hPod_10, lv_sub hl [0, 1, 2, 3] rfl⟩
theorem dX3_firstWrong_0 : decode cX3_firstWrong 0 = .ok (.aload_n 0, 1) := by decide +kernel
theorem dX3_firstWrong_1 : decode cX3_firstWrong 1 = .ok (.aload_n 1, 1) := by decide +kernel
theorem dX3_firstWrong_2 : decode cX3_firstWrong 2 = .ok (.getfield 188, 3) := by decide +kernel
theorem dX3_firstWrong_5 : decode cX3_firstWrong 5 = .ok (.iconst 0, 1) := by decide +kernel
theorem dX3_firstWrong_6 : decode cX3_firstWrong 6 = .ok (.ldc 184, 2) := by decide +kernel
theorem dX3_firstWrong_8 : decode cX3_firstWrong 8 = .ok (.invokevirtual 180, 3) := by decide +kernel
theorem dX3_firstWrong_11 : decode cX3_firstWrong 11 = .ok (.astore_n 2, 1) := by decide +kernel
theorem dX3_firstWrong_12 : decode cX3_firstWrong 12 = .ok (.iconst 0, 1) := by decide +kernel
theorem dX3_firstWrong_13 : decode cX3_firstWrong 13 = .ok (.istore_n 3, 1) := by decide +kernel
theorem dX3_firstWrong_14 : decode cX3_firstWrong 14 = .ok (.aload_n 1, 1) := by decide +kernel
theorem dX3_firstWrong_15 : decode cX3_firstWrong 15 = .ok (.getfield 193, 3) := by decide +kernel
theorem dX3_firstWrong_18 : decode cX3_firstWrong 18 = .ok (.iconst 0, 1) := by decide +kernel
theorem dX3_firstWrong_19 : decode cX3_firstWrong 19 = .ok (.invokestatic 197, 3) := by decide +kernel
theorem dX3_firstWrong_22 : decode cX3_firstWrong 22 = .ok (.istore 4, 2) := by decide +kernel
theorem dX3_firstWrong_24 : decode cX3_firstWrong 24 = .ok (.iconst 0, 1) := by decide +kernel
theorem dX3_firstWrong_25 : decode cX3_firstWrong 25 = .ok (.istore 5, 2) := by decide +kernel
theorem dX3_firstWrong_27 : decode cX3_firstWrong 27 = .ok (.iload 5, 2) := by decide +kernel
theorem dX3_firstWrong_29 : decode cX3_firstWrong 29 = .ok (.ldc 101, 2) := by decide +kernel
theorem dX3_firstWrong_31 : decode cX3_firstWrong 31 = .ok (.if_icmp .ge 120, 3) := by decide +kernel
theorem dX3_firstWrong_34 : decode cX3_firstWrong 34 = .ok (.aload_n 2, 1) := by decide +kernel
theorem dX3_firstWrong_35 : decode cX3_firstWrong 35 = .ok (.invokevirtual 137, 3) := by decide +kernel
theorem dX3_firstWrong_38 : decode cX3_firstWrong 38 = .ok (.ifCond .eq 113, 3) := by decide +kernel
theorem dX3_firstWrong_41 : decode cX3_firstWrong 41 = .ok (.aload_n 2, 1) := by decide +kernel
theorem dX3_firstWrong_42 : decode cX3_firstWrong 42 = .ok (.getfield 168, 3) := by decide +kernel
theorem dX3_firstWrong_45 : decode cX3_firstWrong 45 = .ok (.istore 6, 2) := by decide +kernel
theorem dX3_firstWrong_47 : decode cX3_firstWrong 47 = .ok (.iconst 0, 1) := by decide +kernel
theorem dX3_firstWrong_48 : decode cX3_firstWrong 48 = .ok (.istore 7, 2) := by decide +kernel
theorem dX3_firstWrong_50 : decode cX3_firstWrong 50 = .ok (.iload 7, 2) := by decide +kernel
theorem dX3_firstWrong_52 : decode cX3_firstWrong 52 = .ok (.sipush 500, 3) := by decide +kernel
theorem dX3_firstWrong_55 : decode cX3_firstWrong 55 = .ok (.if_icmp .gt 90, 3) := by decide +kernel
theorem dX3_firstWrong_58 : decode cX3_firstWrong 58 = .ok (.iload 6, 2) := by decide +kernel
theorem dX3_firstWrong_60 : decode cX3_firstWrong 60 = .ok (.aload_n 2, 1) := by decide +kernel
theorem dX3_firstWrong_61 : decode cX3_firstWrong 61 = .ok (.getfield 161, 3) := by decide +kernel
theorem dX3_firstWrong_64 : decode cX3_firstWrong 64 = .ok (.if_icmp .ge 81, 3) := by decide +kernel
theorem dX3_firstWrong_67 : decode cX3_firstWrong 67 = .ok (.iload_n 3, 1) := by decide +kernel
theorem dX3_firstWrong_68 : decode cX3_firstWrong 68 = .ok (.aload_n 1, 1) := by decide +kernel
theorem dX3_firstWrong_69 : decode cX3_firstWrong 69 = .ok (.getfield 201, 3) := by decide +kernel
theorem dX3_firstWrong_72 : decode cX3_firstWrong 72 = .ok (.if_icmp .ge 18, 3) := by decide +kernel
theorem dX3_firstWrong_75 : decode cX3_firstWrong 75 = .ok (.aload_n 1, 1) := by decide +kernel
theorem dX3_firstWrong_76 : decode cX3_firstWrong 76 = .ok (.getfield 204, 3) := by decide +kernel
theorem dX3_firstWrong_79 : decode cX3_firstWrong 79 = .ok (.iload_n 3, 1) := by decide +kernel
theorem dX3_firstWrong_80 : decode cX3_firstWrong 80 = .ok (.invokestatic 197, 3) := by decide +kernel
theorem dX3_firstWrong_83 : decode cX3_firstWrong 83 = .ok (.aload_n 2, 1) := by decide +kernel
theorem dX3_firstWrong_84 : decode cX3_firstWrong 84 = .ok (.getfield 185, 3) := by decide +kernel
theorem dX3_firstWrong_87 : decode cX3_firstWrong 87 = .ok (.if_icmp .eq 6, 3) := by decide +kernel
theorem dX3_firstWrong_90 : decode cX3_firstWrong 90 = .ok (.iload 6, 2) := by decide +kernel
theorem dX3_firstWrong_92 : decode cX3_firstWrong 92 = .ok (.ireturn, 1) := by decide +kernel
theorem dX3_firstWrong_93 : decode cX3_firstWrong 93 = .ok (.iload 4, 2) := by decide +kernel
theorem dX3_firstWrong_95 : decode cX3_firstWrong 95 = .ok (.aload_n 2, 1) := by decide +kernel
theorem dX3_firstWrong_96 : decode cX3_firstWrong 96 = .ok (.getfield 161, 3) := by decide +kernel
theorem dX3_firstWrong_99 : decode cX3_firstWrong 99 = .ok (.iload 6, 2) := by decide +kernel
theorem dX3_firstWrong_101 : decode cX3_firstWrong 101 = .ok (.isub, 1) := by decide +kernel
theorem dX3_firstWrong_102 : decode cX3_firstWrong 102 = .ok (.invokestatic 152, 3) := by decide +kernel
theorem dX3_firstWrong_105 : decode cX3_firstWrong 105 = .ok (.istore 8, 2) := by decide +kernel
theorem dX3_firstWrong_107 : decode cX3_firstWrong 107 = .ok (.iload 6, 2) := by decide +kernel
theorem dX3_firstWrong_109 : decode cX3_firstWrong 109 = .ok (.iload 8, 2) := by decide +kernel
theorem dX3_firstWrong_111 : decode cX3_firstWrong 111 = .ok (.iadd, 1) := by decide +kernel
theorem dX3_firstWrong_112 : decode cX3_firstWrong 112 = .ok (.istore 6, 2) := by decide +kernel
theorem dX3_firstWrong_114 : decode cX3_firstWrong 114 = .ok (.iload 4, 2) := by decide +kernel
theorem dX3_firstWrong_116 : decode cX3_firstWrong 116 = .ok (.iload 8, 2) := by decide +kernel
theorem dX3_firstWrong_118 : decode cX3_firstWrong 118 = .ok (.isub, 1) := by decide +kernel
theorem dX3_firstWrong_119 : decode cX3_firstWrong 119 = .ok (.istore 4, 2) := by decide +kernel
theorem dX3_firstWrong_121 : decode cX3_firstWrong 121 = .ok (.iload 4, 2) := by decide +kernel
theorem dX3_firstWrong_123 : decode cX3_firstWrong 123 = .ok (.ifCond .ne 16, 3) := by decide +kernel
theorem dX3_firstWrong_126 : decode cX3_firstWrong 126 = .ok (.iinc 3 1, 3) := by decide +kernel
theorem dX3_firstWrong_129 : decode cX3_firstWrong 129 = .ok (.aload_n 1, 1) := by decide +kernel
theorem dX3_firstWrong_130 : decode cX3_firstWrong 130 = .ok (.getfield 193, 3) := by decide +kernel
theorem dX3_firstWrong_133 : decode cX3_firstWrong 133 = .ok (.iload_n 3, 1) := by decide +kernel
theorem dX3_firstWrong_134 : decode cX3_firstWrong 134 = .ok (.invokestatic 197, 3) := by decide +kernel
theorem dX3_firstWrong_137 : decode cX3_firstWrong 137 = .ok (.istore 4, 2) := by decide +kernel
theorem dX3_firstWrong_139 : decode cX3_firstWrong 139 = .ok (.iinc 7 1, 3) := by decide +kernel
theorem dX3_firstWrong_142 : decode cX3_firstWrong 142 = .ok (.goto (-92), 3) := by decide +kernel
theorem dX3_firstWrong_145 : decode cX3_firstWrong 145 = .ok (.iinc 5 1, 3) := by decide +kernel
theorem dX3_firstWrong_148 : decode cX3_firstWrong 148 = .ok (.goto (-121), 3) := by decide +kernel
theorem dX3_firstWrong_151 : decode cX3_firstWrong 151 = .ok (.iload_n 3, 1) := by decide +kernel
theorem dX3_firstWrong_152 : decode cX3_firstWrong 152 = .ok (.aload_n 1, 1) := by decide +kernel
theorem dX3_firstWrong_153 : decode cX3_firstWrong 153 = .ok (.getfield 201, 3) := by decide +kernel
theorem dX3_firstWrong_156 : decode cX3_firstWrong 156 = .ok (.if_icmp .ge 17, 3) := by decide +kernel
theorem dX3_firstWrong_159 : decode cX3_firstWrong 159 = .ok (.aload_n 0, 1) := by decide +kernel
theorem dX3_firstWrong_160 : decode cX3_firstWrong 160 = .ok (.aload_n 1, 1) := by decide +kernel
theorem dX3_firstWrong_161 : decode cX3_firstWrong 161 = .ok (.getfield 188, 3) := by decide +kernel
theorem dX3_firstWrong_164 : decode cX3_firstWrong 164 = .ok (.invokevirtual 64, 3) := by decide +kernel
theorem dX3_firstWrong_167 : decode cX3_firstWrong 167 = .ok (.getfield 126, 3) := by decide +kernel
theorem dX3_firstWrong_170 : decode cX3_firstWrong 170 = .ok (.goto 4, 3) := by decide +kernel
theorem dX3_firstWrong_173 : decode cX3_firstWrong 173 = .ok (.iconst (-1), 1) := by decide +kernel
theorem dX3_firstWrong_174 : decode cX3_firstWrong 174 = .ok (.ireturn, 1) := by decide +kernel
set_option maxHeartbeats 4000000 in
set_option maxRecDepth 100000 in
theorem g_X3_firstWrong (l : Launch) (G : xG) (S : yS) (d : yD) (g0 : Nat) (h1 : Nat) (hSh : ySh S) (hPo : yPo S d) (hm_g0 : g0 ∈ S.1) (hk_g0 : S.2.1 g0 = 3) (hm_h1 : h1 ∈ S.1) (hk_h1 : S.2.1 h1 = 1) : xWi l G yX3_firstWrong cX3_firstWrong 9 (some .int) 5 126 0 0 [.ref g0, .ref h1] (yW G S d) (fun r (u : yD) => yAg S [3, 5, 7, 22, 23] d u ∧ (yPo S d → yPo S u) ∧ (True)) (fun u => yW G S u) := by
  intro sz
  refine xstart (by decide) (Nat.le_of_ble_eq_true rfl) (fun p e s m args below meth c ls C0 hr hlocks hin hsz hP hK hD hN hl => ?_)
  obtain ⟨hx, hb, hml, hown, htl⟩ := id C0
  subst hsz
  have hD := hD.self (sz := s.heap.size)
  generalize hAe : va_A (yW G S d) s.heap.size = A at hD ⊢
  have hA : ∀ q : Nat, s.heap.size ≤ q → A q := fun q h => by rw [← hAe]; exact Or.inr h
  have hS : va_S A s.heap s.heap [] := va_S.rf
  have hg0 : yAg S [3, 5, 7, 22, 23] d d := yAg.rf
  have hl : lv_has ls 9 [(0, .ref g0), (1, .ref h1)] := hl
  refine lv_aload_n hx hb dX3_firstWrong_0 rfl (lv_at hl 0 rfl) ?_
  refine lv_aload_n hx hb dX3_firstWrong_1 rfl (lv_at hl 1 rfl) ?_
  refine yget (ci := 1) (k := 3) (v := .int (d.1 h1 3)) (C := RX1) (T := TX1) (N := 4) C0 hK hP hm_h1 hk_h1 (by decide) rfl inlX1 (by decide) mW1060 (fun _ h9 => h9) rfl dX3_firstWrong_2 ?_
  refine lv_topi (fun z_1 ez_1 => ?_)
  refine lv_iconst (v := 0) hx hb dX3_firstWrong_5 (by decide) ?_
  refine lv_ldc (v := 129600) hx hb hown (htl (.constant RX3 184 (129600)) mW937) dX3_firstWrong_6 ?_
  refine yVwr (As := [.int z_1, .int 0, .int 129600]) (rest := []) C0 (g_X3_walkIn l G S d g0 z_1 0 129600 hSh hPo hm_g0 hk_g0) ok_X3_walkIn (mW921 : Cond.methodLink RX3 180 yX3_walkIn ∈ wsT) ⟨Nat.le_of_ble_eq_true rfl, Nat.le_of_ble_eq_true rfl⟩ hP hD hS hA hK hN hm_g0 hk_g0 (by decide) rfl rfl rfl hl.1 rfl (Nat.le_of_ble_eq_true rfl) ⟨Nat.le_of_ble_eq_true rfl, Nat.le_of_ble_eq_true rfl⟩ dX3_firstWrong_8 (fun r_2 d_3 H locs hr_2 hP hD hS => ?_)
  obtain ⟨hgad_3, hpad_3, hxd_3⟩ := hr_2
  have hgd_3 : yAg S [3, 5, 7, 22, 23] d d_3 := yAg.tr hg0 hgad_3 (by first | decide | exact fun _ h => h)
  have hPod_3 : yPo S d_3 := hpad_3 hPo
  obtain ⟨hmr_2, hkr_2⟩ := hxd_3
  refine lv_astore_n (lv' := [(2, .ref r_2), (0, .ref g0), (1, .ref h1)]) hx hb dX3_firstWrong_11 rfl hl (by decide) rfl (fun ls hl => ?_)
  refine lv_iconst (v := 0) hx hb dX3_firstWrong_12 (by decide) ?_
  refine lv_istore_n (lv' := [(3, .int 0), (2, .ref r_2), (0, .ref g0), (1, .ref h1)]) hx hb dX3_firstWrong_13 rfl hl (by decide) rfl (fun ls hl => ?_)
  refine lv_aload_n hx hb dX3_firstWrong_14 rfl (lv_at hl 3 rfl) ?_
  refine yget (ci := 1) (k := 0) (v := .ref (S.2.2.1 h1 0)) (C := RX1) (T := TX1) (N := 4) C0 hK hP hm_h1 hk_h1 (by decide) rfl inlX1 (by decide) mW1061 (fun _ h9 => h9) rfl dX3_firstWrong_15 ?_
  obtain ⟨hmy_4, hky_4⟩ := ySh.f1_0 hSh _ hm_h1 hk_h1
  refine lv_iconst (v := 0) hx hb dX3_firstWrong_18 (by decide) ?_
  refine ySNri (As := [.ref (S.2.2.1 h1 0), .int 0]) (rest := []) C0 (g_X8_at l G S d_3 (S.2.2.1 h1 0) 18 0 hmy_4 hky_4 (by decide) rfl rfl (by decide)) ok_X8_at (xN.n16 hN) ⟨Nat.le_of_ble_eq_true rfl, Nat.le_of_ble_eq_true rfl⟩ hP hD hK hN rfl hl.1 rfl (Nat.le_of_ble_eq_true rfl) ⟨Nat.le_of_ble_eq_true rfl, Nat.le_of_ble_eq_true rfl⟩ dX3_firstWrong_19 (fun r_5 hr_5 => ?_)
  refine lv_istore (lv' := [(4, .int r_5), (3, .int 0), (2, .ref r_2), (0, .ref g0), (1, .ref h1)]) hx hb dX3_firstWrong_22 hl (by decide) rfl (fun ls hl => ?_)
  refine lv_iconst (v := 0) hx hb dX3_firstWrong_24 (by decide) ?_
  refine lv_istore (lv' := [(5, .int 0), (4, .int r_5), (3, .int 0), (2, .ref r_2), (0, .ref g0), (1, .ref h1)]) hx hb dX3_firstWrong_25 hl (by decide) rfl (fun ls hl => ?_)
  refine yloop (σ := Int32 × Int32 × Int32 × yD) (fun x => (2147483647 - (x.2.2.1 : Int32).toInt).toNat) 27 (fun x H locs ls => va_P G.1 xcl (yW G S x.2.2.2) H ∧ va_D A (yW G S x.2.2.2) ∧ va_S A s.heap H locs ∧ yAg S [3, 5, 7, 22, 23] d x.2.2.2 ∧ yPo S x.2.2.2 ∧ lv_has ls 9 [(5, .int x.2.2.1), (4, .int x.2.1), (3, .int x.1), (2, .ref r_2), (0, .ref g0), (1, .ref h1)]) (fun x H locs ls hI hnext_10 => ?_) (0, r_5, 0, d_3) ⟨hP, hD, hS, hgd_3, hPod_3, lv_sub hl [0, 1, 2, 3, 4, 5] rfl⟩
  obtain ⟨v_6, v_7, v_8, d_9⟩ := x
  obtain ⟨hP, hD, hS, hgd_9, hPod_9, hl⟩ := hI
  have hl : lv_has ls 9 [(5, .int v_8), (4, .int v_7), (3, .int v_6), (2, .ref r_2), (0, .ref g0), (1, .ref h1)] := hl
  refine lv_iload hx hb dX3_firstWrong_27 (lv_at hl 0 rfl) ?_
  refine lv_ldc (v := 2000000) hx hb hown (htl (.constant RX3 101 (2000000)) mW725) dX3_firstWrong_29 ?_
  refine lv_icmp_ge (tgt := 151) hx hb dX3_firstWrong_31 (by decide) (fun c_12 => ?_) (fun c_12 => ?_)
  · refine lv_iload_n hx hb dX3_firstWrong_151 rfl (lv_at hl 2 rfl) ?_
    refine lv_aload_n hx hb dX3_firstWrong_152 rfl (lv_at hl 5 rfl) ?_
    refine yget (ci := 1) (k := 2) (v := .int (d_9.1 h1 2)) (C := RX1) (T := TX1) (N := 4) C0 hK hP hm_h1 hk_h1 (by decide) rfl inlX1 (by decide) mW1062 (fun _ h9 => h9) rfl dX3_firstWrong_153 ?_
    refine lv_topi (fun z_13 ez_13 => ?_)
    refine lv_icmp_ge (tgt := 173) hx hb dX3_firstWrong_156 (by decide) (fun c_14 => ?_) (fun c_14 => ?_)
    · refine lv_iconst (v := (-1)) hx hb dX3_firstWrong_173 (by decide) ?_
      exact W.iret (v := (-1)) hx hb hr (fun t ht hW => ⟨⟨(-1), d_9, rfl, ⟨hgd_9, (fun _ => hPod_9), trivial⟩, by rw [ht]; exact hP, hD⟩, hS.F ht⟩) hS.2.2 dX3_firstWrong_174
    · refine lv_aload_n hx hb dX3_firstWrong_159 rfl (lv_at hl 4 rfl) ?_
      refine lv_aload_n hx hb dX3_firstWrong_160 rfl (lv_at hl 5 rfl) ?_
      refine yget (ci := 1) (k := 3) (v := .int (d_9.1 h1 3)) (C := RX1) (T := TX1) (N := 4) C0 hK hP hm_h1 hk_h1 (by decide) rfl inlX1 (by decide) mW1060 (fun _ h9 => h9) rfl dX3_firstWrong_161 ?_
      refine lv_topi (fun z_15 ez_15 => ?_)
      refine yVrr (As := [.int z_15]) (rest := []) C0 (g_X3_stayAt l G S d_9 g0 z_15 hSh hm_g0 hk_g0) ok_X3_stayAt (mW716 : Cond.methodLink RX3 64 yX3_stayAt ∈ wsT) ⟨Nat.le_of_ble_eq_true rfl, Nat.le_of_ble_eq_true rfl⟩ hP hD hK hN hm_g0 hk_g0 (by decide) rfl rfl rfl hl.1 rfl (Nat.le_of_ble_eq_true rfl) ⟨Nat.le_of_ble_eq_true rfl, Nat.le_of_ble_eq_true rfl⟩ dX3_firstWrong_164 (fun r_16 hr_16 => ?_)
      obtain ⟨hmr_16, hkr_16⟩ := hr_16
      refine yget (ci := 5) (k := 3) (v := .int (d_9.1 r_16 3)) (C := RX5) (T := TX5) (N := 7) C0 hK hP hmr_16 hkr_16 (by decide) rfl inlX5 (by decide) mW732 (fun _ h9 => h9) rfl dX3_firstWrong_167 ?_
      refine lv_topi (fun z_17 ez_17 => ?_)
      refine lv_goto (tgt := 174) hx hb dX3_firstWrong_170 (by decide) ?_
      exact W.iret (v := z_17) hx hb hr (fun t ht hW => ⟨⟨z_17, d_9, rfl, ⟨hgd_9, (fun _ => hPod_9), trivial⟩, by rw [ht]; exact hP, hD⟩, hS.F ht⟩) hS.2.2 dX3_firstWrong_174
  · refine lv_aload_n hx hb dX3_firstWrong_34 rfl (lv_at hl 3 rfl) ?_
    refine yVwi (As := []) (rest := []) C0 (g_X7_step l G S d_9 r_2 hSh hPod_9 hmr_2 hkr_2) ok_X7_step (mW760 : Cond.methodLink RX3 137 yX7_step ∈ wsT) ⟨Nat.le_of_ble_eq_true rfl, Nat.le_of_ble_eq_true rfl⟩ hP hD hS hA hK hN hmr_2 hkr_2 (by decide) rfl rfl rfl hl.1 rfl (Nat.le_of_ble_eq_true rfl) ⟨Nat.le_of_ble_eq_true rfl, Nat.le_of_ble_eq_true rfl⟩ dX3_firstWrong_35 (fun r_18 d_19 H locs hr_18 hP hD hS => ?_)
    obtain ⟨hgad_19, hpad_19, hxd_19⟩ := hr_18
    have hgd_19 : yAg S [3, 5, 7, 22, 23] d d_19 := yAg.tr hgd_9 hgad_19 (by first | decide | exact fun _ h => h)
    have hPod_19 : yPo S d_19 := hpad_19 hPod_9
    refine lv_if_eq (tgt := 151) hx hb dX3_firstWrong_38 (by decide) (fun c_20 => ?_) (fun c_20 => ?_)
    · refine lv_iload_n hx hb dX3_firstWrong_151 rfl (lv_at hl 2 rfl) ?_
      refine lv_aload_n hx hb dX3_firstWrong_152 rfl (lv_at hl 5 rfl) ?_
      refine yget (ci := 1) (k := 2) (v := .int (d_19.1 h1 2)) (C := RX1) (T := TX1) (N := 4) C0 hK hP hm_h1 hk_h1 (by decide) rfl inlX1 (by decide) mW1062 (fun _ h9 => h9) rfl dX3_firstWrong_153 ?_
      refine lv_topi (fun z_21 ez_21 => ?_)
      refine lv_icmp_ge (tgt := 173) hx hb dX3_firstWrong_156 (by decide) (fun c_22 => ?_) (fun c_22 => ?_)
      · refine lv_iconst (v := (-1)) hx hb dX3_firstWrong_173 (by decide) ?_
        exact W.iret (v := (-1)) hx hb hr (fun t ht hW => ⟨⟨(-1), d_19, rfl, ⟨hgd_19, (fun _ => hPod_19), trivial⟩, by rw [ht]; exact hP, hD⟩, hS.F ht⟩) hS.2.2 dX3_firstWrong_174
      · refine lv_aload_n hx hb dX3_firstWrong_159 rfl (lv_at hl 4 rfl) ?_
        refine lv_aload_n hx hb dX3_firstWrong_160 rfl (lv_at hl 5 rfl) ?_
        refine yget (ci := 1) (k := 3) (v := .int (d_19.1 h1 3)) (C := RX1) (T := TX1) (N := 4) C0 hK hP hm_h1 hk_h1 (by decide) rfl inlX1 (by decide) mW1060 (fun _ h9 => h9) rfl dX3_firstWrong_161 ?_
        refine lv_topi (fun z_23 ez_23 => ?_)
        refine yVrr (As := [.int z_23]) (rest := []) C0 (g_X3_stayAt l G S d_19 g0 z_23 hSh hm_g0 hk_g0) ok_X3_stayAt (mW716 : Cond.methodLink RX3 64 yX3_stayAt ∈ wsT) ⟨Nat.le_of_ble_eq_true rfl, Nat.le_of_ble_eq_true rfl⟩ hP hD hK hN hm_g0 hk_g0 (by decide) rfl rfl rfl hl.1 rfl (Nat.le_of_ble_eq_true rfl) ⟨Nat.le_of_ble_eq_true rfl, Nat.le_of_ble_eq_true rfl⟩ dX3_firstWrong_164 (fun r_24 hr_24 => ?_)
        obtain ⟨hmr_24, hkr_24⟩ := hr_24
        refine yget (ci := 5) (k := 3) (v := .int (d_19.1 r_24 3)) (C := RX5) (T := TX5) (N := 7) C0 hK hP hmr_24 hkr_24 (by decide) rfl inlX5 (by decide) mW732 (fun _ h9 => h9) rfl dX3_firstWrong_167 ?_
        refine lv_topi (fun z_25 ez_25 => ?_)
        refine lv_goto (tgt := 174) hx hb dX3_firstWrong_170 (by decide) ?_
        exact W.iret (v := z_25) hx hb hr (fun t ht hW => ⟨⟨z_25, d_19, rfl, ⟨hgd_19, (fun _ => hPod_19), trivial⟩, by rw [ht]; exact hP, hD⟩, hS.F ht⟩) hS.2.2 dX3_firstWrong_174
    · refine lv_aload_n hx hb dX3_firstWrong_41 rfl (lv_at hl 3 rfl) ?_
      refine yget (ci := 7) (k := 8) (v := .int (d_19.1 r_2 8)) (C := RX7) (T := TX7) (N := 18) C0 hK hP hmr_2 hkr_2 (by decide) rfl inlX7 (by decide) mW820 (fun _ h9 => h9) rfl dX3_firstWrong_42 ?_
      refine lv_topi (fun z_26 ez_26 => ?_)
      refine lv_istore (lv' := [(6, .int z_26), (5, .int v_8), (4, .int v_7), (3, .int v_6), (2, .ref r_2), (0, .ref g0), (1, .ref h1)]) hx hb dX3_firstWrong_45 hl (by decide) rfl (fun ls hl => ?_)
      refine lv_iconst (v := 0) hx hb dX3_firstWrong_47 (by decide) ?_
      refine lv_istore (lv' := [(7, .int 0), (6, .int z_26), (5, .int v_8), (4, .int v_7), (3, .int v_6), (2, .ref r_2), (0, .ref g0), (1, .ref h1)]) hx hb dX3_firstWrong_48 hl (by decide) rfl (fun ls hl => ?_)
      refine yloop (σ := Int32 × Int32 × Int32 × Int32 × yD) (fun x => (2147483647 - (x.2.2.2.1 : Int32).toInt).toNat) 50 (fun x H locs ls => va_P G.1 xcl (yW G S x.2.2.2.2) H ∧ va_D A (yW G S x.2.2.2.2) ∧ va_S A s.heap H locs ∧ yAg S [3, 5, 7, 22, 23] d x.2.2.2.2 ∧ yPo S x.2.2.2.2 ∧ lv_has ls 9 [(7, .int x.2.2.2.1), (6, .int x.2.2.1), (5, .int v_8), (4, .int x.2.1), (3, .int x.1), (2, .ref r_2), (0, .ref g0), (1, .ref h1)]) (fun x H locs ls hI hnext_32 => ?_) (v_6, v_7, z_26, 0, d_19) ⟨hP, hD, hS, hgd_19, hPod_19, lv_sub hl [0, 1, 2, 3, 4, 5, 6, 7] rfl⟩
      obtain ⟨v_27, v_28, v_29, v_30, d_31⟩ := x
      obtain ⟨hP, hD, hS, hgd_31, hPod_31, hl⟩ := hI
      have hl : lv_has ls 9 [(7, .int v_30), (6, .int v_29), (5, .int v_8), (4, .int v_28), (3, .int v_27), (2, .ref r_2), (0, .ref g0), (1, .ref h1)] := hl
      refine lv_iload hx hb dX3_firstWrong_50 (lv_at hl 0 rfl) ?_
      refine lv_sipush (v := 500) hx hb dX3_firstWrong_52 (by decide) ?_
      refine lv_icmp_gt (tgt := 145) hx hb dX3_firstWrong_55 (by decide) (fun c_34 => ?_) (fun c_34 => ?_)
      · refine lv_iinc (v := v_8 + 1) (lv' := [(5, .int (v_8 + 1)), (7, .int v_30), (6, .int v_29), (4, .int v_28), (3, .int v_27), (2, .ref r_2), (0, .ref g0), (1, .ref h1)]) hx hb dX3_firstWrong_145 hl (k := 2) rfl rfl (by decide) rfl (fun ls hl => ?_)
        refine lv_goto (tgt := 27) hx hb dX3_firstWrong_148 (by decide) ?_
        exact hnext_10 (v_27, v_28, v_8 + 1, d_31) _ _ ls (xup c_12) ⟨hP, hD, hS, hgd_31, hPod_31, lv_sub hl [0, 3, 4, 5, 6, 7] rfl⟩
      · refine lv_iload hx hb dX3_firstWrong_58 (lv_at hl 1 rfl) ?_
        refine lv_aload_n hx hb dX3_firstWrong_60 rfl (lv_at hl 5 rfl) ?_
        refine yget (ci := 7) (k := 9) (v := .int (d_31.1 r_2 9)) (C := RX7) (T := TX7) (N := 18) C0 hK hP hmr_2 hkr_2 (by decide) rfl inlX7 (by decide) mW819 (fun _ h9 => h9) rfl dX3_firstWrong_61 ?_
        refine lv_topi (fun z_36 ez_36 => ?_)
        refine lv_icmp_ge (tgt := 145) hx hb dX3_firstWrong_64 (by decide) (fun c_37 => ?_) (fun c_37 => ?_)
        · refine lv_iinc (v := v_8 + 1) (lv' := [(5, .int (v_8 + 1)), (7, .int v_30), (6, .int v_29), (4, .int v_28), (3, .int v_27), (2, .ref r_2), (0, .ref g0), (1, .ref h1)]) hx hb dX3_firstWrong_145 hl (k := 2) rfl rfl (by decide) rfl (fun ls hl => ?_)
          refine lv_goto (tgt := 27) hx hb dX3_firstWrong_148 (by decide) ?_
          exact hnext_10 (v_27, v_28, v_8 + 1, d_31) _ _ ls (xup c_12) ⟨hP, hD, hS, hgd_31, hPod_31, lv_sub hl [0, 3, 4, 5, 6, 7] rfl⟩
        · refine lv_iload_n hx hb dX3_firstWrong_67 rfl (lv_at hl 4 rfl) ?_
          refine lv_aload_n hx hb dX3_firstWrong_68 rfl (lv_at hl 7 rfl) ?_
          refine yget (ci := 1) (k := 2) (v := .int (d_31.1 h1 2)) (C := RX1) (T := TX1) (N := 4) C0 hK hP hm_h1 hk_h1 (by decide) rfl inlX1 (by decide) mW1062 (fun _ h9 => h9) rfl dX3_firstWrong_69 ?_
          refine lv_topi (fun z_39 ez_39 => ?_)
          refine lv_icmp_ge (tgt := 90) hx hb dX3_firstWrong_72 (by decide) (fun c_40 => ?_) (fun c_40 => ?_)
          · refine lv_iload hx hb dX3_firstWrong_90 (lv_at hl 1 rfl) ?_
            exact W.iret (v := v_29) hx hb hr (fun t ht hW => ⟨⟨v_29, d_31, rfl, ⟨hgd_31, (fun _ => hPod_31), trivial⟩, by rw [ht]; exact hP, hD⟩, hS.F ht⟩) hS.2.2 dX3_firstWrong_92
          · refine lv_aload_n hx hb dX3_firstWrong_75 rfl (lv_at hl 7 rfl) ?_
            refine yget (ci := 1) (k := 1) (v := .ref (S.2.2.1 h1 1)) (C := RX1) (T := TX1) (N := 4) C0 hK hP hm_h1 hk_h1 (by decide) rfl inlX1 (by decide) mW1063 (fun _ h9 => h9) rfl dX3_firstWrong_76 ?_
            obtain ⟨hmy_41, hky_41⟩ := ySh.f1_1 hSh _ hm_h1 hk_h1
            refine lv_iload_n hx hb dX3_firstWrong_79 rfl (lv_at hl 4 rfl) ?_
            refine ySNri (As := [.ref (S.2.2.1 h1 1), .int v_27]) (rest := []) C0 (g_X8_at l G S d_31 (S.2.2.1 h1 1) 19 v_27 hmy_41 hky_41 (by decide) rfl rfl (by decide)) ok_X8_at (xN.n16 hN) ⟨Nat.le_of_ble_eq_true rfl, Nat.le_of_ble_eq_true rfl⟩ hP hD hK hN rfl hl.1 rfl (Nat.le_of_ble_eq_true rfl) ⟨Nat.le_of_ble_eq_true rfl, Nat.le_of_ble_eq_true rfl⟩ dX3_firstWrong_80 (fun r_42 hr_42 => ?_)
            refine lv_aload_n hx hb dX3_firstWrong_83 rfl (lv_at hl 5 rfl) ?_
            refine yget (ci := 7) (k := 17) (v := .int (d_31.1 r_2 17)) (C := RX7) (T := TX7) (N := 18) C0 hK hP hmr_2 hkr_2 (by decide) rfl inlX7 (by decide) mW938 (fun _ h9 => h9) rfl dX3_firstWrong_84 ?_
            refine lv_topi (fun z_43 ez_43 => ?_)
            refine lv_icmp_eq (tgt := 93) hx hb dX3_firstWrong_87 (by decide) (fun c_44 => ?_) (fun c_44 => ?_)
            · refine lv_iload hx hb dX3_firstWrong_93 (lv_at hl 3 rfl) ?_
              refine lv_aload_n hx hb dX3_firstWrong_95 rfl (lv_at hl 5 rfl) ?_
              refine yget (ci := 7) (k := 9) (v := .int (d_31.1 r_2 9)) (C := RX7) (T := TX7) (N := 18) C0 hK hP hmr_2 hkr_2 (by decide) rfl inlX7 (by decide) mW819 (fun _ h9 => h9) rfl dX3_firstWrong_96 ?_
              refine lv_topi (fun z_45 ez_45 => ?_)
              refine lv_iload hx hb dX3_firstWrong_99 (lv_at hl 1 rfl) ?_
              refine lv_isub hx hb dX3_firstWrong_101 ?_
              refine lv_topi (fun z_46 ez_46 => ?_)
              refine va_mmin hx hb (by rw [hml]; exact hl.1.symm) hown (htl (.methodLink RX3 152 Lib.Math.min.name) mW734) (htl (.static Lib.Math.min.name) mW203) (htl (.initialized "java/lang/Math") mW204) (htl (.code Lib.Math.min.name Lib.Math.min.code 2 (some .int)) mW205) (Nat.le_of_ble_eq_true rfl) (Nat.le_of_ble_eq_true rfl) (Nat.le_of_ble_eq_true rfl) (Nat.le_of_ble_eq_true rfl) dX3_firstWrong_102 ?_
              refine lv_topi (fun z_47 ez_47 => ?_)
              refine lv_istore (lv' := [(8, .int z_47), (7, .int v_30), (6, .int v_29), (5, .int v_8), (4, .int v_28), (3, .int v_27), (2, .ref r_2), (0, .ref g0), (1, .ref h1)]) hx hb dX3_firstWrong_105 hl (by decide) rfl (fun ls hl => ?_)
              refine lv_iload hx hb dX3_firstWrong_107 (lv_at hl 2 rfl) ?_
              refine lv_iload hx hb dX3_firstWrong_109 (lv_at hl 0 rfl) ?_
              refine lv_iadd hx hb dX3_firstWrong_111 ?_
              refine lv_topi (fun z_48 ez_48 => ?_)
              refine lv_istore (lv' := [(6, .int z_48), (8, .int z_47), (7, .int v_30), (5, .int v_8), (4, .int v_28), (3, .int v_27), (2, .ref r_2), (0, .ref g0), (1, .ref h1)]) hx hb dX3_firstWrong_112 hl (by decide) rfl (fun ls hl => ?_)
              refine lv_iload hx hb dX3_firstWrong_114 (lv_at hl 4 rfl) ?_
              refine lv_iload hx hb dX3_firstWrong_116 (lv_at hl 1 rfl) ?_
              refine lv_isub hx hb dX3_firstWrong_118 ?_
              refine lv_topi (fun z_49 ez_49 => ?_)
              refine lv_istore (lv' := [(4, .int z_49), (6, .int z_48), (8, .int z_47), (7, .int v_30), (5, .int v_8), (3, .int v_27), (2, .ref r_2), (0, .ref g0), (1, .ref h1)]) hx hb dX3_firstWrong_119 hl (by decide) rfl (fun ls hl => ?_)
              refine lv_iload hx hb dX3_firstWrong_121 (lv_at hl 0 rfl) ?_
              refine lv_if_ne (tgt := 139) hx hb dX3_firstWrong_123 (by decide) (fun c_50 => ?_) (fun c_50 => ?_)
              · refine lv_iinc (v := v_30 + 1) (lv' := [(7, .int (v_30 + 1)), (4, .int z_49), (6, .int z_48), (8, .int z_47), (5, .int v_8), (3, .int v_27), (2, .ref r_2), (0, .ref g0), (1, .ref h1)]) hx hb dX3_firstWrong_139 hl (k := 3) rfl rfl (by decide) rfl (fun ls hl => ?_)
                refine lv_goto (tgt := 50) hx hb dX3_firstWrong_142 (by decide) ?_
                exact hnext_32 (v_27, z_49, z_48, v_30 + 1, d_31) _ _ ls (xupe c_34 (by decide +kernel)) ⟨hP, hD, hS, hgd_31, hPod_31, lv_sub hl [0, 2, 4, 1, 5, 6, 7, 8] rfl⟩
              · refine lv_iinc (v := v_27 + 1) (lv' := [(3, .int (v_27 + 1)), (4, .int z_49), (6, .int z_48), (8, .int z_47), (7, .int v_30), (5, .int v_8), (2, .ref r_2), (0, .ref g0), (1, .ref h1)]) hx hb dX3_firstWrong_126 hl (k := 5) rfl rfl (by decide) rfl (fun ls hl => ?_)
                refine lv_aload_n hx hb dX3_firstWrong_129 rfl (lv_at hl 8 rfl) ?_
                refine yget (ci := 1) (k := 0) (v := .ref (S.2.2.1 h1 0)) (C := RX1) (T := TX1) (N := 4) C0 hK hP hm_h1 hk_h1 (by decide) rfl inlX1 (by decide) mW1061 (fun _ h9 => h9) rfl dX3_firstWrong_130 ?_
                refine lv_iload_n hx hb dX3_firstWrong_133 rfl (lv_at hl 0 rfl) ?_
                refine ySNri (As := [.ref (S.2.2.1 h1 0), .int (v_27 + 1)]) (rest := []) C0 (g_X8_at l G S d_31 (S.2.2.1 h1 0) 18 (v_27 + 1) hmy_4 hky_4 (by decide) rfl rfl (by decide)) ok_X8_at (xN.n16 hN) ⟨Nat.le_of_ble_eq_true rfl, Nat.le_of_ble_eq_true rfl⟩ hP hD hK hN rfl hl.1 rfl (Nat.le_of_ble_eq_true rfl) ⟨Nat.le_of_ble_eq_true rfl, Nat.le_of_ble_eq_true rfl⟩ dX3_firstWrong_134 (fun r_53 hr_53 => ?_)
                refine lv_istore (lv' := [(4, .int r_53), (3, .int (v_27 + 1)), (6, .int z_48), (8, .int z_47), (7, .int v_30), (5, .int v_8), (2, .ref r_2), (0, .ref g0), (1, .ref h1)]) hx hb dX3_firstWrong_137 hl (by decide) rfl (fun ls hl => ?_)
                refine lv_iinc (v := v_30 + 1) (lv' := [(7, .int (v_30 + 1)), (4, .int r_53), (3, .int (v_27 + 1)), (6, .int z_48), (8, .int z_47), (5, .int v_8), (2, .ref r_2), (0, .ref g0), (1, .ref h1)]) hx hb dX3_firstWrong_139 hl (k := 4) rfl rfl (by decide) rfl (fun ls hl => ?_)
                refine lv_goto (tgt := 50) hx hb dX3_firstWrong_142 (by decide) ?_
                exact hnext_32 (v_27 + 1, r_53, z_48, v_30 + 1, d_31) _ _ ls (xupe c_34 (by decide +kernel)) ⟨hP, hD, hS, hgd_31, hPod_31, lv_sub hl [0, 3, 5, 1, 2, 6, 7, 8] rfl⟩
            · refine lv_iload hx hb dX3_firstWrong_90 (lv_at hl 1 rfl) ?_
              exact W.iret (v := v_29) hx hb hr (fun t ht hW => ⟨⟨v_29, d_31, rfl, ⟨hgd_31, (fun _ => hPod_31), trivial⟩, by rw [ht]; exact hP, hD⟩, hS.F ht⟩) hS.2.2 dX3_firstWrong_92
theorem dX3_settle_0 : decode cX3_settle 0 = .ok (.aload_n 0, 1) := by decide +kernel
theorem dX3_settle_1 : decode cX3_settle 1 = .ok (.aload_n 0, 1) := by decide +kernel
theorem dX3_settle_2 : decode cX3_settle 2 = .ok (.getfield 89, 3) := by decide +kernel
theorem dX3_settle_5 : decode cX3_settle 5 = .ok (.putfield 207, 3) := by decide +kernel
theorem dX3_settle_8 : decode cX3_settle 8 = .ok (.iconst 0, 1) := by decide +kernel
theorem dX3_settle_9 : decode cX3_settle 9 = .ok (.istore_n 1, 1) := by decide +kernel
theorem dX3_settle_10 : decode cX3_settle 10 = .ok (.iload_n 1, 1) := by decide +kernel
theorem dX3_settle_11 : decode cX3_settle 11 = .ok (.bipush 8, 2) := by decide +kernel
theorem dX3_settle_13 : decode cX3_settle 13 = .ok (.if_icmp .ge 50, 3) := by decide +kernel
theorem dX3_settle_16 : decode cX3_settle 16 = .ok (.aload_n 0, 1) := by decide +kernel
theorem dX3_settle_17 : decode cX3_settle 17 = .ok (.getfield 86, 3) := by decide +kernel
theorem dX3_settle_20 : decode cX3_settle 20 = .ok (.ifCond .eq 43, 3) := by decide +kernel
theorem dX3_settle_23 : decode cX3_settle 23 = .ok (.aload_n 0, 1) := by decide +kernel
theorem dX3_settle_24 : decode cX3_settle 24 = .ok (.dup, 1) := by decide +kernel
theorem dX3_settle_25 : decode cX3_settle 25 = .ok (.getfield 207, 3) := by decide +kernel
theorem dX3_settle_28 : decode cX3_settle 28 = .ok (.aload_n 0, 1) := by decide +kernel
theorem dX3_settle_29 : decode cX3_settle 29 = .ok (.iload_n 1, 1) := by decide +kernel
theorem dX3_settle_30 : decode cX3_settle 30 = .ok (.invokevirtual 60, 3) := by decide +kernel
theorem dX3_settle_33 : decode cX3_settle 33 = .ok (.ifCond .eq 19, 3) := by decide +kernel
theorem dX3_settle_36 : decode cX3_settle 36 = .ok (.aload_n 0, 1) := by decide +kernel
theorem dX3_settle_37 : decode cX3_settle 37 = .ok (.iload_n 1, 1) := by decide +kernel
theorem dX3_settle_38 : decode cX3_settle 38 = .ok (.aload_n 0, 1) := by decide +kernel
theorem dX3_settle_39 : decode cX3_settle 39 = .ok (.iload_n 1, 1) := by decide +kernel
theorem dX3_settle_40 : decode cX3_settle 40 = .ok (.invokevirtual 177, 3) := by decide +kernel
theorem dX3_settle_43 : decode cX3_settle 43 = .ok (.ldc 184, 2) := by decide +kernel
theorem dX3_settle_45 : decode cX3_settle 45 = .ok (.invokevirtual 209, 3) := by decide +kernel
theorem dX3_settle_48 : decode cX3_settle 48 = .ok (.i2l, 1) := by decide +kernel
theorem dX3_settle_49 : decode cX3_settle 49 = .ok (.goto 4, 3) := by decide +kernel
theorem dX3_settle_52 : decode cX3_settle 52 = .ok (.lconst 0, 1) := by decide +kernel
theorem dX3_settle_53 : decode cX3_settle 53 = .ok (.ladd, 1) := by decide +kernel
theorem dX3_settle_54 : decode cX3_settle 54 = .ok (.putfield 207, 3) := by decide +kernel
theorem dX3_settle_57 : decode cX3_settle 57 = .ok (.iinc 1 1, 3) := by decide +kernel
theorem dX3_settle_60 : decode cX3_settle 60 = .ok (.goto (-50), 3) := by decide +kernel
theorem dX3_settle_63 : decode cX3_settle 63 = .ok (.return_, 1) := by decide +kernel
set_option maxHeartbeats 4000000 in
set_option maxRecDepth 100000 in
theorem g_X3_settle (l : Launch) (G : xG) (S : yS) (d : yD) (g0 : Nat) (hSh : ySh S) (hPo : yPo S d) (hm_g0 : g0 ∈ S.1) (hk_g0 : S.2.1 g0 = 3) : xWv l G yX3_settle cX3_settle 2 none 6 152 0 0 [.ref g0] (yW G S d) (fun u : yD => yAg S [3, 5, 7, 22, 23] d u ∧ (yPo S d → yPo S u) ∧ (True)) (fun u => yW G S u) := by
  intro sz
  refine xstart (by decide) (Nat.le_of_ble_eq_true rfl) (fun p e s m args below meth c ls C0 hr hlocks hin hsz hP hK hD hN hl => ?_)
  obtain ⟨hx, hb, hml, hown, htl⟩ := id C0
  subst hsz
  have hD := hD.self (sz := s.heap.size)
  generalize hAe : va_A (yW G S d) s.heap.size = A at hD ⊢
  have hA : ∀ q : Nat, s.heap.size ≤ q → A q := fun q h => by rw [← hAe]; exact Or.inr h
  have hS : va_S A s.heap s.heap [] := va_S.rf
  have hg0 : yAg S [3, 5, 7, 22, 23] d d := yAg.rf
  have hl : lv_has ls 2 [(0, .ref g0)] := hl
  refine lv_aload_n hx hb dX3_settle_0 rfl (lv_at hl 0 rfl) ?_
  refine lv_aload_n hx hb dX3_settle_1 rfl (lv_at hl 0 rfl) ?_
  refine yget (ci := 3) (k := 10) (v := .long (d.2.1 g0 10)) (C := RX3) (T := TX3) (N := 16) C0 hK hP hm_g0 hk_g0 (by decide) rfl inlX3 (by decide) mW723 (fun _ h9 => h9) rfl dX3_settle_2 ?_
  refine lv_topl (fun z_1 ez_1 => ?_)
  refine yputJ (ci := 3) (k := 11) (C := RX3) (T := TX3) (N := 16) C0 hK hP hD hS hm_g0 hk_g0 (by decide) rfl inlX3 tyX3 tyX3_ok nmX3 (by decide) mW956 (fun _ h9 => h9) rfl (by decide +kernel) (Nat.le_of_ble_eq_true rfl) ysj_3_11 dX3_settle_5 (fun H locs hP hD hS => ?_)
  obtain ⟨d_2, ed_2⟩ : ∃ z : yD, z = yj d g0 11 z_1 := ⟨_, rfl⟩
  rw [← ed_2] at hP hD
  have hgd_2 : yAg S [3, 5, 7, 22, 23] d d_2 := by rw [ed_2]; exact yAg.j hg0 (by rw [hk_g0]; decide)
  have hPod_2 : yPo S d_2 := by rw [ed_2]; exact hPo
  refine lv_iconst (v := 0) hx hb dX3_settle_8 (by decide) ?_
  refine lv_istore_n (lv' := [(1, .int 0), (0, .ref g0)]) hx hb dX3_settle_9 rfl hl (by decide) rfl (fun ls hl => ?_)
  refine yloop (σ := Int32 × yD) (fun x => (2147483647 - (x.1 : Int32).toInt).toNat) 10 (fun x H locs ls => va_P G.1 xcl (yW G S x.2) H ∧ va_D A (yW G S x.2) ∧ va_S A s.heap H locs ∧ yAg S [3, 5, 7, 22, 23] d x.2 ∧ yPo S x.2 ∧ lv_has ls 2 [(1, .int x.1), (0, .ref g0)]) (fun x H locs ls hI hnext_5 => ?_) (0, d_2) ⟨hP, hD, hS, hgd_2, hPod_2, lv_sub hl [0, 1] rfl⟩
  obtain ⟨v_3, d_4⟩ := x
  obtain ⟨hP, hD, hS, hgd_4, hPod_4, hl⟩ := hI
  have hl : lv_has ls 2 [(1, .int v_3), (0, .ref g0)] := hl
  refine lv_iload_n hx hb dX3_settle_10 rfl (lv_at hl 0 rfl) ?_
  refine lv_bipush (v := 8) hx hb dX3_settle_11 (by decide) ?_
  refine lv_icmp_ge (tgt := 63) hx hb dX3_settle_13 (by decide) (fun c_7 => ?_) (fun c_7 => ?_)
  · exact W.vret hx hb hr (fun t ht hW => ⟨⟨d_4, rfl, ⟨hgd_4, (fun _ => hPod_4), trivial⟩, by rw [ht]; exact hP, hD⟩, hS.F ht⟩) hS.2.2 dX3_settle_63
  · refine lv_aload_n hx hb dX3_settle_16 rfl (lv_at hl 1 rfl) ?_
    refine yget (ci := 3) (k := 12) (v := .int (d_4.1 g0 12)) (C := RX3) (T := TX3) (N := 16) C0 hK hP hm_g0 hk_g0 (by decide) rfl inlX3 (by decide) mW722 (fun _ h9 => h9) rfl dX3_settle_17 ?_
    refine lv_topi (fun z_8 ez_8 => ?_)
    have hzz_8 : z_8 = 0 ∨ z_8 = 1 := by rw [ez_8]; exact yPo.b hPod_4 hm_g0 hk_g0 rfl
    refine lv_if_eq (tgt := 63) hx hb dX3_settle_20 (by decide) (fun c_9 => ?_) (fun c_9 => ?_)
    · exact W.vret hx hb hr (fun t ht hW => ⟨⟨d_4, rfl, ⟨hgd_4, (fun _ => hPod_4), trivial⟩, by rw [ht]; exact hP, hD⟩, hS.F ht⟩) hS.2.2 dX3_settle_63
    · refine lv_aload_n hx hb dX3_settle_23 rfl (lv_at hl 1 rfl) ?_
      refine lv_dup hx hb dX3_settle_24 rfl ?_
      refine yget (ci := 3) (k := 11) (v := .long (d_4.2.1 g0 11)) (C := RX3) (T := TX3) (N := 16) C0 hK hP hm_g0 hk_g0 (by decide) rfl inlX3 (by decide) mW956 (fun _ h9 => h9) rfl dX3_settle_25 ?_
      refine lv_topl (fun z_10 ez_10 => ?_)
      refine lv_aload_n hx hb dX3_settle_28 rfl (lv_at hl 1 rfl) ?_
      refine lv_iload_n hx hb dX3_settle_29 rfl (lv_at hl 0 rfl) ?_
      refine yVri (As := [.int v_3]) (rest := [.long z_10, .ref g0]) C0 (g_X3_isMember l G S d_4 g0 v_3 hSh hm_g0 hk_g0) ok_X3_isMember (mW712 : Cond.methodLink RX3 60 yX3_isMember ∈ wsT) ⟨Nat.le_of_ble_eq_true rfl, Nat.le_of_ble_eq_true rfl⟩ hP hD hK hN hm_g0 hk_g0 (by decide) rfl rfl rfl hl.1 rfl (Nat.le_of_ble_eq_true rfl) ⟨Nat.le_of_ble_eq_true rfl, Nat.le_of_ble_eq_true rfl⟩ dX3_settle_30 (fun r_11 hr_11 => ?_)
      refine lv_if_eq (tgt := 52) hx hb dX3_settle_33 (by decide) (fun c_12 => ?_) (fun c_12 => ?_)
      · refine lv_lconst (v := 0) hx hb dX3_settle_52 (by decide) ?_
        refine lv_ladd hx hb dX3_settle_53 ?_
        refine lv_topl (fun z_13 ez_13 => ?_)
        refine yputJ (ci := 3) (k := 11) (C := RX3) (T := TX3) (N := 16) C0 hK hP hD hS hm_g0 hk_g0 (by decide) rfl inlX3 tyX3 tyX3_ok nmX3 (by decide) mW956 (fun _ h9 => h9) rfl (by decide +kernel) (Nat.le_of_ble_eq_true rfl) ysj_3_11 dX3_settle_54 (fun H locs hP hD hS => ?_)
        obtain ⟨d_14, ed_14⟩ : ∃ z : yD, z = yj d_4 g0 11 z_13 := ⟨_, rfl⟩
        rw [← ed_14] at hP hD
        have hgd_14 : yAg S [3, 5, 7, 22, 23] d d_14 := by rw [ed_14]; exact yAg.j hgd_4 (by rw [hk_g0]; decide)
        have hPod_14 : yPo S d_14 := by rw [ed_14]; exact hPod_4
        refine lv_iinc (v := v_3 + 1) (lv' := [(1, .int (v_3 + 1)), (0, .ref g0)]) hx hb dX3_settle_57 hl (k := 0) rfl rfl (by decide) rfl (fun ls hl => ?_)
        refine lv_goto (tgt := 10) hx hb dX3_settle_60 (by decide) ?_
        exact hnext_5 (v_3 + 1, d_14) _ _ ls (xup c_7) ⟨hP, hD, hS, hgd_14, hPod_14, lv_sub hl [0, 1] rfl⟩
      · refine lv_aload_n hx hb dX3_settle_36 rfl (lv_at hl 1 rfl) ?_
        refine lv_iload_n hx hb dX3_settle_37 rfl (lv_at hl 0 rfl) ?_
        refine lv_aload_n hx hb dX3_settle_38 rfl (lv_at hl 1 rfl) ?_
        refine lv_iload_n hx hb dX3_settle_39 rfl (lv_at hl 0 rfl) ?_
        refine yVri (As := [.int v_3]) (rest := [.int v_3, .ref g0, .long z_10, .ref g0]) C0 (g_X3_overFrom l G S d_4 g0 v_3 hSh hm_g0 hk_g0) ok_X3_overFrom (mW847 : Cond.methodLink RX3 177 yX3_overFrom ∈ wsT) ⟨Nat.le_of_ble_eq_true rfl, Nat.le_of_ble_eq_true rfl⟩ hP hD hK hN hm_g0 hk_g0 (by decide) rfl rfl rfl hl.1 rfl (Nat.le_of_ble_eq_true rfl) ⟨Nat.le_of_ble_eq_true rfl, Nat.le_of_ble_eq_true rfl⟩ dX3_settle_40 (fun r_16 hr_16 => ?_)
        refine lv_ldc (v := 129600) hx hb hown (htl (.constant RX3 184 (129600)) mW937) dX3_settle_43 ?_
        refine yVwi (As := [.int v_3, .int r_16, .int 129600]) (rest := [.long z_10, .ref g0]) C0 (g_X3_halvesOf l G S d_4 g0 v_3 r_16 129600 hSh hPod_4 hm_g0 hk_g0) ok_X3_halvesOf (mW957 : Cond.methodLink RX3 209 yX3_halvesOf ∈ wsT) ⟨Nat.le_of_ble_eq_true rfl, Nat.le_of_ble_eq_true rfl⟩ hP hD hS hA hK hN hm_g0 hk_g0 (by decide) rfl rfl rfl hl.1 rfl (Nat.le_of_ble_eq_true rfl) ⟨Nat.le_of_ble_eq_true rfl, Nat.le_of_ble_eq_true rfl⟩ dX3_settle_45 (fun r_17 d_18 H locs hr_17 hP hD hS => ?_)
        obtain ⟨hgad_18, hpad_18, hxd_18⟩ := hr_17
        have hgd_18 : yAg S [3, 5, 7, 22, 23] d d_18 := yAg.tr hgd_4 hgad_18 (by first | decide | exact fun _ h => h)
        have hPod_18 : yPo S d_18 := hpad_18 hPod_4
        refine lv_i2l hx hb dX3_settle_48 rfl ?_
        refine lv_topl (fun z_19 ez_19 => ?_)
        refine lv_goto (tgt := 53) hx hb dX3_settle_49 (by decide) ?_
        refine lv_ladd hx hb dX3_settle_53 ?_
        refine lv_topl (fun z_20 ez_20 => ?_)
        refine yputJ (ci := 3) (k := 11) (C := RX3) (T := TX3) (N := 16) C0 hK hP hD hS hm_g0 hk_g0 (by decide) rfl inlX3 tyX3 tyX3_ok nmX3 (by decide) mW956 (fun _ h9 => h9) rfl (by decide +kernel) (Nat.le_of_ble_eq_true rfl) ysj_3_11 dX3_settle_54 (fun H locs hP hD hS => ?_)
        obtain ⟨d_21, ed_21⟩ : ∃ z : yD, z = yj d_18 g0 11 z_20 := ⟨_, rfl⟩
        rw [← ed_21] at hP hD
        have hgd_21 : yAg S [3, 5, 7, 22, 23] d d_21 := by rw [ed_21]; exact yAg.j hgd_18 (by rw [hk_g0]; decide)
        have hPod_21 : yPo S d_21 := by rw [ed_21]; exact hPod_18
        refine lv_iinc (v := v_3 + 1) (lv' := [(1, .int (v_3 + 1)), (0, .ref g0)]) hx hb dX3_settle_57 hl (k := 0) rfl rfl (by decide) rfl (fun ls hl => ?_)
        refine lv_goto (tgt := 10) hx hb dX3_settle_60 (by decide) ?_
        exact hnext_5 (v_3 + 1, d_21) _ _ ls (xup c_7) ⟨hP, hD, hS, hgd_21, hPod_21, lv_sub hl [0, 1] rfl⟩
theorem dX3_read_0 : decode cX3_read 0 = .ok (.aload_n 0, 1) := by decide +kernel
theorem dX3_read_1 : decode cX3_read 1 = .ok (.iload_n 1, 1) := by decide +kernel
theorem dX3_read_2 : decode cX3_read 2 = .ok (.putfield 39, 3) := by decide +kernel
theorem dX3_read_5 : decode cX3_read 5 = .ok (.aload_n 0, 1) := by decide +kernel
theorem dX3_read_6 : decode cX3_read 6 = .ok (.iload_n 2, 1) := by decide +kernel
theorem dX3_read_7 : decode cX3_read 7 = .ok (.putfield 46, 3) := by decide +kernel
theorem dX3_read_10 : decode cX3_read 10 = .ok (.aload_n 0, 1) := by decide +kernel
theorem dX3_read_11 : decode cX3_read 11 = .ok (.iconst 0, 1) := by decide +kernel
theorem dX3_read_12 : decode cX3_read 12 = .ok (.putfield 50, 3) := by decide +kernel
theorem dX3_read_15 : decode cX3_read 15 = .ok (.aload_n 0, 1) := by decide +kernel
theorem dX3_read_16 : decode cX3_read 16 = .ok (.iconst 1, 1) := by decide +kernel
theorem dX3_read_17 : decode cX3_read 17 = .ok (.putfield 53, 3) := by decide +kernel
theorem dX3_read_20 : decode cX3_read 20 = .ok (.aload_n 0, 1) := by decide +kernel
theorem dX3_read_21 : decode cX3_read 21 = .ok (.lconst 0, 1) := by decide +kernel
theorem dX3_read_22 : decode cX3_read 22 = .ok (.putfield 56, 3) := by decide +kernel
theorem dX3_read_25 : decode cX3_read 25 = .ok (.iconst 0, 1) := by decide +kernel
theorem dX3_read_26 : decode cX3_read 26 = .ok (.istore_n 3, 1) := by decide +kernel
theorem dX3_read_27 : decode cX3_read 27 = .ok (.iload_n 3, 1) := by decide +kernel
theorem dX3_read_28 : decode cX3_read 28 = .ok (.bipush 8, 2) := by decide +kernel
theorem dX3_read_30 : decode cX3_read 30 = .ok (.if_icmp .ge 87, 3) := by decide +kernel
theorem dX3_read_33 : decode cX3_read 33 = .ok (.aload_n 0, 1) := by decide +kernel
theorem dX3_read_34 : decode cX3_read 34 = .ok (.iload_n 3, 1) := by decide +kernel
theorem dX3_read_35 : decode cX3_read 35 = .ok (.invokevirtual 60, 3) := by decide +kernel
theorem dX3_read_38 : decode cX3_read 38 = .ok (.ifCond .ne 6, 3) := by decide +kernel
theorem dX3_read_41 : decode cX3_read 41 = .ok (.goto 70, 3) := by decide +kernel
theorem dX3_read_44 : decode cX3_read 44 = .ok (.aload_n 0, 1) := by decide +kernel
theorem dX3_read_45 : decode cX3_read 45 = .ok (.iload_n 3, 1) := by decide +kernel
theorem dX3_read_46 : decode cX3_read 46 = .ok (.invokevirtual 64, 3) := by decide +kernel
theorem dX3_read_49 : decode cX3_read 49 = .ok (.astore 4, 2) := by decide +kernel
theorem dX3_read_51 : decode cX3_read 51 = .ok (.aload 4, 2) := by decide +kernel
theorem dX3_read_53 : decode cX3_read 53 = .ok (.aload_n 0, 1) := by decide +kernel
theorem dX3_read_54 : decode cX3_read 54 = .ok (.getfield 23, 3) := by decide +kernel
theorem dX3_read_57 : decode cX3_read 57 = .ok (.iload_n 3, 1) := by decide +kernel
theorem dX3_read_58 : decode cX3_read 58 = .ok (.invokevirtual 68, 3) := by decide +kernel
theorem dX3_read_61 : decode cX3_read 61 = .ok (.aload 4, 2) := by decide +kernel
theorem dX3_read_63 : decode cX3_read 63 = .ok (.getfield 72, 3) := by decide +kernel
theorem dX3_read_66 : decode cX3_read 66 = .ok (.ifCond .eq 45, 3) := by decide +kernel
theorem dX3_read_69 : decode cX3_read 69 = .ok (.aload_n 0, 1) := by decide +kernel
theorem dX3_read_70 : decode cX3_read 70 = .ok (.dup, 1) := by decide +kernel
theorem dX3_read_71 : decode cX3_read 71 = .ok (.getfield 50, 3) := by decide +kernel
theorem dX3_read_74 : decode cX3_read 74 = .ok (.iconst 1, 1) := by decide +kernel
theorem dX3_read_75 : decode cX3_read 75 = .ok (.iadd, 1) := by decide +kernel
theorem dX3_read_76 : decode cX3_read 76 = .ok (.putfield 50, 3) := by decide +kernel
theorem dX3_read_79 : decode cX3_read 79 = .ok (.aload_n 0, 1) := by decide +kernel
theorem dX3_read_80 : decode cX3_read 80 = .ok (.dup, 1) := by decide +kernel
theorem dX3_read_81 : decode cX3_read 81 = .ok (.getfield 53, 3) := by decide +kernel
theorem dX3_read_84 : decode cX3_read 84 = .ok (.aload 4, 2) := by decide +kernel
theorem dX3_read_86 : decode cX3_read 86 = .ok (.getfield 75, 3) := by decide +kernel
theorem dX3_read_89 : decode cX3_read 89 = .ok (.iand, 1) := by decide +kernel
theorem dX3_read_90 : decode cX3_read 90 = .ok (.putfield 53, 3) := by decide +kernel
theorem dX3_read_93 : decode cX3_read 93 = .ok (.aload_n 0, 1) := by decide +kernel
theorem dX3_read_94 : decode cX3_read 94 = .ok (.dup, 1) := by decide +kernel
theorem dX3_read_95 : decode cX3_read 95 = .ok (.getfield 56, 3) := by decide +kernel
theorem dX3_read_98 : decode cX3_read 98 = .ok (.ldc2_w 78, 3) := by decide +kernel
theorem dX3_read_101 : decode cX3_read 101 = .ok (.aload 4, 2) := by decide +kernel
theorem dX3_read_103 : decode cX3_read 103 = .ok (.getfield 80, 3) := by decide +kernel
theorem dX3_read_106 : decode cX3_read 106 = .ok (.lmul, 1) := by decide +kernel
theorem dX3_read_107 : decode cX3_read 107 = .ok (.ladd, 1) := by decide +kernel
theorem dX3_read_108 : decode cX3_read 108 = .ok (.putfield 56, 3) := by decide +kernel
theorem dX3_read_111 : decode cX3_read 111 = .ok (.iinc 3 1, 3) := by decide +kernel
theorem dX3_read_114 : decode cX3_read 114 = .ok (.goto (-87), 3) := by decide +kernel
theorem dX3_read_117 : decode cX3_read 117 = .ok (.aload_n 0, 1) := by decide +kernel
theorem dX3_read_118 : decode cX3_read 118 = .ok (.invokevirtual 83, 3) := by decide +kernel
theorem dX3_read_121 : decode cX3_read 121 = .ok (.return_, 1) := by decide +kernel
set_option maxHeartbeats 4000000 in
set_option maxRecDepth 100000 in
theorem g_X3_read (l : Launch) (G : xG) (S : yS) (d : yD) (g0 : Nat) (p0 : Int32) (p1 : Int32) (hSh : ySh S) (hPo : yPo S d) (hm_g0 : g0 ∈ S.1) (hk_g0 : S.2.1 g0 = 3) (hz_p1 : p1 = 0 ∨ p1 = 1) : xWv l G yX3_read cX3_read 5 none 6 149 0 0 [.ref g0, .int p0, .int p1] (yW G S d) (fun u : yD => yAg S [3, 5, 7, 22, 23] d u ∧ (yPo S d → yPo S u) ∧ (True)) (fun u => yW G S u) := by
  intro sz
  refine xstart (by decide) (Nat.le_of_ble_eq_true rfl) (fun p e s m args below meth c ls C0 hr hlocks hin hsz hP hK hD hN hl => ?_)
  obtain ⟨hx, hb, hml, hown, htl⟩ := id C0
  subst hsz
  have hD := hD.self (sz := s.heap.size)
  generalize hAe : va_A (yW G S d) s.heap.size = A at hD ⊢
  have hA : ∀ q : Nat, s.heap.size ≤ q → A q := fun q h => by rw [← hAe]; exact Or.inr h
  have hS : va_S A s.heap s.heap [] := va_S.rf
  have hg0 : yAg S [3, 5, 7, 22, 23] d d := yAg.rf
  have hl : lv_has ls 5 [(0, .ref g0), (1, .int p0), (2, .int p1)] := hl
  refine lv_aload_n hx hb dX3_read_0 rfl (lv_at hl 0 rfl) ?_
  refine lv_iload_n hx hb dX3_read_1 rfl (lv_at hl 1 rfl) ?_
  refine yputI (ci := 3) (k := 5) (ty := .int) (C := RX3) (T := TX3) (N := 16) C0 hK hP hD hS hm_g0 hk_g0 (by decide) rfl inlX3 tyX3 tyX3_ok nmX3 (by decide) mW703 (fun _ h9 => h9) rfl (by decide +kernel) rfl rfl (Nat.le_of_ble_eq_true rfl) ysi_3_5 dX3_read_2 (fun H locs hP hD hS => ?_)
  obtain ⟨d_1, ed_1⟩ : ∃ z : yD, z = yi d g0 5 p0 := ⟨_, rfl⟩
  rw [← ed_1] at hP hD
  have hgd_1 : yAg S [3, 5, 7, 22, 23] d d_1 := by rw [ed_1]; exact yAg.i hg0 (by rw [hk_g0]; decide)
  have hPod_1 : yPo S d_1 := by rw [ed_1]; exact yPo.i hPo hk_g0 (Or.inl rfl)
  refine lv_aload_n hx hb dX3_read_5 rfl (lv_at hl 0 rfl) ?_
  refine lv_iload_n hx hb dX3_read_6 rfl (lv_at hl 2 rfl) ?_
  refine yputI (ci := 3) (k := 6) (ty := .boolean) (C := RX3) (T := TX3) (N := 16) C0 hK hP hD hS hm_g0 hk_g0 (by decide) rfl inlX3 tyX3 tyX3_ok nmX3 (by decide) mW704 (fun _ h9 => h9) rfl (by decide +kernel) (znb hz_p1).1 (znb hz_p1).2 (Nat.le_of_ble_eq_true rfl) ysi_3_6 dX3_read_7 (fun H locs hP hD hS => ?_)
  obtain ⟨d_2, ed_2⟩ : ∃ z : yD, z = yi d_1 g0 6 p1 := ⟨_, rfl⟩
  rw [← ed_2] at hP hD
  have hgd_2 : yAg S [3, 5, 7, 22, 23] d d_2 := by rw [ed_2]; exact yAg.i hgd_1 (by rw [hk_g0]; decide)
  have hPod_2 : yPo S d_2 := by rw [ed_2]; exact yPo.i hPod_1 hk_g0 (Or.inr hz_p1)
  refine lv_aload_n hx hb dX3_read_10 rfl (lv_at hl 0 rfl) ?_
  refine lv_iconst (v := 0) hx hb dX3_read_11 (by decide) ?_
  refine yputI (ci := 3) (k := 7) (ty := .int) (C := RX3) (T := TX3) (N := 16) C0 hK hP hD hS hm_g0 hk_g0 (by decide) rfl inlX3 tyX3 tyX3_ok nmX3 (by decide) mW705 (fun _ h9 => h9) rfl (by decide +kernel) rfl rfl (Nat.le_of_ble_eq_true rfl) ysi_3_7 dX3_read_12 (fun H locs hP hD hS => ?_)
  obtain ⟨d_3, ed_3⟩ : ∃ z : yD, z = yi d_2 g0 7 0 := ⟨_, rfl⟩
  rw [← ed_3] at hP hD
  have hgd_3 : yAg S [3, 5, 7, 22, 23] d d_3 := by rw [ed_3]; exact yAg.i hgd_2 (by rw [hk_g0]; decide)
  have hPod_3 : yPo S d_3 := by rw [ed_3]; exact yPo.i hPod_2 hk_g0 (Or.inl rfl)
  refine lv_aload_n hx hb dX3_read_15 rfl (lv_at hl 0 rfl) ?_
  refine lv_iconst (v := 1) hx hb dX3_read_16 (by decide) ?_
  refine yputI (ci := 3) (k := 8) (ty := .boolean) (C := RX3) (T := TX3) (N := 16) C0 hK hP hD hS hm_g0 hk_g0 (by decide) rfl inlX3 tyX3 tyX3_ok nmX3 (by decide) mW706 (fun _ h9 => h9) rfl (by decide +kernel) rfl rfl (Nat.le_of_ble_eq_true rfl) ysi_3_8 dX3_read_17 (fun H locs hP hD hS => ?_)
  obtain ⟨d_4, ed_4⟩ : ∃ z : yD, z = yi d_3 g0 8 1 := ⟨_, rfl⟩
  rw [← ed_4] at hP hD
  have hgd_4 : yAg S [3, 5, 7, 22, 23] d d_4 := by rw [ed_4]; exact yAg.i hgd_3 (by rw [hk_g0]; decide)
  have hPod_4 : yPo S d_4 := by rw [ed_4]; exact yPo.i hPod_3 hk_g0 (Or.inr (Or.inr rfl))
  refine lv_aload_n hx hb dX3_read_20 rfl (lv_at hl 0 rfl) ?_
  refine lv_lconst (v := 0) hx hb dX3_read_21 (by decide) ?_
  refine yputJ (ci := 3) (k := 9) (C := RX3) (T := TX3) (N := 16) C0 hK hP hD hS hm_g0 hk_g0 (by decide) rfl inlX3 tyX3 tyX3_ok nmX3 (by decide) mW707 (fun _ h9 => h9) rfl (by decide +kernel) (Nat.le_of_ble_eq_true rfl) ysj_3_9 dX3_read_22 (fun H locs hP hD hS => ?_)
  obtain ⟨d_5, ed_5⟩ : ∃ z : yD, z = yj d_4 g0 9 0 := ⟨_, rfl⟩
  rw [← ed_5] at hP hD
  have hgd_5 : yAg S [3, 5, 7, 22, 23] d d_5 := by rw [ed_5]; exact yAg.j hgd_4 (by rw [hk_g0]; decide)
  have hPod_5 : yPo S d_5 := by rw [ed_5]; exact hPod_4
  refine lv_iconst (v := 0) hx hb dX3_read_25 (by decide) ?_
  refine lv_istore_n (lv' := [(3, .int 0), (0, .ref g0), (1, .int p0), (2, .int p1)]) hx hb dX3_read_26 rfl hl (by decide) rfl (fun ls hl => ?_)
  refine yloop (σ := Int32 × yD) (fun x => (2147483647 - (x.1 : Int32).toInt).toNat) 27 (fun x H locs ls => va_P G.1 xcl (yW G S x.2) H ∧ va_D A (yW G S x.2) ∧ va_S A s.heap H locs ∧ yAg S [3, 5, 7, 22, 23] d x.2 ∧ yPo S x.2 ∧ lv_has ls 5 [(3, .int x.1), (0, .ref g0)]) (fun x H locs ls hI hnext_8 => ?_) (0, d_5) ⟨hP, hD, hS, hgd_5, hPod_5, lv_sub hl [0, 1] rfl⟩
  obtain ⟨v_6, d_7⟩ := x
  obtain ⟨hP, hD, hS, hgd_7, hPod_7, hl⟩ := hI
  have hl : lv_has ls 5 [(3, .int v_6), (0, .ref g0)] := hl
  refine lv_iload_n hx hb dX3_read_27 rfl (lv_at hl 0 rfl) ?_
  refine lv_bipush (v := 8) hx hb dX3_read_28 (by decide) ?_
  refine lv_icmp_ge (tgt := 117) hx hb dX3_read_30 (by decide) (fun c_10 => ?_) (fun c_10 => ?_)
  · refine lv_aload_n hx hb dX3_read_117 rfl (lv_at hl 1 rfl) ?_
    refine yVwv (As := []) (rest := []) C0 (g_X3_findOnce l G S d_7 g0 hSh hPod_7 hm_g0 hk_g0) ok_X3_findOnce (mW718 : Cond.methodLink RX3 83 yX3_findOnce ∈ wsT) ⟨Nat.le_of_ble_eq_true rfl, Nat.le_of_ble_eq_true rfl⟩ hP hD hS hA hK hN hm_g0 hk_g0 (by decide) rfl rfl rfl hl.1 rfl (Nat.le_of_ble_eq_true rfl) ⟨Nat.le_of_ble_eq_true rfl, Nat.le_of_ble_eq_true rfl⟩ dX3_read_118 (fun d_12 H locs hr_11 hP hD hS => ?_)
    obtain ⟨hgad_12, hpad_12, hxd_12⟩ := hr_11
    have hgd_12 : yAg S [3, 5, 7, 22, 23] d d_12 := yAg.tr hgd_7 hgad_12 (by first | decide | exact fun _ h => h)
    have hPod_12 : yPo S d_12 := hpad_12 hPod_7
    exact W.vret hx hb hr (fun t ht hW => ⟨⟨d_12, rfl, ⟨hgd_12, (fun _ => hPod_12), trivial⟩, by rw [ht]; exact hP, hD⟩, hS.F ht⟩) hS.2.2 dX3_read_121
  · refine lv_aload_n hx hb dX3_read_33 rfl (lv_at hl 1 rfl) ?_
    refine lv_iload_n hx hb dX3_read_34 rfl (lv_at hl 0 rfl) ?_
    refine yVri (As := [.int v_6]) (rest := []) C0 (g_X3_isMember l G S d_7 g0 v_6 hSh hm_g0 hk_g0) ok_X3_isMember (mW712 : Cond.methodLink RX3 60 yX3_isMember ∈ wsT) ⟨Nat.le_of_ble_eq_true rfl, Nat.le_of_ble_eq_true rfl⟩ hP hD hK hN hm_g0 hk_g0 (by decide) rfl rfl rfl hl.1 rfl (Nat.le_of_ble_eq_true rfl) ⟨Nat.le_of_ble_eq_true rfl, Nat.le_of_ble_eq_true rfl⟩ dX3_read_35 (fun r_13 hr_13 => ?_)
    refine lv_if_ne (tgt := 44) hx hb dX3_read_38 (by decide) (fun c_14 => ?_) (fun c_14 => ?_)
    · refine lv_aload_n hx hb dX3_read_44 rfl (lv_at hl 1 rfl) ?_
      refine lv_iload_n hx hb dX3_read_45 rfl (lv_at hl 0 rfl) ?_
      refine yVrr (As := [.int v_6]) (rest := []) C0 (g_X3_stayAt l G S d_7 g0 v_6 hSh hm_g0 hk_g0) ok_X3_stayAt (mW716 : Cond.methodLink RX3 64 yX3_stayAt ∈ wsT) ⟨Nat.le_of_ble_eq_true rfl, Nat.le_of_ble_eq_true rfl⟩ hP hD hK hN hm_g0 hk_g0 (by decide) rfl rfl rfl hl.1 rfl (Nat.le_of_ble_eq_true rfl) ⟨Nat.le_of_ble_eq_true rfl, Nat.le_of_ble_eq_true rfl⟩ dX3_read_46 (fun r_15 hr_15 => ?_)
      obtain ⟨hmr_15, hkr_15⟩ := hr_15
      refine lv_astore (lv' := [(4, .ref r_15), (3, .int v_6), (0, .ref g0)]) hx hb dX3_read_49 hl (by decide) rfl (fun ls hl => ?_)
      refine lv_aload hx hb dX3_read_51 (lv_at hl 0 rfl) ?_
      refine lv_aload_n hx hb dX3_read_53 rfl (lv_at hl 2 rfl) ?_
      refine yget (ci := 3) (k := 0) (v := .ref (S.2.2.1 g0 0)) (C := RX3) (T := TX3) (N := 16) C0 hK hP hm_g0 hk_g0 (by decide) rfl inlX3 (by decide) mW83 (fun _ h9 => h9) rfl dX3_read_54 ?_
      obtain ⟨hmy_16, hky_16⟩ := ySh.f3_0 hSh _ hm_g0 hk_g0
      refine lv_iload_n hx hb dX3_read_57 rfl (lv_at hl 1 rfl) ?_
      refine yVwv (As := [.ref (S.2.2.1 g0 0), .int v_6]) (rest := []) C0 (g_X5_read l G S d_7 r_15 (S.2.2.1 g0 0) v_6 hSh hPod_7 hmr_15 hkr_15 hmy_16 hky_16) ok_X5_read (mW717 : Cond.methodLink RX3 68 yX5_read ∈ wsT) ⟨Nat.le_of_ble_eq_true rfl, Nat.le_of_ble_eq_true rfl⟩ hP hD hS hA hK hN hmr_15 hkr_15 (by decide) rfl rfl rfl hl.1 rfl (Nat.le_of_ble_eq_true rfl) ⟨Nat.le_of_ble_eq_true rfl, Nat.le_of_ble_eq_true rfl⟩ dX3_read_58 (fun d_18 H locs hr_17 hP hD hS => ?_)
      obtain ⟨hgad_18, hpad_18, hxd_18⟩ := hr_17
      have hgd_18 : yAg S [3, 5, 7, 22, 23] d d_18 := yAg.tr hgd_7 hgad_18 (by first | decide | exact fun _ h => h)
      have hPod_18 : yPo S d_18 := hpad_18 hPod_7
      refine lv_aload hx hb dX3_read_61 (lv_at hl 0 rfl) ?_
      refine yget (ci := 5) (k := 5) (v := .int (d_18.1 r_15 5)) (C := RX5) (T := TX5) (N := 7) C0 hK hP hmr_15 hkr_15 (by decide) rfl inlX5 (by decide) mW708 (fun _ h9 => h9) rfl dX3_read_63 ?_
      refine lv_topi (fun z_19 ez_19 => ?_)
      have hzz_19 : z_19 = 0 ∨ z_19 = 1 := by rw [ez_19]; exact yPo.b hPod_18 hmr_15 hkr_15 rfl
      refine lv_if_eq (tgt := 111) hx hb dX3_read_66 (by decide) (fun c_20 => ?_) (fun c_20 => ?_)
      · refine lv_iinc (v := v_6 + 1) (lv' := [(3, .int (v_6 + 1)), (4, .ref r_15), (0, .ref g0)]) hx hb dX3_read_111 hl (k := 1) rfl rfl (by decide) rfl (fun ls hl => ?_)
        refine lv_goto (tgt := 27) hx hb dX3_read_114 (by decide) ?_
        exact hnext_8 (v_6 + 1, d_18) _ _ ls (xup c_10) ⟨hP, hD, hS, hgd_18, hPod_18, lv_sub hl [0, 2] rfl⟩
      · refine lv_aload_n hx hb dX3_read_69 rfl (lv_at hl 2 rfl) ?_
        refine lv_dup hx hb dX3_read_70 rfl ?_
        refine yget (ci := 3) (k := 7) (v := .int (d_18.1 g0 7)) (C := RX3) (T := TX3) (N := 16) C0 hK hP hm_g0 hk_g0 (by decide) rfl inlX3 (by decide) mW705 (fun _ h9 => h9) rfl dX3_read_71 ?_
        refine lv_topi (fun z_22 ez_22 => ?_)
        refine lv_iconst (v := 1) hx hb dX3_read_74 (by decide) ?_
        refine lv_iadd hx hb dX3_read_75 ?_
        refine lv_topi (fun z_23 ez_23 => ?_)
        refine yputI (ci := 3) (k := 7) (ty := .int) (C := RX3) (T := TX3) (N := 16) C0 hK hP hD hS hm_g0 hk_g0 (by decide) rfl inlX3 tyX3 tyX3_ok nmX3 (by decide) mW705 (fun _ h9 => h9) rfl (by decide +kernel) rfl rfl (Nat.le_of_ble_eq_true rfl) ysi_3_7 dX3_read_76 (fun H locs hP hD hS => ?_)
        obtain ⟨d_24, ed_24⟩ : ∃ z : yD, z = yi d_18 g0 7 z_23 := ⟨_, rfl⟩
        rw [← ed_24] at hP hD
        have hgd_24 : yAg S [3, 5, 7, 22, 23] d d_24 := by rw [ed_24]; exact yAg.i hgd_18 (by rw [hk_g0]; decide)
        have hPod_24 : yPo S d_24 := by rw [ed_24]; exact yPo.i hPod_18 hk_g0 (Or.inl rfl)
        refine lv_aload_n hx hb dX3_read_79 rfl (lv_at hl 2 rfl) ?_
        refine lv_dup hx hb dX3_read_80 rfl ?_
        refine yget (ci := 3) (k := 8) (v := .int (d_24.1 g0 8)) (C := RX3) (T := TX3) (N := 16) C0 hK hP hm_g0 hk_g0 (by decide) rfl inlX3 (by decide) mW706 (fun _ h9 => h9) rfl dX3_read_81 ?_
        refine lv_topi (fun z_25 ez_25 => ?_)
        have hzz_25 : z_25 = 0 ∨ z_25 = 1 := by rw [ez_25]; exact yPo.b hPod_24 hm_g0 hk_g0 rfl
        refine lv_aload hx hb dX3_read_84 (lv_at hl 0 rfl) ?_
        refine yget (ci := 5) (k := 6) (v := .int (d_24.1 r_15 6)) (C := RX5) (T := TX5) (N := 7) C0 hK hP hmr_15 hkr_15 (by decide) rfl inlX5 (by decide) mW709 (fun _ h9 => h9) rfl dX3_read_86 ?_
        refine lv_topi (fun z_26 ez_26 => ?_)
        have hzz_26 : z_26 = 0 ∨ z_26 = 1 := by rw [ez_26]; exact yPo.b hPod_24 hmr_15 hkr_15 rfl
        refine lv_iand hx hb dX3_read_89 ?_
        refine lv_topi (fun z_27 ez_27 => ?_)
        refine yputI (ci := 3) (k := 8) (ty := .boolean) (C := RX3) (T := TX3) (N := 16) C0 hK hP hD hS hm_g0 hk_g0 (by decide) rfl inlX3 tyX3 tyX3_ok nmX3 (by decide) mW706 (fun _ h9 => h9) rfl (by decide +kernel) (znb (by rw [ez_27]; exact zand hzz_25 hzz_26)).1 (znb (by rw [ez_27]; exact zand hzz_25 hzz_26)).2 (Nat.le_of_ble_eq_true rfl) ysi_3_8 dX3_read_90 (fun H locs hP hD hS => ?_)
        obtain ⟨d_28, ed_28⟩ : ∃ z : yD, z = yi d_24 g0 8 z_27 := ⟨_, rfl⟩
        rw [← ed_28] at hP hD
        have hgd_28 : yAg S [3, 5, 7, 22, 23] d d_28 := by rw [ed_28]; exact yAg.i hgd_24 (by rw [hk_g0]; decide)
        have hPod_28 : yPo S d_28 := by rw [ed_28]; exact yPo.i hPod_24 hk_g0 (Or.inr (by rw [ez_27]; exact zand hzz_25 hzz_26))
        refine lv_aload_n hx hb dX3_read_93 rfl (lv_at hl 2 rfl) ?_
        refine lv_dup hx hb dX3_read_94 rfl ?_
        refine yget (ci := 3) (k := 9) (v := .long (d_28.2.1 g0 9)) (C := RX3) (T := TX3) (N := 16) C0 hK hP hm_g0 hk_g0 (by decide) rfl inlX3 (by decide) mW707 (fun _ h9 => h9) rfl dX3_read_95 ?_
        refine lv_topl (fun z_29 ez_29 => ?_)
        refine lv_ldc2 (v := 2) hx hb hown (htl (.constantLong RX3 78 (2)) mW710) dX3_read_98 ?_
        refine lv_aload hx hb dX3_read_101 (lv_at hl 0 rfl) ?_
        refine yget (ci := 5) (k := 4) (v := .long (d_28.2.1 r_15 4)) (C := RX5) (T := TX5) (N := 7) C0 hK hP hmr_15 hkr_15 (by decide) rfl inlX5 (by decide) mW711 (fun _ h9 => h9) rfl dX3_read_103 ?_
        refine lv_topl (fun z_30 ez_30 => ?_)
        refine lv_lmul hx hb dX3_read_106 ?_
        refine lv_topl (fun z_31 ez_31 => ?_)
        refine lv_ladd hx hb dX3_read_107 ?_
        refine lv_topl (fun z_32 ez_32 => ?_)
        refine yputJ (ci := 3) (k := 9) (C := RX3) (T := TX3) (N := 16) C0 hK hP hD hS hm_g0 hk_g0 (by decide) rfl inlX3 tyX3 tyX3_ok nmX3 (by decide) mW707 (fun _ h9 => h9) rfl (by decide +kernel) (Nat.le_of_ble_eq_true rfl) ysj_3_9 dX3_read_108 (fun H locs hP hD hS => ?_)
        obtain ⟨d_33, ed_33⟩ : ∃ z : yD, z = yj d_28 g0 9 z_32 := ⟨_, rfl⟩
        rw [← ed_33] at hP hD
        have hgd_33 : yAg S [3, 5, 7, 22, 23] d d_33 := by rw [ed_33]; exact yAg.j hgd_28 (by rw [hk_g0]; decide)
        have hPod_33 : yPo S d_33 := by rw [ed_33]; exact hPod_28
        refine lv_iinc (v := v_6 + 1) (lv' := [(3, .int (v_6 + 1)), (4, .ref r_15), (0, .ref g0)]) hx hb dX3_read_111 hl (k := 1) rfl rfl (by decide) rfl (fun ls hl => ?_)
        refine lv_goto (tgt := 27) hx hb dX3_read_114 (by decide) ?_
        exact hnext_8 (v_6 + 1, d_33) _ _ ls (xup c_10) ⟨hP, hD, hS, hgd_33, hPod_33, lv_sub hl [0, 2] rfl⟩
    · refine lv_goto (tgt := 111) hx hb dX3_read_41 (by decide) ?_
      refine lv_iinc (v := v_6 + 1) (lv' := [(3, .int (v_6 + 1)), (0, .ref g0)]) hx hb dX3_read_111 hl (k := 0) rfl rfl (by decide) rfl (fun ls hl => ?_)
      refine lv_goto (tgt := 27) hx hb dX3_read_114 (by decide) ?_
      exact hnext_8 (v_6 + 1, d_7) _ _ ls (xup c_10) ⟨hP, hD, hS, hgd_7, hPod_7, lv_sub hl [0, 1] rfl⟩
