theorem dX9_status_0 : decode cX9_status 0 = .ok (.iload_n 1, 1) := by decide +kernel
theorem dX9_status_1 : decode cX9_status 1 = .ok (.tableswitch 89 0 8 #[51, 56, 56, 56, 56, 56, 63, 68, 73], 51) := by decide +kernel
theorem dX9_status_52 : decode cX9_status 52 = .ok (.aload_n 0, 1) := by decide +kernel
theorem dX9_status_53 : decode cX9_status 53 = .ok (.getfield 147, 3) := by decide +kernel
theorem dX9_status_56 : decode cX9_status 56 = .ok (.ireturn, 1) := by decide +kernel
theorem dX9_status_57 : decode cX9_status 57 = .ok (.aload_n 0, 1) := by decide +kernel
theorem dX9_status_58 : decode cX9_status 58 = .ok (.getfield 117, 3) := by decide +kernel
theorem dX9_status_61 : decode cX9_status 61 = .ok (.iload_n 1, 1) := by decide +kernel
theorem dX9_status_62 : decode cX9_status 62 = .ok (.iaload, 1) := by decide +kernel
theorem dX9_status_63 : decode cX9_status 63 = .ok (.ireturn, 1) := by decide +kernel
theorem dX9_status_64 : decode cX9_status 64 = .ok (.aload_n 0, 1) := by decide +kernel
theorem dX9_status_65 : decode cX9_status 65 = .ok (.getfield 150, 3) := by decide +kernel
theorem dX9_status_68 : decode cX9_status 68 = .ok (.ireturn, 1) := by decide +kernel
theorem dX9_status_69 : decode cX9_status 69 = .ok (.aload_n 0, 1) := by decide +kernel
theorem dX9_status_70 : decode cX9_status 70 = .ok (.getfield 180, 3) := by decide +kernel
theorem dX9_status_73 : decode cX9_status 73 = .ok (.ireturn, 1) := by decide +kernel
theorem dX9_status_74 : decode cX9_status 74 = .ok (.aload_n 0, 1) := by decide +kernel
theorem dX9_status_75 : decode cX9_status 75 = .ok (.getfield 7, 3) := by decide +kernel
theorem dX9_status_78 : decode cX9_status 78 = .ok (.ifCond .ge 7, 3) := by decide +kernel
theorem dX9_status_81 : decode cX9_status 81 = .ok (.iconst 0, 1) := by decide +kernel
theorem dX9_status_82 : decode cX9_status 82 = .ok (.goto 7, 3) := by decide +kernel
theorem dX9_status_85 : decode cX9_status 85 = .ok (.aload_n 0, 1) := by decide +kernel
theorem dX9_status_86 : decode cX9_status 86 = .ok (.getfield 326, 3) := by decide +kernel
theorem dX9_status_89 : decode cX9_status 89 = .ok (.ireturn, 1) := by decide +kernel
theorem dX9_status_90 : decode cX9_status 90 = .ok (.iconst (-1), 1) := by decide +kernel
theorem dX9_status_91 : decode cX9_status 91 = .ok (.ireturn, 1) := by decide +kernel
set_option maxHeartbeats 4000000 in
set_option maxRecDepth 100000 in
theorem g_X9_status (l : Launch) (G : xG) (S : yS) (d : yD) (h0 : Nat) (p0 : Int32) (hSh : ySh S) (hm_h0 : h0 ∈ S.1) (hk_h0 : S.2.1 h0 = 9) (hI : yMI S d h0) : xRi l G yX9_status cX9_status 2 (some .int) 0 0 [.ref h0, .int p0] (yW G S d) (fun r => True) := by
  intro sz
  refine xstart (by decide) (Nat.le_of_ble_eq_true rfl) (fun p e s m args below meth c ls C0 hr hlocks hin hsz hP hK hD hN hl => ?_)
  obtain ⟨hx, hb, hml, hown, htl⟩ := id C0
  have hl : lv_has ls 2 [(0, .ref h0), (1, .int p0)] := hl
  refine lv_iload_n hx hb dX9_status_0 rfl (lv_at hl 1 rfl) ?_
  rcases xtab p0 9 (by decide) with hsw_1 | ⟨k_2, hk_2, hsw_1⟩
  · refine lv_tableOut (tgt := 90) hx hb dX9_status_1 (by omega) (by decide) ?_
    refine lv_iconst (v := (-1)) hx hb dX9_status_90 (by decide) ?_
    exact W.iret (v := (-1)) hx hb hr (fun t ht hW => ⟨(-1), rfl, trivial, ht⟩) (fun q hq => by cases hq) dX9_status_91
  · obtain rfl | rfl | rfl | rfl | rfl | rfl | rfl | rfl | rfl : k_2 = 0 ∨ k_2 = 1 ∨ k_2 = 2 ∨ k_2 = 3 ∨ k_2 = 4 ∨ k_2 = 5 ∨ k_2 = 6 ∨ k_2 = 7 ∨ k_2 = 8 := by omega
    · subst hsw_1
      refine lv_tableIn (tgt := 52) (off := 51) hx hb dX9_status_1 (by decide +kernel) (by decide +kernel) (by decide +kernel) (by decide) ?_
      refine lv_aload_n hx hb dX9_status_52 rfl (lv_at hl 0 rfl) ?_
      refine yget (ci := 9) (k := 38) (v := .int (d.1 h0 38)) (C := RX9) (T := TX9) (N := 67) C0 hK hP hm_h0 hk_h0 (by decide) rfl inlX9 (by decide) mW175 (fun _ h9 => h9) rfl dX9_status_53 ?_
      refine lv_topi (fun z_3 ez_3 => ?_)
      exact W.iret (v := z_3) hx hb hr (fun t ht hW => ⟨z_3, rfl, trivial, ht⟩) (fun q hq => by cases hq) dX9_status_56
    · subst hsw_1
      refine lv_tableIn (tgt := 57) (off := 56) hx hb dX9_status_1 (by decide +kernel) (by decide +kernel) (by decide +kernel) (by decide) ?_
      refine lv_aload_n hx hb dX9_status_57 rfl (lv_at hl 0 rfl) ?_
      refine yget (ci := 9) (k := 39) (v := .ref (S.2.2.1 h0 39)) (C := RX9) (T := TX9) (N := 67) C0 hK hP hm_h0 hk_h0 (by decide) rfl inlX9 (by decide) mW144 (fun _ h9 => h9) rfl dX9_status_58 ?_
      obtain ⟨hmy_4, hky_4⟩ := ySh.f9_39 hSh _ hm_h0 hk_h0
      refine lv_iload_n hx hb dX9_status_61 rfl (lv_at hl 1 rfl) ?_
      refine yald C0 hK hP hmy_4 hky_4 (by decide) rfl 0 rfl (by unfold vp_in; decide +kernel) dX9_status_62 ?_
      refine lv_topi (fun z_5 ez_5 => ?_)
      exact W.iret (v := z_5) hx hb hr (fun t ht hW => ⟨z_5, rfl, trivial, ht⟩) (fun q hq => by cases hq) dX9_status_63
    · subst hsw_1
      refine lv_tableIn (tgt := 57) (off := 56) hx hb dX9_status_1 (by decide +kernel) (by decide +kernel) (by decide +kernel) (by decide) ?_
      refine lv_aload_n hx hb dX9_status_57 rfl (lv_at hl 0 rfl) ?_
      refine yget (ci := 9) (k := 39) (v := .ref (S.2.2.1 h0 39)) (C := RX9) (T := TX9) (N := 67) C0 hK hP hm_h0 hk_h0 (by decide) rfl inlX9 (by decide) mW144 (fun _ h9 => h9) rfl dX9_status_58 ?_
      obtain ⟨hmy_6, hky_6⟩ := ySh.f9_39 hSh _ hm_h0 hk_h0
      refine lv_iload_n hx hb dX9_status_61 rfl (lv_at hl 1 rfl) ?_
      refine yald C0 hK hP hmy_6 hky_6 (by decide) rfl 0 rfl (by unfold vp_in; decide +kernel) dX9_status_62 ?_
      refine lv_topi (fun z_7 ez_7 => ?_)
      exact W.iret (v := z_7) hx hb hr (fun t ht hW => ⟨z_7, rfl, trivial, ht⟩) (fun q hq => by cases hq) dX9_status_63
    · subst hsw_1
      refine lv_tableIn (tgt := 57) (off := 56) hx hb dX9_status_1 (by decide +kernel) (by decide +kernel) (by decide +kernel) (by decide) ?_
      refine lv_aload_n hx hb dX9_status_57 rfl (lv_at hl 0 rfl) ?_
      refine yget (ci := 9) (k := 39) (v := .ref (S.2.2.1 h0 39)) (C := RX9) (T := TX9) (N := 67) C0 hK hP hm_h0 hk_h0 (by decide) rfl inlX9 (by decide) mW144 (fun _ h9 => h9) rfl dX9_status_58 ?_
      obtain ⟨hmy_8, hky_8⟩ := ySh.f9_39 hSh _ hm_h0 hk_h0
      refine lv_iload_n hx hb dX9_status_61 rfl (lv_at hl 1 rfl) ?_
      refine yald C0 hK hP hmy_8 hky_8 (by decide) rfl 0 rfl (by unfold vp_in; decide +kernel) dX9_status_62 ?_
      refine lv_topi (fun z_9 ez_9 => ?_)
      exact W.iret (v := z_9) hx hb hr (fun t ht hW => ⟨z_9, rfl, trivial, ht⟩) (fun q hq => by cases hq) dX9_status_63
    · subst hsw_1
      refine lv_tableIn (tgt := 57) (off := 56) hx hb dX9_status_1 (by decide +kernel) (by decide +kernel) (by decide +kernel) (by decide) ?_
      refine lv_aload_n hx hb dX9_status_57 rfl (lv_at hl 0 rfl) ?_
      refine yget (ci := 9) (k := 39) (v := .ref (S.2.2.1 h0 39)) (C := RX9) (T := TX9) (N := 67) C0 hK hP hm_h0 hk_h0 (by decide) rfl inlX9 (by decide) mW144 (fun _ h9 => h9) rfl dX9_status_58 ?_
      obtain ⟨hmy_10, hky_10⟩ := ySh.f9_39 hSh _ hm_h0 hk_h0
      refine lv_iload_n hx hb dX9_status_61 rfl (lv_at hl 1 rfl) ?_
      refine yald C0 hK hP hmy_10 hky_10 (by decide) rfl 0 rfl (by unfold vp_in; decide +kernel) dX9_status_62 ?_
      refine lv_topi (fun z_11 ez_11 => ?_)
      exact W.iret (v := z_11) hx hb hr (fun t ht hW => ⟨z_11, rfl, trivial, ht⟩) (fun q hq => by cases hq) dX9_status_63
    · subst hsw_1
      refine lv_tableIn (tgt := 57) (off := 56) hx hb dX9_status_1 (by decide +kernel) (by decide +kernel) (by decide +kernel) (by decide) ?_
      refine lv_aload_n hx hb dX9_status_57 rfl (lv_at hl 0 rfl) ?_
      refine yget (ci := 9) (k := 39) (v := .ref (S.2.2.1 h0 39)) (C := RX9) (T := TX9) (N := 67) C0 hK hP hm_h0 hk_h0 (by decide) rfl inlX9 (by decide) mW144 (fun _ h9 => h9) rfl dX9_status_58 ?_
      obtain ⟨hmy_12, hky_12⟩ := ySh.f9_39 hSh _ hm_h0 hk_h0
      refine lv_iload_n hx hb dX9_status_61 rfl (lv_at hl 1 rfl) ?_
      refine yald C0 hK hP hmy_12 hky_12 (by decide) rfl 0 rfl (by unfold vp_in; decide +kernel) dX9_status_62 ?_
      refine lv_topi (fun z_13 ez_13 => ?_)
      exact W.iret (v := z_13) hx hb hr (fun t ht hW => ⟨z_13, rfl, trivial, ht⟩) (fun q hq => by cases hq) dX9_status_63
    · subst hsw_1
      refine lv_tableIn (tgt := 64) (off := 63) hx hb dX9_status_1 (by decide +kernel) (by decide +kernel) (by decide +kernel) (by decide) ?_
      refine lv_aload_n hx hb dX9_status_64 rfl (lv_at hl 0 rfl) ?_
      refine yget (ci := 9) (k := 0) (v := .int (d.1 h0 0)) (C := RX9) (T := TX9) (N := 67) C0 hK hP hm_h0 hk_h0 (by decide) rfl inlX9 (by decide) mW176 (fun _ h9 => h9) rfl dX9_status_65 ?_
      refine lv_topi (fun z_14 ez_14 => ?_)
      exact W.iret (v := z_14) hx hb hr (fun t ht hW => ⟨z_14, rfl, trivial, ht⟩) (fun q hq => by cases hq) dX9_status_68
    · subst hsw_1
      refine lv_tableIn (tgt := 69) (off := 68) hx hb dX9_status_1 (by decide +kernel) (by decide +kernel) (by decide +kernel) (by decide) ?_
      refine lv_aload_n hx hb dX9_status_69 rfl (lv_at hl 0 rfl) ?_
      refine yget (ci := 9) (k := 1) (v := .int (d.1 h0 1)) (C := RX9) (T := TX9) (N := 67) C0 hK hP hm_h0 hk_h0 (by decide) rfl inlX9 (by decide) mW364 (fun _ h9 => h9) rfl dX9_status_70 ?_
      refine lv_topi (fun z_15 ez_15 => ?_)
      exact W.iret (v := z_15) hx hb hr (fun t ht hW => ⟨z_15, rfl, trivial, ht⟩) (fun q hq => by cases hq) dX9_status_73
    · subst hsw_1
      refine lv_tableIn (tgt := 74) (off := 73) hx hb dX9_status_1 (by decide +kernel) (by decide +kernel) (by decide +kernel) (by decide) ?_
      refine lv_aload_n hx hb dX9_status_74 rfl (lv_at hl 0 rfl) ?_
      refine yget (ci := 9) (k := 3) (v := .int (d.1 h0 3)) (C := RX9) (T := TX9) (N := 67) C0 hK hP hm_h0 hk_h0 (by decide) rfl inlX9 (by decide) mW106 (fun _ h9 => h9) rfl dX9_status_75 ?_
      refine lv_topi (fun z_16 ez_16 => ?_)
      refine lv_if_ge (tgt := 85) hx hb dX9_status_78 (by decide) (fun c_17 => ?_) (fun c_17 => ?_)
      · refine lv_aload_n hx hb dX9_status_85 rfl (lv_at hl 0 rfl) ?_
        refine yget (ci := 9) (k := 2) (v := .int (d.1 h0 2)) (C := RX9) (T := TX9) (N := 67) C0 hK hP hm_h0 hk_h0 (by decide) rfl inlX9 (by decide) mW888 (fun _ h9 => h9) rfl dX9_status_86 ?_
        refine lv_topi (fun z_18 ez_18 => ?_)
        exact W.iret (v := z_18) hx hb hr (fun t ht hW => ⟨z_18, rfl, trivial, ht⟩) (fun q hq => by cases hq) dX9_status_89
      · refine lv_iconst (v := 0) hx hb dX9_status_81 (by decide) ?_
        refine lv_goto (tgt := 89) hx hb dX9_status_82 (by decide) ?_
        exact W.iret (v := 0) hx hb hr (fun t ht hW => ⟨0, rfl, trivial, ht⟩) (fun q hq => by cases hq) dX9_status_89
