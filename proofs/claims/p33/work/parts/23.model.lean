theorem dX9_adds_0 : decode cX9_adds 0 = .ok (.aload_n 0, 1) := by decide +kernel
theorem dX9_adds_1 : decode cX9_adds 1 = .ok (.getfield 17, 3) := by decide +kernel
theorem dX9_adds_4 : decode cX9_adds 4 = .ok (.iload_n 1, 1) := by decide +kernel
theorem dX9_adds_5 : decode cX9_adds 5 = .ok (.baload, 1) := by decide +kernel
theorem dX9_adds_6 : decode cX9_adds 6 = .ok (.tableswitch 84 0 3 #[30, 32, 34, 45], 30) := by decide +kernel
theorem dX9_adds_36 : decode cX9_adds 36 = .ok (.iconst 2, 1) := by decide +kernel
theorem dX9_adds_37 : decode cX9_adds 37 = .ok (.ireturn, 1) := by decide +kernel
theorem dX9_adds_38 : decode cX9_adds 38 = .ok (.iconst 0, 1) := by decide +kernel
theorem dX9_adds_39 : decode cX9_adds 39 = .ok (.ireturn, 1) := by decide +kernel
theorem dX9_adds_40 : decode cX9_adds 40 = .ok (.iload_n 2, 1) := by decide +kernel
theorem dX9_adds_41 : decode cX9_adds 41 = .ok (.iconst 1, 1) := by decide +kernel
theorem dX9_adds_42 : decode cX9_adds 42 = .ok (.if_icmp .ne 7, 3) := by decide +kernel
theorem dX9_adds_45 : decode cX9_adds 45 = .ok (.iconst 2, 1) := by decide +kernel
theorem dX9_adds_46 : decode cX9_adds 46 = .ok (.goto 4, 3) := by decide +kernel
theorem dX9_adds_49 : decode cX9_adds 49 = .ok (.iconst 0, 1) := by decide +kernel
theorem dX9_adds_50 : decode cX9_adds 50 = .ok (.ireturn, 1) := by decide +kernel
theorem dX9_adds_51 : decode cX9_adds 51 = .ok (.aload_n 0, 1) := by decide +kernel
theorem dX9_adds_52 : decode cX9_adds 52 = .ok (.getfield 33, 3) := by decide +kernel
theorem dX9_adds_55 : decode cX9_adds 55 = .ok (.iload_n 1, 1) := by decide +kernel
theorem dX9_adds_56 : decode cX9_adds 56 = .ok (.iaload, 1) := by decide +kernel
theorem dX9_adds_57 : decode cX9_adds 57 = .ok (.iconst 1, 1) := by decide +kernel
theorem dX9_adds_58 : decode cX9_adds 58 = .ok (.if_icmp .ne 7, 3) := by decide +kernel
theorem dX9_adds_61 : decode cX9_adds 61 = .ok (.iconst 0, 1) := by decide +kernel
theorem dX9_adds_62 : decode cX9_adds 62 = .ok (.goto 27, 3) := by decide +kernel
theorem dX9_adds_65 : decode cX9_adds 65 = .ok (.aload_n 0, 1) := by decide +kernel
theorem dX9_adds_66 : decode cX9_adds 66 = .ok (.getfield 33, 3) := by decide +kernel
theorem dX9_adds_69 : decode cX9_adds 69 = .ok (.iload_n 1, 1) := by decide +kernel
theorem dX9_adds_70 : decode cX9_adds 70 = .ok (.iaload, 1) := by decide +kernel
theorem dX9_adds_71 : decode cX9_adds 71 = .ok (.iconst 2, 1) := by decide +kernel
theorem dX9_adds_72 : decode cX9_adds 72 = .ok (.if_icmp .ne 16, 3) := by decide +kernel
theorem dX9_adds_75 : decode cX9_adds 75 = .ok (.iload_n 2, 1) := by decide +kernel
theorem dX9_adds_76 : decode cX9_adds 76 = .ok (.iconst 1, 1) := by decide +kernel
theorem dX9_adds_77 : decode cX9_adds 77 = .ok (.if_icmp .ne 7, 3) := by decide +kernel
theorem dX9_adds_80 : decode cX9_adds 80 = .ok (.iconst 2, 1) := by decide +kernel
theorem dX9_adds_81 : decode cX9_adds 81 = .ok (.goto 8, 3) := by decide +kernel
theorem dX9_adds_84 : decode cX9_adds 84 = .ok (.iconst 0, 1) := by decide +kernel
theorem dX9_adds_85 : decode cX9_adds 85 = .ok (.goto 4, 3) := by decide +kernel
theorem dX9_adds_88 : decode cX9_adds 88 = .ok (.iconst 2, 1) := by decide +kernel
theorem dX9_adds_89 : decode cX9_adds 89 = .ok (.ireturn, 1) := by decide +kernel
theorem dX9_adds_90 : decode cX9_adds 90 = .ok (.iconst 1, 1) := by decide +kernel
theorem dX9_adds_91 : decode cX9_adds 91 = .ok (.ireturn, 1) := by decide +kernel
set_option maxHeartbeats 4000000 in
set_option maxRecDepth 100000 in
theorem g_X9_adds (l : Launch) (G : xG) (S : yS) (d : yD) (h0 : Nat) (p0 : Int32) (p1 : Int32) (hSh : ySh S) (hm_h0 : h0 ∈ S.1) (hk_h0 : S.2.1 h0 = 9) (hr_p0 : 0 ≤ (p0 : Int32).toInt ∧ (p0 : Int32).toInt ≤ 2399) : xRi l G yX9_adds cX9_adds 3 (some .int) 0 0 [.ref h0, .int p0, .int p1] (yW G S d) (fun r => True) := by
  intro sz
  refine xstart (by decide) (Nat.le_of_ble_eq_true rfl) (fun p e s m args below meth c ls C0 hr hlocks hin hsz hP hK hD hN hl => ?_)
  obtain ⟨hx, hb, hml, hown, htl⟩ := id C0
  have hl : lv_has ls 3 [(0, .ref h0), (1, .int p0), (2, .int p1)] := hl
  refine lv_aload_n hx hb dX9_adds_0 rfl (lv_at hl 0 rfl) ?_
  refine yget (ci := 9) (k := 5) (v := .ref (S.2.2.1 h0 5)) (C := RX9) (T := TX9) (N := 67) C0 hK hP hm_h0 hk_h0 (by decide) rfl inlX9 (by decide) mW109 (fun _ h9 => h9) rfl dX9_adds_1 ?_
  obtain ⟨hmy_1, hky_1⟩ := ySh.f9_5 hSh _ hm_h0 hk_h0
  refine lv_iload_n hx hb dX9_adds_4 rfl (lv_at hl 1 rfl) ?_
  refine yaldB C0 hK hP hmy_1 hky_1 (by decide) rfl 1 rfl (xinT 2400 rfl (by omega) (by omega)) dX9_adds_5 ?_
  refine lv_topi (fun z_2 ez_2 => ?_)
  rcases xtab z_2 4 (by decide) with hsw_3 | ⟨k_4, hk_4, hsw_3⟩
  · refine lv_tableOut (tgt := 90) hx hb dX9_adds_6 (by omega) (by decide) ?_
    refine lv_iconst (v := 1) hx hb dX9_adds_90 (by decide) ?_
    exact W.iret (v := 1) hx hb hr (fun t ht hW => ⟨1, rfl, trivial, ht⟩) (fun q hq => by cases hq) dX9_adds_91
  · obtain rfl | rfl | rfl | rfl : k_4 = 0 ∨ k_4 = 1 ∨ k_4 = 2 ∨ k_4 = 3 := by omega
    · subst hsw_3
      refine lv_tableIn (tgt := 36) (off := 30) hx hb dX9_adds_6 (by decide +kernel) (by decide +kernel) (by decide +kernel) (by decide) ?_
      refine lv_iconst (v := 2) hx hb dX9_adds_36 (by decide) ?_
      exact W.iret (v := 2) hx hb hr (fun t ht hW => ⟨2, rfl, trivial, ht⟩) (fun q hq => by cases hq) dX9_adds_37
    · subst hsw_3
      refine lv_tableIn (tgt := 38) (off := 32) hx hb dX9_adds_6 (by decide +kernel) (by decide +kernel) (by decide +kernel) (by decide) ?_
      refine lv_iconst (v := 0) hx hb dX9_adds_38 (by decide) ?_
      exact W.iret (v := 0) hx hb hr (fun t ht hW => ⟨0, rfl, trivial, ht⟩) (fun q hq => by cases hq) dX9_adds_39
    · subst hsw_3
      refine lv_tableIn (tgt := 40) (off := 34) hx hb dX9_adds_6 (by decide +kernel) (by decide +kernel) (by decide +kernel) (by decide) ?_
      refine lv_iload_n hx hb dX9_adds_40 rfl (lv_at hl 2 rfl) ?_
      refine lv_iconst (v := 1) hx hb dX9_adds_41 (by decide) ?_
      refine lv_icmp_ne (tgt := 49) hx hb dX9_adds_42 (by decide) (fun c_5 => ?_) (fun c_5 => ?_)
      · refine lv_iconst (v := 0) hx hb dX9_adds_49 (by decide) ?_
        exact W.iret (v := 0) hx hb hr (fun t ht hW => ⟨0, rfl, trivial, ht⟩) (fun q hq => by cases hq) dX9_adds_50
      · refine lv_iconst (v := 2) hx hb dX9_adds_45 (by decide) ?_
        refine lv_goto (tgt := 50) hx hb dX9_adds_46 (by decide) ?_
        exact W.iret (v := 2) hx hb hr (fun t ht hW => ⟨2, rfl, trivial, ht⟩) (fun q hq => by cases hq) dX9_adds_50
    · subst hsw_3
      refine lv_tableIn (tgt := 51) (off := 45) hx hb dX9_adds_6 (by decide +kernel) (by decide +kernel) (by decide +kernel) (by decide) ?_
      refine lv_aload_n hx hb dX9_adds_51 rfl (lv_at hl 0 rfl) ?_
      refine yget (ci := 9) (k := 10) (v := .ref (S.2.2.1 h0 10)) (C := RX9) (T := TX9) (N := 67) C0 hK hP hm_h0 hk_h0 (by decide) rfl inlX9 (by decide) mW114 (fun _ h9 => h9) rfl dX9_adds_52 ?_
      obtain ⟨hmy_6, hky_6⟩ := ySh.f9_10 hSh _ hm_h0 hk_h0
      refine lv_iload_n hx hb dX9_adds_55 rfl (lv_at hl 1 rfl) ?_
      refine yald C0 hK hP hmy_6 hky_6 (by decide) rfl 0 rfl (xinT 2400 rfl (by omega) (by omega)) dX9_adds_56 ?_
      refine lv_topi (fun z_7 ez_7 => ?_)
      refine lv_iconst (v := 1) hx hb dX9_adds_57 (by decide) ?_
      refine lv_icmp_ne (tgt := 65) hx hb dX9_adds_58 (by decide) (fun c_8 => ?_) (fun c_8 => ?_)
      · refine lv_aload_n hx hb dX9_adds_65 rfl (lv_at hl 0 rfl) ?_
        refine yget (ci := 9) (k := 10) (v := .ref (S.2.2.1 h0 10)) (C := RX9) (T := TX9) (N := 67) C0 hK hP hm_h0 hk_h0 (by decide) rfl inlX9 (by decide) mW114 (fun _ h9 => h9) rfl dX9_adds_66 ?_
        refine lv_iload_n hx hb dX9_adds_69 rfl (lv_at hl 1 rfl) ?_
        have F_10 := fne (rfl : (z_7 : Int32).toInt = (z_7 : Int32).toInt) (by decide +kernel : (1 : Int32).toInt = 1) c_8
        refine yald C0 hK hP hmy_6 hky_6 (by decide) rfl 0 rfl (xinT 2400 rfl (by omega) (by omega)) dX9_adds_70 ?_
        refine lv_topi (fun z_11 ez_11 => ?_)
        refine lv_iconst (v := 2) hx hb dX9_adds_71 (by decide) ?_
        refine lv_icmp_ne (tgt := 88) hx hb dX9_adds_72 (by decide) (fun c_12 => ?_) (fun c_12 => ?_)
        · refine lv_iconst (v := 2) hx hb dX9_adds_88 (by decide) ?_
          exact W.iret (v := 2) hx hb hr (fun t ht hW => ⟨2, rfl, trivial, ht⟩) (fun q hq => by cases hq) dX9_adds_89
        · refine lv_iload_n hx hb dX9_adds_75 rfl (lv_at hl 2 rfl) ?_
          refine lv_iconst (v := 1) hx hb dX9_adds_76 (by decide) ?_
          refine lv_icmp_ne (tgt := 84) hx hb dX9_adds_77 (by decide) (fun c_13 => ?_) (fun c_13 => ?_)
          · refine lv_iconst (v := 0) hx hb dX9_adds_84 (by decide) ?_
            refine lv_goto (tgt := 89) hx hb dX9_adds_85 (by decide) ?_
            exact W.iret (v := 0) hx hb hr (fun t ht hW => ⟨0, rfl, trivial, ht⟩) (fun q hq => by cases hq) dX9_adds_89
          · refine lv_iconst (v := 2) hx hb dX9_adds_80 (by decide) ?_
            refine lv_goto (tgt := 89) hx hb dX9_adds_81 (by decide) ?_
            exact W.iret (v := 2) hx hb hr (fun t ht hW => ⟨2, rfl, trivial, ht⟩) (fun q hq => by cases hq) dX9_adds_89
      · refine lv_iconst (v := 0) hx hb dX9_adds_61 (by decide) ?_
        refine lv_goto (tgt := 89) hx hb dX9_adds_62 (by decide) ?_
        exact W.iret (v := 0) hx hb hr (fun t ht hW => ⟨0, rfl, trivial, ht⟩) (fun q hq => by cases hq) dX9_adds_89
theorem dX9_hasMinute_0 : decode cX9_hasMinute 0 = .ok (.aload_n 0, 1) := by decide +kernel
theorem dX9_hasMinute_1 : decode cX9_hasMinute 1 = .ok (.getfield 23, 3) := by decide +kernel
theorem dX9_hasMinute_4 : decode cX9_hasMinute 4 = .ok (.iload_n 1, 1) := by decide +kernel
theorem dX9_hasMinute_5 : decode cX9_hasMinute 5 = .ok (.iaload, 1) := by decide +kernel
theorem dX9_hasMinute_6 : decode cX9_hasMinute 6 = .ok (.istore 5, 2) := by decide +kernel
theorem dX9_hasMinute_8 : decode cX9_hasMinute 8 = .ok (.aload_n 0, 1) := by decide +kernel
theorem dX9_hasMinute_9 : decode cX9_hasMinute 9 = .ok (.getfield 27, 3) := by decide +kernel
theorem dX9_hasMinute_12 : decode cX9_hasMinute 12 = .ok (.iload_n 1, 1) := by decide +kernel
theorem dX9_hasMinute_13 : decode cX9_hasMinute 13 = .ok (.iaload, 1) := by decide +kernel
theorem dX9_hasMinute_14 : decode cX9_hasMinute 14 = .ok (.istore 6, 2) := by decide +kernel
theorem dX9_hasMinute_16 : decode cX9_hasMinute 16 = .ok (.iload_n 3, 1) := by decide +kernel
theorem dX9_hasMinute_17 : decode cX9_hasMinute 17 = .ok (.sipush 1440, 3) := by decide +kernel
theorem dX9_hasMinute_20 : decode cX9_hasMinute 20 = .ok (.irem, 1) := by decide +kernel
theorem dX9_hasMinute_21 : decode cX9_hasMinute 21 = .ok (.istore 7, 2) := by decide +kernel
theorem dX9_hasMinute_23 : decode cX9_hasMinute 23 = .ok (.aload_n 0, 1) := by decide +kernel
theorem dX9_hasMinute_24 : decode cX9_hasMinute 24 = .ok (.getfield 20, 3) := by decide +kernel
theorem dX9_hasMinute_27 : decode cX9_hasMinute 27 = .ok (.iload_n 1, 1) := by decide +kernel
theorem dX9_hasMinute_28 : decode cX9_hasMinute 28 = .ok (.baload, 1) := by decide +kernel
theorem dX9_hasMinute_29 : decode cX9_hasMinute 29 = .ok (.tableswitch 111 0 3 #[31, 33, 82, 98], 31) := by decide +kernel
theorem dX9_hasMinute_60 : decode cX9_hasMinute 60 = .ok (.iconst 1, 1) := by decide +kernel
theorem dX9_hasMinute_61 : decode cX9_hasMinute 61 = .ok (.ireturn, 1) := by decide +kernel
theorem dX9_hasMinute_62 : decode cX9_hasMinute 62 = .ok (.iload 5, 2) := by decide +kernel
theorem dX9_hasMinute_64 : decode cX9_hasMinute 64 = .ok (.iload 6, 2) := by decide +kernel
theorem dX9_hasMinute_66 : decode cX9_hasMinute 66 = .ok (.if_icmp .le 25, 3) := by decide +kernel
theorem dX9_hasMinute_69 : decode cX9_hasMinute 69 = .ok (.iload 7, 2) := by decide +kernel
theorem dX9_hasMinute_71 : decode cX9_hasMinute 71 = .ok (.iload 5, 2) := by decide +kernel
theorem dX9_hasMinute_73 : decode cX9_hasMinute 73 = .ok (.if_icmp .ge 10, 3) := by decide +kernel
theorem dX9_hasMinute_76 : decode cX9_hasMinute 76 = .ok (.iload 7, 2) := by decide +kernel
theorem dX9_hasMinute_78 : decode cX9_hasMinute 78 = .ok (.iload 6, 2) := by decide +kernel
theorem dX9_hasMinute_80 : decode cX9_hasMinute 80 = .ok (.if_icmp .ge 7, 3) := by decide +kernel
theorem dX9_hasMinute_83 : decode cX9_hasMinute 83 = .ok (.iconst 1, 1) := by decide +kernel
theorem dX9_hasMinute_84 : decode cX9_hasMinute 84 = .ok (.goto 26, 3) := by decide +kernel
theorem dX9_hasMinute_87 : decode cX9_hasMinute 87 = .ok (.iconst 0, 1) := by decide +kernel
theorem dX9_hasMinute_88 : decode cX9_hasMinute 88 = .ok (.goto 22, 3) := by decide +kernel
theorem dX9_hasMinute_91 : decode cX9_hasMinute 91 = .ok (.iload 7, 2) := by decide +kernel
theorem dX9_hasMinute_93 : decode cX9_hasMinute 93 = .ok (.iload 5, 2) := by decide +kernel
theorem dX9_hasMinute_95 : decode cX9_hasMinute 95 = .ok (.if_icmp .lt 14, 3) := by decide +kernel
theorem dX9_hasMinute_98 : decode cX9_hasMinute 98 = .ok (.iload 7, 2) := by decide +kernel
theorem dX9_hasMinute_100 : decode cX9_hasMinute 100 = .ok (.iload 6, 2) := by decide +kernel
theorem dX9_hasMinute_102 : decode cX9_hasMinute 102 = .ok (.if_icmp .ge 7, 3) := by decide +kernel
theorem dX9_hasMinute_105 : decode cX9_hasMinute 105 = .ok (.iconst 1, 1) := by decide +kernel
theorem dX9_hasMinute_106 : decode cX9_hasMinute 106 = .ok (.goto 4, 3) := by decide +kernel
theorem dX9_hasMinute_109 : decode cX9_hasMinute 109 = .ok (.iconst 0, 1) := by decide +kernel
theorem dX9_hasMinute_110 : decode cX9_hasMinute 110 = .ok (.ireturn, 1) := by decide +kernel
theorem dX9_hasMinute_111 : decode cX9_hasMinute 111 = .ok (.aload_n 0, 1) := by decide +kernel
theorem dX9_hasMinute_112 : decode cX9_hasMinute 112 = .ok (.getfield 48, 3) := by decide +kernel
theorem dX9_hasMinute_115 : decode cX9_hasMinute 115 = .ok (.bipush 90, 2) := by decide +kernel
theorem dX9_hasMinute_117 : decode cX9_hasMinute 117 = .ok (.iload_n 2, 1) := by decide +kernel
theorem dX9_hasMinute_118 : decode cX9_hasMinute 118 = .ok (.imul, 1) := by decide +kernel
theorem dX9_hasMinute_119 : decode cX9_hasMinute 119 = .ok (.iload_n 3, 1) := by decide +kernel
theorem dX9_hasMinute_120 : decode cX9_hasMinute 120 = .ok (.sipush 1440, 3) := by decide +kernel
theorem dX9_hasMinute_123 : decode cX9_hasMinute 123 = .ok (.idiv, 1) := by decide +kernel
theorem dX9_hasMinute_124 : decode cX9_hasMinute 124 = .ok (.iadd, 1) := by decide +kernel
theorem dX9_hasMinute_125 : decode cX9_hasMinute 125 = .ok (.baload, 1) := by decide +kernel
theorem dX9_hasMinute_126 : decode cX9_hasMinute 126 = .ok (.ireturn, 1) := by decide +kernel
theorem dX9_hasMinute_127 : decode cX9_hasMinute 127 = .ok (.iload 4, 2) := by decide +kernel
theorem dX9_hasMinute_129 : decode cX9_hasMinute 129 = .ok (.iload 5, 2) := by decide +kernel
theorem dX9_hasMinute_131 : decode cX9_hasMinute 131 = .ok (.if_icmp .ne 7, 3) := by decide +kernel
theorem dX9_hasMinute_134 : decode cX9_hasMinute 134 = .ok (.iconst 1, 1) := by decide +kernel
theorem dX9_hasMinute_135 : decode cX9_hasMinute 135 = .ok (.goto 4, 3) := by decide +kernel
theorem dX9_hasMinute_138 : decode cX9_hasMinute 138 = .ok (.iconst 0, 1) := by decide +kernel
theorem dX9_hasMinute_139 : decode cX9_hasMinute 139 = .ok (.ireturn, 1) := by decide +kernel
theorem dX9_hasMinute_140 : decode cX9_hasMinute 140 = .ok (.iload_n 3, 1) := by decide +kernel
theorem dX9_hasMinute_141 : decode cX9_hasMinute 141 = .ok (.iload 5, 2) := by decide +kernel
theorem dX9_hasMinute_143 : decode cX9_hasMinute 143 = .ok (.if_icmp .lt 13, 3) := by decide +kernel
theorem dX9_hasMinute_146 : decode cX9_hasMinute 146 = .ok (.iload_n 3, 1) := by decide +kernel
theorem dX9_hasMinute_147 : decode cX9_hasMinute 147 = .ok (.iload 6, 2) := by decide +kernel
theorem dX9_hasMinute_149 : decode cX9_hasMinute 149 = .ok (.if_icmp .ge 7, 3) := by decide +kernel
theorem dX9_hasMinute_152 : decode cX9_hasMinute 152 = .ok (.iconst 1, 1) := by decide +kernel
theorem dX9_hasMinute_153 : decode cX9_hasMinute 153 = .ok (.goto 4, 3) := by decide +kernel
theorem dX9_hasMinute_156 : decode cX9_hasMinute 156 = .ok (.iconst 0, 1) := by decide +kernel
theorem dX9_hasMinute_157 : decode cX9_hasMinute 157 = .ok (.ireturn, 1) := by decide +kernel
set_option maxHeartbeats 4000000 in
set_option maxRecDepth 100000 in
theorem g_X9_hasMinute (l : Launch) (G : xG) (S : yS) (d : yD) (h0 : Nat) (p0 : Int32) (p1 : Int32) (p2 : Int32) (p3 : Int32) (hSh : ySh S) (hm_h0 : h0 ∈ S.1) (hk_h0 : S.2.1 h0 = 9) (hI : yMI S d h0) (hr_p0 : 0 ≤ (p0 : Int32).toInt ∧ (p0 : Int32).toInt ≤ 2399) (hr_p1 : 0 ≤ (p1 : Int32).toInt ∧ (p1 : Int32).toInt ≤ 7) (hr_p2 : -1 ≤ (p2 : Int32).toInt ∧ (p2 : Int32).toInt ≤ 129599) : xRi l G yX9_hasMinute cX9_hasMinute 8 (some .boolean) 0 0 [.ref h0, .int p0, .int p1, .int p2, .int p3] (yW G S d) (fun r => r = 0 ∨ r = 1) := by
  intro sz
  refine xstart (by decide) (Nat.le_of_ble_eq_true rfl) (fun p e s m args below meth c ls C0 hr hlocks hin hsz hP hK hD hN hl => ?_)
  obtain ⟨hx, hb, hml, hown, htl⟩ := id C0
  have hl : lv_has ls 8 [(0, .ref h0), (1, .int p0), (2, .int p1), (3, .int p2), (4, .int p3)] := hl
  refine lv_aload_n hx hb dX9_hasMinute_0 rfl (lv_at hl 0 rfl) ?_
  refine yget (ci := 9) (k := 7) (v := .ref (S.2.2.1 h0 7)) (C := RX9) (T := TX9) (N := 67) C0 hK hP hm_h0 hk_h0 (by decide) rfl inlX9 (by decide) mW111 (fun _ h9 => h9) rfl dX9_hasMinute_1 ?_
  obtain ⟨hmy_1, hky_1⟩ := ySh.f9_7 hSh _ hm_h0 hk_h0
  refine lv_iload_n hx hb dX9_hasMinute_4 rfl (lv_at hl 1 rfl) ?_
  have hCC_2 := yMI.c hI
  refine yald C0 hK hP hmy_1 hky_1 (by decide) rfl 0 rfl (xinT 2400 rfl (by omega) (by omega)) dX9_hasMinute_5 ?_
  refine lv_topi (fun z_3 ez_3 => ?_)
  refine lv_istore (lv' := [(5, .int z_3), (0, .ref h0), (1, .int p0), (2, .int p1), (3, .int p2), (4, .int p3)]) hx hb dX9_hasMinute_6 hl (by decide) rfl (fun ls hl => ?_)
  refine lv_aload_n hx hb dX9_hasMinute_8 rfl (lv_at hl 1 rfl) ?_
  refine yget (ci := 9) (k := 8) (v := .ref (S.2.2.1 h0 8)) (C := RX9) (T := TX9) (N := 67) C0 hK hP hm_h0 hk_h0 (by decide) rfl inlX9 (by decide) mW112 (fun _ h9 => h9) rfl dX9_hasMinute_9 ?_
  obtain ⟨hmy_4, hky_4⟩ := ySh.f9_8 hSh _ hm_h0 hk_h0
  refine lv_iload_n hx hb dX9_hasMinute_12 rfl (lv_at hl 2 rfl) ?_
  refine yald C0 hK hP hmy_4 hky_4 (by decide) rfl 0 rfl (xinT 2400 rfl (by omega) (by omega)) dX9_hasMinute_13 ?_
  refine lv_topi (fun z_5 ez_5 => ?_)
  refine lv_istore (lv' := [(6, .int z_5), (5, .int z_3), (0, .ref h0), (1, .int p0), (2, .int p1), (3, .int p2), (4, .int p3)]) hx hb dX9_hasMinute_14 hl (by decide) rfl (fun ls hl => ?_)
  refine lv_iload_n hx hb dX9_hasMinute_16 rfl (lv_at hl 5 rfl) ?_
  refine lv_sipush (v := 1440) hx hb dX9_hasMinute_17 (by decide) ?_
  refine lv_irem hx hb dX9_hasMinute_20 (by decide) ?_
  refine lv_topi (fun z_6 ez_6 => ?_)
  refine lv_istore (lv' := [(7, .int z_6), (6, .int z_5), (5, .int z_3), (0, .ref h0), (1, .int p0), (2, .int p1), (3, .int p2), (4, .int p3)]) hx hb dX9_hasMinute_21 hl (by decide) rfl (fun ls hl => ?_)
  refine lv_aload_n hx hb dX9_hasMinute_23 rfl (lv_at hl 3 rfl) ?_
  refine yget (ci := 9) (k := 6) (v := .ref (S.2.2.1 h0 6)) (C := RX9) (T := TX9) (N := 67) C0 hK hP hm_h0 hk_h0 (by decide) rfl inlX9 (by decide) mW110 (fun _ h9 => h9) rfl dX9_hasMinute_24 ?_
  obtain ⟨hmy_7, hky_7⟩ := ySh.f9_6 hSh _ hm_h0 hk_h0
  refine lv_iload_n hx hb dX9_hasMinute_27 rfl (lv_at hl 4 rfl) ?_
  refine yaldB C0 hK hP hmy_7 hky_7 (by decide) rfl 1 rfl (xinT 2400 rfl (by omega) (by omega)) dX9_hasMinute_28 ?_
  refine lv_topi (fun z_8 ez_8 => ?_)
  rcases xtab z_8 4 (by decide) with hsw_9 | ⟨k_10, hk_10, hsw_9⟩
  · refine lv_tableOut (tgt := 140) hx hb dX9_hasMinute_29 (by omega) (by decide) ?_
    refine lv_iload_n hx hb dX9_hasMinute_140 rfl (lv_at hl 6 rfl) ?_
    refine lv_iload hx hb dX9_hasMinute_141 (lv_at hl 2 rfl) ?_
    refine lv_icmp_lt (tgt := 156) hx hb dX9_hasMinute_143 (by decide) (fun c_11 => ?_) (fun c_11 => ?_)
    · refine lv_iconst (v := 0) hx hb dX9_hasMinute_156 (by decide) ?_
      exact W.zret (v := 0) (ty := .boolean) hx hb hr rfl (fun t ht hW => ⟨0, rfl, Or.inl rfl, ht⟩) (fun q hq => by cases hq) dX9_hasMinute_157
    · refine lv_iload_n hx hb dX9_hasMinute_146 rfl (lv_at hl 6 rfl) ?_
      refine lv_iload hx hb dX9_hasMinute_147 (lv_at hl 1 rfl) ?_
      refine lv_icmp_ge (tgt := 156) hx hb dX9_hasMinute_149 (by decide) (fun c_12 => ?_) (fun c_12 => ?_)
      · refine lv_iconst (v := 0) hx hb dX9_hasMinute_156 (by decide) ?_
        exact W.zret (v := 0) (ty := .boolean) hx hb hr rfl (fun t ht hW => ⟨0, rfl, Or.inl rfl, ht⟩) (fun q hq => by cases hq) dX9_hasMinute_157
      · refine lv_iconst (v := 1) hx hb dX9_hasMinute_152 (by decide) ?_
        refine lv_goto (tgt := 157) hx hb dX9_hasMinute_153 (by decide) ?_
        exact W.zret (v := 1) (ty := .boolean) hx hb hr rfl (fun t ht hW => ⟨1, rfl, Or.inr rfl, ht⟩) (fun q hq => by cases hq) dX9_hasMinute_157
  · obtain rfl | rfl | rfl | rfl : k_10 = 0 ∨ k_10 = 1 ∨ k_10 = 2 ∨ k_10 = 3 := by omega
    · subst hsw_9
      refine lv_tableIn (tgt := 60) (off := 31) hx hb dX9_hasMinute_29 (by decide +kernel) (by decide +kernel) (by decide +kernel) (by decide) ?_
      refine lv_iconst (v := 1) hx hb dX9_hasMinute_60 (by decide) ?_
      exact W.zret (v := 1) (ty := .boolean) hx hb hr rfl (fun t ht hW => ⟨1, rfl, Or.inr rfl, ht⟩) (fun q hq => by cases hq) dX9_hasMinute_61
    · subst hsw_9
      refine lv_tableIn (tgt := 62) (off := 33) hx hb dX9_hasMinute_29 (by decide +kernel) (by decide +kernel) (by decide +kernel) (by decide) ?_
      refine lv_iload hx hb dX9_hasMinute_62 (lv_at hl 2 rfl) ?_
      refine lv_iload hx hb dX9_hasMinute_64 (lv_at hl 1 rfl) ?_
      refine lv_icmp_le (tgt := 91) hx hb dX9_hasMinute_66 (by decide) (fun c_13 => ?_) (fun c_13 => ?_)
      · refine lv_iload hx hb dX9_hasMinute_91 (lv_at hl 0 rfl) ?_
        refine lv_iload hx hb dX9_hasMinute_93 (lv_at hl 2 rfl) ?_
        refine lv_icmp_lt (tgt := 109) hx hb dX9_hasMinute_95 (by decide) (fun c_14 => ?_) (fun c_14 => ?_)
        · refine lv_iconst (v := 0) hx hb dX9_hasMinute_109 (by decide) ?_
          exact W.zret (v := 0) (ty := .boolean) hx hb hr rfl (fun t ht hW => ⟨0, rfl, Or.inl rfl, ht⟩) (fun q hq => by cases hq) dX9_hasMinute_110
        · refine lv_iload hx hb dX9_hasMinute_98 (lv_at hl 0 rfl) ?_
          refine lv_iload hx hb dX9_hasMinute_100 (lv_at hl 1 rfl) ?_
          refine lv_icmp_ge (tgt := 109) hx hb dX9_hasMinute_102 (by decide) (fun c_15 => ?_) (fun c_15 => ?_)
          · refine lv_iconst (v := 0) hx hb dX9_hasMinute_109 (by decide) ?_
            exact W.zret (v := 0) (ty := .boolean) hx hb hr rfl (fun t ht hW => ⟨0, rfl, Or.inl rfl, ht⟩) (fun q hq => by cases hq) dX9_hasMinute_110
          · refine lv_iconst (v := 1) hx hb dX9_hasMinute_105 (by decide) ?_
            refine lv_goto (tgt := 110) hx hb dX9_hasMinute_106 (by decide) ?_
            exact W.zret (v := 1) (ty := .boolean) hx hb hr rfl (fun t ht hW => ⟨1, rfl, Or.inr rfl, ht⟩) (fun q hq => by cases hq) dX9_hasMinute_110
      · refine lv_iload hx hb dX9_hasMinute_69 (lv_at hl 0 rfl) ?_
        refine lv_iload hx hb dX9_hasMinute_71 (lv_at hl 2 rfl) ?_
        refine lv_icmp_ge (tgt := 83) hx hb dX9_hasMinute_73 (by decide) (fun c_16 => ?_) (fun c_16 => ?_)
        · refine lv_iconst (v := 1) hx hb dX9_hasMinute_83 (by decide) ?_
          refine lv_goto (tgt := 110) hx hb dX9_hasMinute_84 (by decide) ?_
          exact W.zret (v := 1) (ty := .boolean) hx hb hr rfl (fun t ht hW => ⟨1, rfl, Or.inr rfl, ht⟩) (fun q hq => by cases hq) dX9_hasMinute_110
        · refine lv_iload hx hb dX9_hasMinute_76 (lv_at hl 0 rfl) ?_
          refine lv_iload hx hb dX9_hasMinute_78 (lv_at hl 1 rfl) ?_
          refine lv_icmp_ge (tgt := 87) hx hb dX9_hasMinute_80 (by decide) (fun c_17 => ?_) (fun c_17 => ?_)
          · refine lv_iconst (v := 0) hx hb dX9_hasMinute_87 (by decide) ?_
            refine lv_goto (tgt := 110) hx hb dX9_hasMinute_88 (by decide) ?_
            exact W.zret (v := 0) (ty := .boolean) hx hb hr rfl (fun t ht hW => ⟨0, rfl, Or.inl rfl, ht⟩) (fun q hq => by cases hq) dX9_hasMinute_110
          · refine lv_iconst (v := 1) hx hb dX9_hasMinute_83 (by decide) ?_
            refine lv_goto (tgt := 110) hx hb dX9_hasMinute_84 (by decide) ?_
            exact W.zret (v := 1) (ty := .boolean) hx hb hr rfl (fun t ht hW => ⟨1, rfl, Or.inr rfl, ht⟩) (fun q hq => by cases hq) dX9_hasMinute_110
    · subst hsw_9
      refine lv_tableIn (tgt := 111) (off := 82) hx hb dX9_hasMinute_29 (by decide +kernel) (by decide +kernel) (by decide +kernel) (by decide) ?_
      refine lv_aload_n hx hb dX9_hasMinute_111 rfl (lv_at hl 3 rfl) ?_
      refine yget (ci := 9) (k := 14) (v := .ref (S.2.2.1 h0 14)) (C := RX9) (T := TX9) (N := 67) C0 hK hP hm_h0 hk_h0 (by decide) rfl inlX9 (by decide) mW121 (fun _ h9 => h9) rfl dX9_hasMinute_112 ?_
      obtain ⟨hmy_18, hky_18⟩ := ySh.f9_14 hSh _ hm_h0 hk_h0
      refine lv_bipush (v := 90) hx hb dX9_hasMinute_115 (by decide) ?_
      refine lv_iload_n hx hb dX9_hasMinute_117 rfl (lv_at hl 5 rfl) ?_
      refine lv_imul hx hb dX9_hasMinute_118 ?_
      refine lv_topi (fun z_19 ez_19 => ?_)
      refine lv_iload_n hx hb dX9_hasMinute_119 rfl (lv_at hl 6 rfl) ?_
      refine lv_sipush (v := 1440) hx hb dX9_hasMinute_120 (by decide) ?_
      refine lv_idiv hx hb dX9_hasMinute_123 (by decide) ?_
      refine lv_topi (fun z_20 ez_20 => ?_)
      refine lv_iadd hx hb dX9_hasMinute_124 ?_
      refine lv_topi (fun z_21 ez_21 => ?_)
      have T_23 : (z_19 : Int32).toInt = 90 * (p1 : Int32).toInt := tmul ez_19 (by decide +kernel : (90 : Int32).toInt = 90) (rfl : (p1 : Int32).toInt = (p1 : Int32).toInt) (by omega) (by omega)
      have T_24 := tdivc ez_20 (rfl : (p2 : Int32).toInt = (p2 : Int32).toInt) (by decide +kernel : (1440 : Int32).toInt = 1440) (by omega) (by omega)
      have T_22 : (z_21 : Int32).toInt = (z_19 : Int32).toInt + (z_20 : Int32).toInt := tadd ez_21 (rfl : (z_19 : Int32).toInt = (z_19 : Int32).toInt) (rfl : (z_20 : Int32).toInt = (z_20 : Int32).toInt) (by omega) (by omega)
      refine yaldZ C0 hK hP hmy_18 hky_18 (by decide) rfl 3 rfl (xinT 720 rfl (by omega) (by omega)) dX9_hasMinute_125 ?_
      refine lv_topi (fun z_25 ez_25 => ?_)
      have hzz_25 : z_25 = 0 ∨ z_25 = 1 := by rw [ez_25]; exact yMI.z_ hI _
      exact W.zret (v := z_25) (ty := .boolean) hx hb hr (znb hzz_25).1 (fun t ht hW => ⟨z_25, rfl, hzz_25, ht⟩) (fun q hq => by cases hq) dX9_hasMinute_126
    · subst hsw_9
      refine lv_tableIn (tgt := 127) (off := 98) hx hb dX9_hasMinute_29 (by decide +kernel) (by decide +kernel) (by decide +kernel) (by decide) ?_
      refine lv_iload hx hb dX9_hasMinute_127 (lv_at hl 7 rfl) ?_
      refine lv_iload hx hb dX9_hasMinute_129 (lv_at hl 2 rfl) ?_
      refine lv_icmp_ne (tgt := 138) hx hb dX9_hasMinute_131 (by decide) (fun c_26 => ?_) (fun c_26 => ?_)
      · refine lv_iconst (v := 0) hx hb dX9_hasMinute_138 (by decide) ?_
        exact W.zret (v := 0) (ty := .boolean) hx hb hr rfl (fun t ht hW => ⟨0, rfl, Or.inl rfl, ht⟩) (fun q hq => by cases hq) dX9_hasMinute_139
      · refine lv_iconst (v := 1) hx hb dX9_hasMinute_134 (by decide) ?_
        refine lv_goto (tgt := 139) hx hb dX9_hasMinute_135 (by decide) ?_
        exact W.zret (v := 1) (ty := .boolean) hx hb hr rfl (fun t ht hW => ⟨1, rfl, Or.inr rfl, ht⟩) (fun q hq => by cases hq) dX9_hasMinute_139
theorem dX9_isAsked_0 : decode cX9_isAsked 0 = .ok (.iload_n 2, 1) := by decide +kernel
theorem dX9_isAsked_1 : decode cX9_isAsked 1 = .ok (.ifCond .lt 56, 3) := by decide +kernel
theorem dX9_isAsked_4 : decode cX9_isAsked 4 = .ok (.aload_n 0, 1) := by decide +kernel
theorem dX9_isAsked_5 : decode cX9_isAsked 5 = .ok (.getfield 13, 3) := by decide +kernel
theorem dX9_isAsked_8 : decode cX9_isAsked 8 = .ok (.iload_n 1, 1) := by decide +kernel
theorem dX9_isAsked_9 : decode cX9_isAsked 9 = .ok (.iload_n 2, 1) := by decide +kernel
theorem dX9_isAsked_10 : decode cX9_isAsked 10 = .ok (.iadd, 1) := by decide +kernel
theorem dX9_isAsked_11 : decode cX9_isAsked 11 = .ok (.baload, 1) := by decide +kernel
theorem dX9_isAsked_12 : decode cX9_isAsked 12 = .ok (.iconst 2, 1) := by decide +kernel
theorem dX9_isAsked_13 : decode cX9_isAsked 13 = .ok (.if_icmp .ne 44, 3) := by decide +kernel
theorem dX9_isAsked_16 : decode cX9_isAsked 16 = .ok (.aload_n 0, 1) := by decide +kernel
theorem dX9_isAsked_17 : decode cX9_isAsked 17 = .ok (.getfield 17, 3) := by decide +kernel
theorem dX9_isAsked_20 : decode cX9_isAsked 20 = .ok (.iload_n 1, 1) := by decide +kernel
theorem dX9_isAsked_21 : decode cX9_isAsked 21 = .ok (.iload_n 2, 1) := by decide +kernel
theorem dX9_isAsked_22 : decode cX9_isAsked 22 = .ok (.iadd, 1) := by decide +kernel
theorem dX9_isAsked_23 : decode cX9_isAsked 23 = .ok (.baload, 1) := by decide +kernel
theorem dX9_isAsked_24 : decode cX9_isAsked 24 = .ok (.iconst 3, 1) := by decide +kernel
theorem dX9_isAsked_25 : decode cX9_isAsked 25 = .ok (.if_icmp .ne 7, 3) := by decide +kernel
theorem dX9_isAsked_28 : decode cX9_isAsked 28 = .ok (.iconst 1, 1) := by decide +kernel
theorem dX9_isAsked_29 : decode cX9_isAsked 29 = .ok (.goto 4, 3) := by decide +kernel
theorem dX9_isAsked_32 : decode cX9_isAsked 32 = .ok (.iconst 0, 1) := by decide +kernel
theorem dX9_isAsked_33 : decode cX9_isAsked 33 = .ok (.iload 6, 2) := by decide +kernel
theorem dX9_isAsked_35 : decode cX9_isAsked 35 = .ok (.if_icmp .ne 22, 3) := by decide +kernel
theorem dX9_isAsked_38 : decode cX9_isAsked 38 = .ok (.aload_n 0, 1) := by decide +kernel
theorem dX9_isAsked_39 : decode cX9_isAsked 39 = .ok (.iload_n 1, 1) := by decide +kernel
theorem dX9_isAsked_40 : decode cX9_isAsked 40 = .ok (.iload_n 2, 1) := by decide +kernel
theorem dX9_isAsked_41 : decode cX9_isAsked 41 = .ok (.iadd, 1) := by decide +kernel
theorem dX9_isAsked_42 : decode cX9_isAsked 42 = .ok (.iload_n 3, 1) := by decide +kernel
theorem dX9_isAsked_43 : decode cX9_isAsked 43 = .ok (.iload 4, 2) := by decide +kernel
theorem dX9_isAsked_45 : decode cX9_isAsked 45 = .ok (.iload 5, 2) := by decide +kernel
theorem dX9_isAsked_47 : decode cX9_isAsked 47 = .ok (.invokevirtual 243, 3) := by decide +kernel
theorem dX9_isAsked_50 : decode cX9_isAsked 50 = .ok (.ifCond .eq 7, 3) := by decide +kernel
theorem dX9_isAsked_53 : decode cX9_isAsked 53 = .ok (.iconst 1, 1) := by decide +kernel
theorem dX9_isAsked_54 : decode cX9_isAsked 54 = .ok (.goto 4, 3) := by decide +kernel
theorem dX9_isAsked_57 : decode cX9_isAsked 57 = .ok (.iconst 0, 1) := by decide +kernel
theorem dX9_isAsked_58 : decode cX9_isAsked 58 = .ok (.ireturn, 1) := by decide +kernel
set_option maxHeartbeats 4000000 in
set_option maxRecDepth 100000 in
theorem g_X9_isAsked (l : Launch) (G : xG) (S : yS) (d : yD) (h0 : Nat) (p0 : Int32) (p1 : Int32) (p2 : Int32) (p3 : Int32) (p4 : Int32) (p5 : Int32) (hSh : ySh S) (hm_h0 : h0 ∈ S.1) (hk_h0 : S.2.1 h0 = 9) (hI : yMI S d h0) (hr_p0 : 0 ≤ (p0 : Int32).toInt ∧ (p0 : Int32).toInt ≤ 2340) (hr_p1 : -1 ≤ (p1 : Int32).toInt ∧ (p1 : Int32).toInt ≤ 59) (hr_p2 : 0 ≤ (p2 : Int32).toInt ∧ (p2 : Int32).toInt ≤ 7) (hr_p3 : -1 ≤ (p3 : Int32).toInt ∧ (p3 : Int32).toInt ≤ 129599) : xRi l G yX9_isAsked cX9_isAsked 7 (some .boolean) 1 27 [.ref h0, .int p0, .int p1, .int p2, .int p3, .int p4, .int p5] (yW G S d) (fun r => (r.toInt = 0 ∨ r.toInt = 1) ∧ (r.toInt = 1 → 0 ≤ p1.toInt)) := by
  intro sz
  refine xstart (by decide) (Nat.le_of_ble_eq_true rfl) (fun p e s m args below meth c ls C0 hr hlocks hin hsz hP hK hD hN hl => ?_)
  obtain ⟨hx, hb, hml, hown, htl⟩ := id C0
  have hl : lv_has ls 7 [(0, .ref h0), (1, .int p0), (2, .int p1), (3, .int p2), (4, .int p3), (5, .int p4), (6, .int p5)] := hl
  refine lv_iload_n hx hb dX9_isAsked_0 rfl (lv_at hl 2 rfl) ?_
  refine lv_if_lt (tgt := 57) hx hb dX9_isAsked_1 (by decide) (fun c_1 => ?_) (fun c_1 => ?_)
  · refine lv_iconst (v := 0) hx hb dX9_isAsked_57 (by decide) ?_
    have hCC_2 := yMI.c hI
    have F_3 := flt (rfl : (p1 : Int32).toInt = (p1 : Int32).toInt) (by decide +kernel : (0 : Int32).toInt = 0) c_1
    exact W.zret (v := 0) (ty := .boolean) hx hb hr rfl (fun t ht hW => ⟨0, rfl, (by have h0_ : (0 : Int32).toInt = 0 := (by decide +kernel); omega), ht⟩) (fun q hq => by cases hq) dX9_isAsked_58
  · refine lv_aload_n hx hb dX9_isAsked_4 rfl (lv_at hl 0 rfl) ?_
    refine yget (ci := 9) (k := 4) (v := .ref (S.2.2.1 h0 4)) (C := RX9) (T := TX9) (N := 67) C0 hK hP hm_h0 hk_h0 (by decide) rfl inlX9 (by decide) mW108 (fun _ h9 => h9) rfl dX9_isAsked_5 ?_
    obtain ⟨hmy_4, hky_4⟩ := ySh.f9_4 hSh _ hm_h0 hk_h0
    refine lv_iload_n hx hb dX9_isAsked_8 rfl (lv_at hl 1 rfl) ?_
    refine lv_iload_n hx hb dX9_isAsked_9 rfl (lv_at hl 2 rfl) ?_
    refine lv_iadd hx hb dX9_isAsked_10 ?_
    refine lv_topi (fun z_5 ez_5 => ?_)
    have hCC_6 := yMI.c hI
    have F_7 := fnlt (rfl : (p1 : Int32).toInt = (p1 : Int32).toInt) (by decide +kernel : (0 : Int32).toInt = 0) c_1
    have T_8 : (z_5 : Int32).toInt = (p0 : Int32).toInt + (p1 : Int32).toInt := tadd ez_5 (rfl : (p0 : Int32).toInt = (p0 : Int32).toInt) (rfl : (p1 : Int32).toInt = (p1 : Int32).toInt) (by omega) (by omega)
    refine yaldB C0 hK hP hmy_4 hky_4 (by decide) rfl 1 rfl (xinT 2400 rfl (by omega) (by omega)) dX9_isAsked_11 ?_
    refine lv_topi (fun z_9 ez_9 => ?_)
    refine lv_iconst (v := 2) hx hb dX9_isAsked_12 (by decide) ?_
    refine lv_icmp_ne (tgt := 57) hx hb dX9_isAsked_13 (by decide) (fun c_10 => ?_) (fun c_10 => ?_)
    · refine lv_iconst (v := 0) hx hb dX9_isAsked_57 (by decide) ?_
      have F_12 := fne (rfl : (z_9 : Int32).toInt = (z_9 : Int32).toInt) (by decide +kernel : (2 : Int32).toInt = 2) c_10
      exact W.zret (v := 0) (ty := .boolean) hx hb hr rfl (fun t ht hW => ⟨0, rfl, (by have h0_ : (0 : Int32).toInt = 0 := (by decide +kernel); omega), ht⟩) (fun q hq => by cases hq) dX9_isAsked_58
    · refine lv_aload_n hx hb dX9_isAsked_16 rfl (lv_at hl 0 rfl) ?_
      refine yget (ci := 9) (k := 5) (v := .ref (S.2.2.1 h0 5)) (C := RX9) (T := TX9) (N := 67) C0 hK hP hm_h0 hk_h0 (by decide) rfl inlX9 (by decide) mW109 (fun _ h9 => h9) rfl dX9_isAsked_17 ?_
      obtain ⟨hmy_13, hky_13⟩ := ySh.f9_5 hSh _ hm_h0 hk_h0
      refine lv_iload_n hx hb dX9_isAsked_20 rfl (lv_at hl 1 rfl) ?_
      refine lv_iload_n hx hb dX9_isAsked_21 rfl (lv_at hl 2 rfl) ?_
      refine lv_iadd hx hb dX9_isAsked_22 ?_
      refine lv_topi (fun z_14 ez_14 => ?_)
      have F_16 := feq (rfl : (z_9 : Int32).toInt = (z_9 : Int32).toInt) (by decide +kernel : (2 : Int32).toInt = 2) c_10
      have T_17 : (z_14 : Int32).toInt = (p0 : Int32).toInt + (p1 : Int32).toInt := tadd ez_14 (rfl : (p0 : Int32).toInt = (p0 : Int32).toInt) (rfl : (p1 : Int32).toInt = (p1 : Int32).toInt) (by omega) (by omega)
      refine yaldB C0 hK hP hmy_13 hky_13 (by decide) rfl 1 rfl (xinT 2400 rfl (by omega) (by omega)) dX9_isAsked_23 ?_
      refine lv_topi (fun z_18 ez_18 => ?_)
      refine lv_iconst (v := 3) hx hb dX9_isAsked_24 (by decide) ?_
      refine lv_icmp_ne (tgt := 32) hx hb dX9_isAsked_25 (by decide) (fun c_19 => ?_) (fun c_19 => ?_)
      · refine lv_iconst (v := 0) hx hb dX9_isAsked_32 (by decide) ?_
        refine lv_iload hx hb dX9_isAsked_33 (lv_at hl 6 rfl) ?_
        refine lv_icmp_ne (tgt := 57) hx hb dX9_isAsked_35 (by decide) (fun c_20 => ?_) (fun c_20 => ?_)
        · refine lv_iconst (v := 0) hx hb dX9_isAsked_57 (by decide) ?_
          have F_22 := fne (rfl : (z_18 : Int32).toInt = (z_18 : Int32).toInt) (by decide +kernel : (3 : Int32).toInt = 3) c_19
          have F_23 := fne (by decide +kernel : (0 : Int32).toInt = 0) (rfl : (p5 : Int32).toInt = (p5 : Int32).toInt) c_20
          exact W.zret (v := 0) (ty := .boolean) hx hb hr rfl (fun t ht hW => ⟨0, rfl, (by have h0_ : (0 : Int32).toInt = 0 := (by decide +kernel); omega), ht⟩) (fun q hq => by cases hq) dX9_isAsked_58
        · refine lv_aload_n hx hb dX9_isAsked_38 rfl (lv_at hl 0 rfl) ?_
          refine lv_iload_n hx hb dX9_isAsked_39 rfl (lv_at hl 1 rfl) ?_
          refine lv_iload_n hx hb dX9_isAsked_40 rfl (lv_at hl 2 rfl) ?_
          refine lv_iadd hx hb dX9_isAsked_41 ?_
          refine lv_topi (fun z_24 ez_24 => ?_)
          refine lv_iload_n hx hb dX9_isAsked_42 rfl (lv_at hl 3 rfl) ?_
          refine lv_iload hx hb dX9_isAsked_43 (lv_at hl 4 rfl) ?_
          refine lv_iload hx hb dX9_isAsked_45 (lv_at hl 5 rfl) ?_
          have F_26 := fne (rfl : (z_18 : Int32).toInt = (z_18 : Int32).toInt) (by decide +kernel : (3 : Int32).toInt = 3) c_19
          have F_27 := feq (by decide +kernel : (0 : Int32).toInt = 0) (rfl : (p5 : Int32).toInt = (p5 : Int32).toInt) c_20
          have T_28 : (z_24 : Int32).toInt = (p0 : Int32).toInt + (p1 : Int32).toInt := tadd ez_24 (rfl : (p0 : Int32).toInt = (p0 : Int32).toInt) (rfl : (p1 : Int32).toInt = (p1 : Int32).toInt) (by omega) (by omega)
          refine yVri (As := [.int z_24, .int p2, .int p3, .int p4]) (rest := []) C0 (g_X9_hasMinute l G S d h0 z_24 p2 p3 p4 hSh hm_h0 hk_h0 hI (by refine ⟨?_, ?_⟩ <;> omega) (by refine ⟨?_, ?_⟩ <;> omega) (by refine ⟨?_, ?_⟩ <;> omega)) ok_X9_hasMinute (mW897 : Cond.methodLink RX9 243 yX9_hasMinute ∈ wsT) ⟨Nat.le_of_ble_eq_true rfl, Nat.le_of_ble_eq_true rfl⟩ hP hD hK hN hm_h0 hk_h0 (by decide) rfl rfl rfl hl.1 rfl (Nat.le_of_ble_eq_true rfl) ⟨Nat.le_of_ble_eq_true rfl, Nat.le_of_ble_eq_true rfl⟩ dX9_isAsked_47 (fun r_29 hr_29 => ?_)
          refine lv_if_eq (tgt := 57) hx hb dX9_isAsked_50 (by decide) (fun c_30 => ?_) (fun c_30 => ?_)
          · refine lv_iconst (v := 0) hx hb dX9_isAsked_57 (by decide) ?_
            have F_31 := feq (rfl : (r_29 : Int32).toInt = (r_29 : Int32).toInt) (by decide +kernel : (0 : Int32).toInt = 0) c_30
            exact W.zret (v := 0) (ty := .boolean) hx hb hr rfl (fun t ht hW => ⟨0, rfl, (by have h0_ : (0 : Int32).toInt = 0 := (by decide +kernel); omega), ht⟩) (fun q hq => by cases hq) dX9_isAsked_58
          · refine lv_iconst (v := 1) hx hb dX9_isAsked_53 (by decide) ?_
            refine lv_goto (tgt := 58) hx hb dX9_isAsked_54 (by decide) ?_
            have F_32 := fne (rfl : (r_29 : Int32).toInt = (r_29 : Int32).toInt) (by decide +kernel : (0 : Int32).toInt = 0) c_30
            exact W.zret (v := 1) (ty := .boolean) hx hb hr rfl (fun t ht hW => ⟨1, rfl, (by have h0_ : (1 : Int32).toInt = 1 := (by decide +kernel); omega), ht⟩) (fun q hq => by cases hq) dX9_isAsked_58
      · refine lv_iconst (v := 1) hx hb dX9_isAsked_28 (by decide) ?_
        refine lv_goto (tgt := 33) hx hb dX9_isAsked_29 (by decide) ?_
        refine lv_iload hx hb dX9_isAsked_33 (lv_at hl 6 rfl) ?_
        refine lv_icmp_ne (tgt := 57) hx hb dX9_isAsked_35 (by decide) (fun c_33 => ?_) (fun c_33 => ?_)
        · refine lv_iconst (v := 0) hx hb dX9_isAsked_57 (by decide) ?_
          have F_35 := feq (rfl : (z_18 : Int32).toInt = (z_18 : Int32).toInt) (by decide +kernel : (3 : Int32).toInt = 3) c_19
          have F_36 := fne (by decide +kernel : (1 : Int32).toInt = 1) (rfl : (p5 : Int32).toInt = (p5 : Int32).toInt) c_33
          exact W.zret (v := 0) (ty := .boolean) hx hb hr rfl (fun t ht hW => ⟨0, rfl, (by have h0_ : (0 : Int32).toInt = 0 := (by decide +kernel); omega), ht⟩) (fun q hq => by cases hq) dX9_isAsked_58
        · refine lv_aload_n hx hb dX9_isAsked_38 rfl (lv_at hl 0 rfl) ?_
          refine lv_iload_n hx hb dX9_isAsked_39 rfl (lv_at hl 1 rfl) ?_
          refine lv_iload_n hx hb dX9_isAsked_40 rfl (lv_at hl 2 rfl) ?_
          refine lv_iadd hx hb dX9_isAsked_41 ?_
          refine lv_topi (fun z_37 ez_37 => ?_)
          refine lv_iload_n hx hb dX9_isAsked_42 rfl (lv_at hl 3 rfl) ?_
          refine lv_iload hx hb dX9_isAsked_43 (lv_at hl 4 rfl) ?_
          refine lv_iload hx hb dX9_isAsked_45 (lv_at hl 5 rfl) ?_
          have F_39 := feq (rfl : (z_18 : Int32).toInt = (z_18 : Int32).toInt) (by decide +kernel : (3 : Int32).toInt = 3) c_19
          have F_40 := feq (by decide +kernel : (1 : Int32).toInt = 1) (rfl : (p5 : Int32).toInt = (p5 : Int32).toInt) c_33
          have T_41 : (z_37 : Int32).toInt = (p0 : Int32).toInt + (p1 : Int32).toInt := tadd ez_37 (rfl : (p0 : Int32).toInt = (p0 : Int32).toInt) (rfl : (p1 : Int32).toInt = (p1 : Int32).toInt) (by omega) (by omega)
          refine yVri (As := [.int z_37, .int p2, .int p3, .int p4]) (rest := []) C0 (g_X9_hasMinute l G S d h0 z_37 p2 p3 p4 hSh hm_h0 hk_h0 hI (by refine ⟨?_, ?_⟩ <;> omega) (by refine ⟨?_, ?_⟩ <;> omega) (by refine ⟨?_, ?_⟩ <;> omega)) ok_X9_hasMinute (mW897 : Cond.methodLink RX9 243 yX9_hasMinute ∈ wsT) ⟨Nat.le_of_ble_eq_true rfl, Nat.le_of_ble_eq_true rfl⟩ hP hD hK hN hm_h0 hk_h0 (by decide) rfl rfl rfl hl.1 rfl (Nat.le_of_ble_eq_true rfl) ⟨Nat.le_of_ble_eq_true rfl, Nat.le_of_ble_eq_true rfl⟩ dX9_isAsked_47 (fun r_42 hr_42 => ?_)
          refine lv_if_eq (tgt := 57) hx hb dX9_isAsked_50 (by decide) (fun c_43 => ?_) (fun c_43 => ?_)
          · refine lv_iconst (v := 0) hx hb dX9_isAsked_57 (by decide) ?_
            have F_44 := feq (rfl : (r_42 : Int32).toInt = (r_42 : Int32).toInt) (by decide +kernel : (0 : Int32).toInt = 0) c_43
            exact W.zret (v := 0) (ty := .boolean) hx hb hr rfl (fun t ht hW => ⟨0, rfl, (by have h0_ : (0 : Int32).toInt = 0 := (by decide +kernel); omega), ht⟩) (fun q hq => by cases hq) dX9_isAsked_58
          · refine lv_iconst (v := 1) hx hb dX9_isAsked_53 (by decide) ?_
            refine lv_goto (tgt := 58) hx hb dX9_isAsked_54 (by decide) ?_
            have F_45 := fne (rfl : (r_42 : Int32).toInt = (r_42 : Int32).toInt) (by decide +kernel : (0 : Int32).toInt = 0) c_43
            exact W.zret (v := 1) (ty := .boolean) hx hb hr rfl (fun t ht hW => ⟨1, rfl, (by have h0_ : (1 : Int32).toInt = 1 := (by decide +kernel); omega), ht⟩) (fun q hq => by cases hq) dX9_isAsked_58
theorem dX9_allowed_0 : decode cX9_allowed 0 = .ok (.lconst 0, 1) := by decide +kernel
theorem dX9_allowed_1 : decode cX9_allowed 1 = .ok (.lstore 5, 2) := by decide +kernel
theorem dX9_allowed_3 : decode cX9_allowed 3 = .ok (.bipush 60, 2) := by decide +kernel
theorem dX9_allowed_5 : decode cX9_allowed 5 = .ok (.aload_n 0, 1) := by decide +kernel
theorem dX9_allowed_6 : decode cX9_allowed 6 = .ok (.iload_n 1, 1) := by decide +kernel
theorem dX9_allowed_7 : decode cX9_allowed 7 = .ok (.iconst 1, 1) := by decide +kernel
theorem dX9_allowed_8 : decode cX9_allowed 8 = .ok (.invokevirtual 161, 3) := by decide +kernel
theorem dX9_allowed_11 : decode cX9_allowed 11 = .ok (.imul, 1) := by decide +kernel
theorem dX9_allowed_12 : decode cX9_allowed 12 = .ok (.istore 7, 2) := by decide +kernel
theorem dX9_allowed_14 : decode cX9_allowed 14 = .ok (.iconst 0, 1) := by decide +kernel
theorem dX9_allowed_15 : decode cX9_allowed 15 = .ok (.istore 8, 2) := by decide +kernel
theorem dX9_allowed_17 : decode cX9_allowed 17 = .ok (.iload 8, 2) := by decide +kernel
theorem dX9_allowed_19 : decode cX9_allowed 19 = .ok (.bipush 60, 2) := by decide +kernel
theorem dX9_allowed_21 : decode cX9_allowed 21 = .ok (.if_icmp .ge 121, 3) := by decide +kernel
theorem dX9_allowed_24 : decode cX9_allowed 24 = .ok (.aload_n 0, 1) := by decide +kernel
theorem dX9_allowed_25 : decode cX9_allowed 25 = .ok (.iload_n 1, 1) := by decide +kernel
theorem dX9_allowed_26 : decode cX9_allowed 26 = .ok (.iconst 1, 1) := by decide +kernel
theorem dX9_allowed_27 : decode cX9_allowed 27 = .ok (.invokevirtual 161, 3) := by decide +kernel
theorem dX9_allowed_30 : decode cX9_allowed 30 = .ok (.iload 4, 2) := by decide +kernel
theorem dX9_allowed_32 : decode cX9_allowed 32 = .ok (.if_icmp .ne 13, 3) := by decide +kernel
theorem dX9_allowed_35 : decode cX9_allowed 35 = .ok (.iload 8, 2) := by decide +kernel
theorem dX9_allowed_37 : decode cX9_allowed 37 = .ok (.iload_n 2, 1) := by decide +kernel
theorem dX9_allowed_38 : decode cX9_allowed 38 = .ok (.if_icmp .ne 7, 3) := by decide +kernel
theorem dX9_allowed_41 : decode cX9_allowed 41 = .ok (.iload_n 3, 1) := by decide +kernel
theorem dX9_allowed_42 : decode cX9_allowed 42 = .ok (.goto 5, 3) := by decide +kernel
theorem dX9_allowed_45 : decode cX9_allowed 45 = .ok (.iload 8, 2) := by decide +kernel
theorem dX9_allowed_47 : decode cX9_allowed 47 = .ok (.istore 9, 2) := by decide +kernel
theorem dX9_allowed_49 : decode cX9_allowed 49 = .ok (.iload 9, 2) := by decide +kernel
theorem dX9_allowed_51 : decode cX9_allowed 51 = .ok (.ifCond .lt 85, 3) := by decide +kernel
theorem dX9_allowed_54 : decode cX9_allowed 54 = .ok (.aload_n 0, 1) := by decide +kernel
theorem dX9_allowed_55 : decode cX9_allowed 55 = .ok (.getfield 13, 3) := by decide +kernel
theorem dX9_allowed_58 : decode cX9_allowed 58 = .ok (.iload 7, 2) := by decide +kernel
theorem dX9_allowed_60 : decode cX9_allowed 60 = .ok (.iload 9, 2) := by decide +kernel
theorem dX9_allowed_62 : decode cX9_allowed 62 = .ok (.iadd, 1) := by decide +kernel
theorem dX9_allowed_63 : decode cX9_allowed 63 = .ok (.baload, 1) := by decide +kernel
theorem dX9_allowed_64 : decode cX9_allowed 64 = .ok (.iconst 2, 1) := by decide +kernel
theorem dX9_allowed_65 : decode cX9_allowed 65 = .ok (.if_icmp .ne 71, 3) := by decide +kernel
theorem dX9_allowed_68 : decode cX9_allowed 68 = .ok (.aload_n 0, 1) := by decide +kernel
theorem dX9_allowed_69 : decode cX9_allowed 69 = .ok (.getfield 17, 3) := by decide +kernel
theorem dX9_allowed_72 : decode cX9_allowed 72 = .ok (.iload 7, 2) := by decide +kernel
theorem dX9_allowed_74 : decode cX9_allowed 74 = .ok (.iload 9, 2) := by decide +kernel
theorem dX9_allowed_76 : decode cX9_allowed 76 = .ok (.iadd, 1) := by decide +kernel
theorem dX9_allowed_77 : decode cX9_allowed 77 = .ok (.baload, 1) := by decide +kernel
theorem dX9_allowed_78 : decode cX9_allowed 78 = .ok (.ifCond .eq 6, 3) := by decide +kernel
theorem dX9_allowed_81 : decode cX9_allowed 81 = .ok (.goto 55, 3) := by decide +kernel
theorem dX9_allowed_84 : decode cX9_allowed 84 = .ok (.aload_n 0, 1) := by decide +kernel
theorem dX9_allowed_85 : decode cX9_allowed 85 = .ok (.getfield 33, 3) := by decide +kernel
theorem dX9_allowed_88 : decode cX9_allowed 88 = .ok (.iload 7, 2) := by decide +kernel
theorem dX9_allowed_90 : decode cX9_allowed 90 = .ok (.iload 9, 2) := by decide +kernel
theorem dX9_allowed_92 : decode cX9_allowed 92 = .ok (.iadd, 1) := by decide +kernel
theorem dX9_allowed_93 : decode cX9_allowed 93 = .ok (.iaload, 1) := by decide +kernel
theorem dX9_allowed_94 : decode cX9_allowed 94 = .ok (.i2l, 1) := by decide +kernel
theorem dX9_allowed_95 : decode cX9_allowed 95 = .ok (.lstore 10, 2) := by decide +kernel
theorem dX9_allowed_97 : decode cX9_allowed 97 = .ok (.lload 5, 2) := by decide +kernel
theorem dX9_allowed_99 : decode cX9_allowed 99 = .ok (.lload 10, 2) := by decide +kernel
theorem dX9_allowed_101 : decode cX9_allowed 101 = .ok (.lconst 0, 1) := by decide +kernel
theorem dX9_allowed_102 : decode cX9_allowed 102 = .ok (.lcmp, 1) := by decide +kernel
theorem dX9_allowed_103 : decode cX9_allowed 103 = .ok (.ifCond .lt 8, 3) := by decide +kernel
theorem dX9_allowed_106 : decode cX9_allowed 106 = .ok (.lload 10, 2) := by decide +kernel
theorem dX9_allowed_108 : decode cX9_allowed 108 = .ok (.goto 25, 3) := by decide +kernel
theorem dX9_allowed_111 : decode cX9_allowed 111 = .ok (.aload_n 0, 1) := by decide +kernel
theorem dX9_allowed_112 : decode cX9_allowed 112 = .ok (.getfield 36, 3) := by decide +kernel
theorem dX9_allowed_115 : decode cX9_allowed 115 = .ok (.bipush 12, 2) := by decide +kernel
theorem dX9_allowed_117 : decode cX9_allowed 117 = .ok (.iload_n 1, 1) := by decide +kernel
theorem dX9_allowed_118 : decode cX9_allowed 118 = .ok (.imul, 1) := by decide +kernel
theorem dX9_allowed_119 : decode cX9_allowed 119 = .ok (.iconst 3, 1) := by decide +kernel
theorem dX9_allowed_120 : decode cX9_allowed 120 = .ok (.iadd, 1) := by decide +kernel
theorem dX9_allowed_121 : decode cX9_allowed 121 = .ok (.laload, 1) := by decide +kernel
theorem dX9_allowed_122 : decode cX9_allowed 122 = .ok (.ldc2_w 235, 3) := by decide +kernel
theorem dX9_allowed_125 : decode cX9_allowed 125 = .ok (.lmul, 1) := by decide +kernel
theorem dX9_allowed_126 : decode cX9_allowed 126 = .ok (.ldc2_w 237, 3) := by decide +kernel
theorem dX9_allowed_129 : decode cX9_allowed 129 = .ok (.lload 10, 2) := by decide +kernel
theorem dX9_allowed_131 : decode cX9_allowed 131 = .ok (.lmul, 1) := by decide +kernel
theorem dX9_allowed_132 : decode cX9_allowed 132 = .ok (.ldiv, 1) := by decide +kernel
theorem dX9_allowed_133 : decode cX9_allowed 133 = .ok (.ladd, 1) := by decide +kernel
theorem dX9_allowed_134 : decode cX9_allowed 134 = .ok (.lstore 5, 2) := by decide +kernel
theorem dX9_allowed_136 : decode cX9_allowed 136 = .ok (.iinc 8 1, 3) := by decide +kernel
theorem dX9_allowed_139 : decode cX9_allowed 139 = .ok (.goto (-122), 3) := by decide +kernel
theorem dX9_allowed_142 : decode cX9_allowed 142 = .ok (.lload 5, 2) := by decide +kernel
theorem dX9_allowed_144 : decode cX9_allowed 144 = .ok (.lreturn, 1) := by decide +kernel
set_option maxHeartbeats 4000000 in
set_option maxRecDepth 100000 in
theorem g_X9_allowed (l : Launch) (G : xG) (S : yS) (d : yD) (h0 : Nat) (p0 : Int32) (p1 : Int32) (p2 : Int32) (p3 : Int32) (hSh : ySh S) (hm_h0 : h0 ∈ S.1) (hk_h0 : S.2.1 h0 = 9) (hI : yMI S d h0) (hr_p0 : 0 ≤ (p0 : Int32).toInt ∧ (p0 : Int32).toInt ≤ 7) (hr_p2 : -1 ≤ (p2 : Int32).toInt ∧ (p2 : Int32).toInt ≤ 59) : yRl l G yX9_allowed cX9_allowed 12 (some .long) 1 22 [.ref h0, .int p0, .int p1, .int p2, .int p3] (yW G S d) (fun r => True) := by
  intro sz
  refine xstart (by decide) (Nat.le_of_ble_eq_true rfl) (fun p e s m args below meth c ls C0 hr hlocks hin hsz hP hK hD hN hl => ?_)
  obtain ⟨hx, hb, hml, hown, htl⟩ := id C0
  have hl : lv_has ls 12 [(0, .ref h0), (1, .int p0), (2, .int p1), (3, .int p2), (4, .int p3)] := hl
  refine lv_lconst (v := 0) hx hb dX9_allowed_0 (by decide) ?_
  refine lv_lstore (lv' := [(5, .long 0), (0, .ref h0), (1, .int p0), (2, .int p1), (3, .int p2), (4, .int p3)]) hx hb dX9_allowed_1 hl (by decide) rfl (fun ls hl => ?_)
  refine lv_bipush (v := 60) hx hb dX9_allowed_3 (by decide) ?_
  refine lv_aload_n hx hb dX9_allowed_5 rfl (lv_at hl 1 rfl) ?_
  refine lv_iload_n hx hb dX9_allowed_6 rfl (lv_at hl 2 rfl) ?_
  refine lv_iconst (v := 1) hx hb dX9_allowed_7 (by decide) ?_
  refine yVri (As := [.int p0, .int 1]) (rest := [.int 60]) C0 (g_X9_of l G S d h0 p0 1 hSh hm_h0 hk_h0 (by refine ⟨?_, ?_⟩ <;> omega) (by decide +kernel)) ok_X9_of (mW425 : Cond.methodLink RX9 161 yX9_of ∈ wsT) ⟨Nat.le_of_ble_eq_true rfl, Nat.le_of_ble_eq_true rfl⟩ hP hD hK hN hm_h0 hk_h0 (by decide) rfl rfl rfl hl.1 rfl (Nat.le_of_ble_eq_true rfl) ⟨Nat.le_of_ble_eq_true rfl, Nat.le_of_ble_eq_true rfl⟩ dX9_allowed_8 (fun r_1 hr_1 => ?_)
  have hOr_1 : (r_1 : Int32).toInt = yOf S d h0 (p0 : Int32).toInt.toNat 1 := by rw [hr_1, show (1 : Int32).toInt.toNat = 1 by decide +kernel]; rfl
  have hCC_2 := yMI.c hI
  have hbr_1 := xof1 hI (p := p0) (by refine ⟨?_, ?_⟩ <;> omega) hr_1
  refine lv_imul hx hb dX9_allowed_11 ?_
  refine lv_topi (fun z_3 ez_3 => ?_)
  refine lv_istore (lv' := [(7, .int z_3), (5, .long 0), (0, .ref h0), (1, .int p0), (2, .int p1), (3, .int p2), (4, .int p3)]) hx hb dX9_allowed_12 hl (by decide) rfl (fun ls hl => ?_)
  refine lv_iconst (v := 0) hx hb dX9_allowed_14 (by decide) ?_
  refine lv_istore (lv' := [(8, .int 0), (7, .int z_3), (5, .long 0), (0, .ref h0), (1, .int p0), (2, .int p1), (3, .int p2), (4, .int p3)]) hx hb dX9_allowed_15 hl (by decide) rfl (fun ls hl => ?_)
  refine yloopR (σ := Int64 × Int32) (fun x => (2147483647 - (x.2 : Int32).toInt).toNat) 17 (fun x ls => (0 ≤ ((x.2) : Int32).toInt) ∧ lv_has ls 12 [(8, .int x.2), (7, .int z_3), (5, .long x.1), (0, .ref h0), (1, .int p0), (2, .int p1), (3, .int p2), (4, .int p3)]) (fun x ls hl hnext_6 => ?_) (0, 0) ⟨(show (0 ≤ ((0) : Int32).toInt) from by have hl0_ : (0 : Int32).toInt = 0 := (by decide +kernel); have hl1_ : (0 : Int32).toInt = 0 := (by decide +kernel); have hq0_ : (0 : Int32).toInt = 0 := (by decide +kernel); omega), lv_sub hl [0, 1, 2, 3, 4, 5, 6, 7] rfl⟩
  obtain ⟨v_4, v_5⟩ := x
  obtain ⟨hex_7, hl⟩ := hl
  have hex_7 : (0 ≤ ((v_5) : Int32).toInt) := hex_7
  have hl : lv_has ls 12 [(8, .int v_5), (7, .int z_3), (5, .long v_4), (0, .ref h0), (1, .int p0), (2, .int p1), (3, .int p2), (4, .int p3)] := hl
  refine lv_iload hx hb dX9_allowed_17 (lv_at hl 0 rfl) ?_
  refine lv_bipush (v := 60) hx hb dX9_allowed_19 (by decide) ?_
  refine lv_icmp_ge (tgt := 142) hx hb dX9_allowed_21 (by decide) (fun c_8 => ?_) (fun c_8 => ?_)
  · refine lv_lload hx hb dX9_allowed_142 (lv_at hl 2 rfl) ?_
    exact W.lret (v := v_4) hx hb hr (fun t ht hW => ⟨v_4, rfl, trivial, ht⟩) (fun q hq => by cases hq) dX9_allowed_144
  · refine lv_aload_n hx hb dX9_allowed_24 rfl (lv_at hl 3 rfl) ?_
    refine lv_iload_n hx hb dX9_allowed_25 rfl (lv_at hl 4 rfl) ?_
    refine lv_iconst (v := 1) hx hb dX9_allowed_26 (by decide) ?_
    have F_9 := fnle (by decide +kernel : (60 : Int32).toInt = 60) (rfl : (v_5 : Int32).toInt = (v_5 : Int32).toInt) c_8
    refine yVri (As := [.int p0, .int 1]) (rest := []) C0 (g_X9_of l G S d h0 p0 1 hSh hm_h0 hk_h0 (by refine ⟨?_, ?_⟩ <;> omega) (by decide +kernel)) ok_X9_of (mW425 : Cond.methodLink RX9 161 yX9_of ∈ wsT) ⟨Nat.le_of_ble_eq_true rfl, Nat.le_of_ble_eq_true rfl⟩ hP hD hK hN hm_h0 hk_h0 (by decide) rfl rfl rfl hl.1 rfl (Nat.le_of_ble_eq_true rfl) ⟨Nat.le_of_ble_eq_true rfl, Nat.le_of_ble_eq_true rfl⟩ dX9_allowed_27 (fun r_10 hr_10 => ?_)
    have hOr_10 : (r_10 : Int32).toInt = yOf S d h0 (p0 : Int32).toInt.toNat 1 := by rw [hr_10, show (1 : Int32).toInt.toNat = 1 by decide +kernel]; rfl
    have hbr_10 := xof1 hI (p := p0) (by refine ⟨?_, ?_⟩ <;> omega) hr_10
    refine lv_iload hx hb dX9_allowed_30 (lv_at hl 7 rfl) ?_
    refine lv_icmp_ne (tgt := 45) hx hb dX9_allowed_32 (by decide) (fun c_11 => ?_) (fun c_11 => ?_)
    · refine lv_iload hx hb dX9_allowed_45 (lv_at hl 0 rfl) ?_
      refine lv_istore (lv' := [(9, .int v_5), (8, .int v_5), (7, .int z_3), (5, .long v_4), (0, .ref h0), (1, .int p0), (2, .int p1), (3, .int p2), (4, .int p3)]) hx hb dX9_allowed_47 hl (by decide) rfl (fun ls hl => ?_)
      refine lv_iload hx hb dX9_allowed_49 (lv_at hl 0 rfl) ?_
      refine lv_if_lt (tgt := 136) hx hb dX9_allowed_51 (by decide) (fun c_12 => ?_) (fun c_12 => ?_)
      · refine lv_iinc (v := v_5 + 1) (lv' := [(8, .int (v_5 + 1)), (9, .int v_5), (7, .int z_3), (5, .long v_4), (0, .ref h0), (1, .int p0), (2, .int p1), (3, .int p2), (4, .int p3)]) hx hb dX9_allowed_136 hl (k := 1) rfl rfl (by decide) rfl (fun ls hl => ?_)
        refine lv_goto (tgt := 17) hx hb dX9_allowed_139 (by decide) ?_
        have F_14 := fne (rfl : (r_10 : Int32).toInt = (r_10 : Int32).toInt) (rfl : (p3 : Int32).toInt = (p3 : Int32).toInt) c_11
        have F_15 := flt (rfl : (v_5 : Int32).toInt = (v_5 : Int32).toInt) (by decide +kernel : (0 : Int32).toInt = 0) c_12
        have T_16 : ((v_5 + 1) : Int32).toInt = (v_5 : Int32).toInt + 1 := tadd rfl (rfl : (v_5 : Int32).toInt = (v_5 : Int32).toInt) (by decide +kernel : (1 : Int32).toInt = 1) (by omega) (by omega)
        exact hnext_6 (v_4, v_5 + 1) ls (xup c_8) ⟨(show (0 ≤ (((v_5 + 1)) : Int32).toInt) from by have hq0_ : (0 : Int32).toInt = 0 := (by decide +kernel); omega), (lv_sub hl [0, 2, 3, 4, 5, 6, 7, 8] rfl)⟩
      · refine lv_aload_n hx hb dX9_allowed_54 rfl (lv_at hl 4 rfl) ?_
        refine yget (ci := 9) (k := 4) (v := .ref (S.2.2.1 h0 4)) (C := RX9) (T := TX9) (N := 67) C0 hK hP hm_h0 hk_h0 (by decide) rfl inlX9 (by decide) mW108 (fun _ h9 => h9) rfl dX9_allowed_55 ?_
        obtain ⟨hmy_17, hky_17⟩ := ySh.f9_4 hSh _ hm_h0 hk_h0
        refine lv_iload hx hb dX9_allowed_58 (lv_at hl 2 rfl) ?_
        refine lv_iload hx hb dX9_allowed_60 (lv_at hl 0 rfl) ?_
        refine lv_iadd hx hb dX9_allowed_62 ?_
        refine lv_topi (fun z_18 ez_18 => ?_)
        have F_19 := fne (rfl : (r_10 : Int32).toInt = (r_10 : Int32).toInt) (rfl : (p3 : Int32).toInt = (p3 : Int32).toInt) c_11
        have F_20 := fnlt (rfl : (v_5 : Int32).toInt = (v_5 : Int32).toInt) (by decide +kernel : (0 : Int32).toInt = 0) c_12
        have T_22 : (z_3 : Int32).toInt = 60 * (r_1 : Int32).toInt := tmul ez_3 (by decide +kernel : (60 : Int32).toInt = 60) (rfl : (r_1 : Int32).toInt = (r_1 : Int32).toInt) (by omega) (by omega)
        have T_21 : (z_18 : Int32).toInt = (z_3 : Int32).toInt + (v_5 : Int32).toInt := tadd ez_18 (rfl : (z_3 : Int32).toInt = (z_3 : Int32).toInt) (rfl : (v_5 : Int32).toInt = (v_5 : Int32).toInt) (by omega) (by omega)
        refine yaldB C0 hK hP hmy_17 hky_17 (by decide) rfl 1 rfl (xinT 2400 rfl (by omega) (by omega)) dX9_allowed_63 ?_
        refine lv_topi (fun z_23 ez_23 => ?_)
        refine lv_iconst (v := 2) hx hb dX9_allowed_64 (by decide) ?_
        refine lv_icmp_ne (tgt := 136) hx hb dX9_allowed_65 (by decide) (fun c_24 => ?_) (fun c_24 => ?_)
        · refine lv_iinc (v := v_5 + 1) (lv' := [(8, .int (v_5 + 1)), (9, .int v_5), (7, .int z_3), (5, .long v_4), (0, .ref h0), (1, .int p0), (2, .int p1), (3, .int p2), (4, .int p3)]) hx hb dX9_allowed_136 hl (k := 1) rfl rfl (by decide) rfl (fun ls hl => ?_)
          refine lv_goto (tgt := 17) hx hb dX9_allowed_139 (by decide) ?_
          have F_27 := fne (rfl : (z_23 : Int32).toInt = (z_23 : Int32).toInt) (by decide +kernel : (2 : Int32).toInt = 2) c_24
          have T_28 : ((v_5 + 1) : Int32).toInt = (v_5 : Int32).toInt + 1 := tadd rfl (rfl : (v_5 : Int32).toInt = (v_5 : Int32).toInt) (by decide +kernel : (1 : Int32).toInt = 1) (by omega) (by omega)
          exact hnext_6 (v_4, v_5 + 1) ls (xup c_8) ⟨(show (0 ≤ (((v_5 + 1)) : Int32).toInt) from by have hq0_ : (0 : Int32).toInt = 0 := (by decide +kernel); omega), (lv_sub hl [0, 2, 3, 4, 5, 6, 7, 8] rfl)⟩
        · refine lv_aload_n hx hb dX9_allowed_68 rfl (lv_at hl 4 rfl) ?_
          refine yget (ci := 9) (k := 5) (v := .ref (S.2.2.1 h0 5)) (C := RX9) (T := TX9) (N := 67) C0 hK hP hm_h0 hk_h0 (by decide) rfl inlX9 (by decide) mW109 (fun _ h9 => h9) rfl dX9_allowed_69 ?_
          obtain ⟨hmy_29, hky_29⟩ := ySh.f9_5 hSh _ hm_h0 hk_h0
          refine lv_iload hx hb dX9_allowed_72 (lv_at hl 2 rfl) ?_
          refine lv_iload hx hb dX9_allowed_74 (lv_at hl 0 rfl) ?_
          refine lv_iadd hx hb dX9_allowed_76 ?_
          refine lv_topi (fun z_30 ez_30 => ?_)
          have F_32 := feq (rfl : (z_23 : Int32).toInt = (z_23 : Int32).toInt) (by decide +kernel : (2 : Int32).toInt = 2) c_24
          have T_33 : (z_30 : Int32).toInt = (z_3 : Int32).toInt + (v_5 : Int32).toInt := tadd ez_30 (rfl : (z_3 : Int32).toInt = (z_3 : Int32).toInt) (rfl : (v_5 : Int32).toInt = (v_5 : Int32).toInt) (by omega) (by omega)
          refine yaldB C0 hK hP hmy_29 hky_29 (by decide) rfl 1 rfl (xinT 2400 rfl (by omega) (by omega)) dX9_allowed_77 ?_
          refine lv_topi (fun z_34 ez_34 => ?_)
          refine lv_if_eq (tgt := 84) hx hb dX9_allowed_78 (by decide) (fun c_35 => ?_) (fun c_35 => ?_)
          · refine lv_aload_n hx hb dX9_allowed_84 rfl (lv_at hl 4 rfl) ?_
            refine yget (ci := 9) (k := 10) (v := .ref (S.2.2.1 h0 10)) (C := RX9) (T := TX9) (N := 67) C0 hK hP hm_h0 hk_h0 (by decide) rfl inlX9 (by decide) mW114 (fun _ h9 => h9) rfl dX9_allowed_85 ?_
            obtain ⟨hmy_36, hky_36⟩ := ySh.f9_10 hSh _ hm_h0 hk_h0
            refine lv_iload hx hb dX9_allowed_88 (lv_at hl 2 rfl) ?_
            refine lv_iload hx hb dX9_allowed_90 (lv_at hl 0 rfl) ?_
            refine lv_iadd hx hb dX9_allowed_92 ?_
            refine lv_topi (fun z_37 ez_37 => ?_)
            have F_39 := feq (rfl : (z_34 : Int32).toInt = (z_34 : Int32).toInt) (by decide +kernel : (0 : Int32).toInt = 0) c_35
            have T_40 : (z_37 : Int32).toInt = (z_3 : Int32).toInt + (v_5 : Int32).toInt := tadd ez_37 (rfl : (z_3 : Int32).toInt = (z_3 : Int32).toInt) (rfl : (v_5 : Int32).toInt = (v_5 : Int32).toInt) (by omega) (by omega)
            refine yald C0 hK hP hmy_36 hky_36 (by decide) rfl 0 rfl (xinT 2400 rfl (by omega) (by omega)) dX9_allowed_93 ?_
            refine lv_topi (fun z_41 ez_41 => ?_)
            refine lv_i2l hx hb dX9_allowed_94 rfl ?_
            refine lv_topl (fun z_42 ez_42 => ?_)
            refine lv_lstore (lv' := [(10, .long z_42), (9, .int v_5), (8, .int v_5), (7, .int z_3), (5, .long v_4), (0, .ref h0), (1, .int p0), (2, .int p1), (3, .int p2), (4, .int p3)]) hx hb dX9_allowed_95 hl (by decide) rfl (fun ls hl => ?_)
            refine lv_lload hx hb dX9_allowed_97 (lv_at hl 4 rfl) ?_
            refine lv_lload hx hb dX9_allowed_99 (lv_at hl 0 rfl) ?_
            refine lv_lconst (v := 0) hx hb dX9_allowed_101 (by decide) ?_
            refine W.lcmp hx hb dX9_allowed_102 ?_
            refine lv_topi (fun z_43 ez_43 => ?_)
            refine lv_if_lt (tgt := 111) hx hb dX9_allowed_103 (by decide) (fun c_44 => ?_) (fun c_44 => ?_)
            · refine lv_aload_n hx hb dX9_allowed_111 rfl (lv_at hl 5 rfl) ?_
              refine yget (ci := 9) (k := 11) (v := .ref (S.2.2.1 h0 11)) (C := RX9) (T := TX9) (N := 67) C0 hK hP hm_h0 hk_h0 (by decide) rfl inlX9 (by decide) mW116 (fun _ h9 => h9) rfl dX9_allowed_112 ?_
              obtain ⟨hmy_45, hky_45⟩ := ySh.f9_11 hSh _ hm_h0 hk_h0
              refine lv_bipush (v := 12) hx hb dX9_allowed_115 (by decide) ?_
              refine lv_iload_n hx hb dX9_allowed_117 rfl (lv_at hl 6 rfl) ?_
              refine lv_imul hx hb dX9_allowed_118 ?_
              refine lv_topi (fun z_46 ez_46 => ?_)
              refine lv_iconst (v := 3) hx hb dX9_allowed_119 (by decide) ?_
              refine lv_iadd hx hb dX9_allowed_120 ?_
              refine lv_topi (fun z_47 ez_47 => ?_)
              have T_49 : (z_46 : Int32).toInt = 12 * (p0 : Int32).toInt := tmul ez_46 (by decide +kernel : (12 : Int32).toInt = 12) (rfl : (p0 : Int32).toInt = (p0 : Int32).toInt) (by omega) (by omega)
              have T_48 : (z_47 : Int32).toInt = (z_46 : Int32).toInt + 3 := tadd ez_47 (rfl : (z_46 : Int32).toInt = (z_46 : Int32).toInt) (by decide +kernel : (3 : Int32).toInt = 3) (by omega) (by omega)
              refine yaldJ C0 hK hP hmy_45 hky_45 (by decide) rfl 4 rfl (xinT 96 rfl (by omega) (by omega)) dX9_allowed_121 ?_
              refine lv_topl (fun z_50 ez_50 => ?_)
              refine lv_ldc2 (v := 60) hx hb hown (htl (.constantLong RX9 235 (60)) mW655) dX9_allowed_122 ?_
              refine lv_lmul hx hb dX9_allowed_125 ?_
              refine lv_topl (fun z_51 ez_51 => ?_)
              refine lv_ldc2 (v := (-1000)) hx hb hown (htl (.constantLong RX9 237 (-1000)) mW656) dX9_allowed_126 ?_
              refine lv_lload hx hb dX9_allowed_129 (lv_at hl 0 rfl) ?_
              refine lv_lmul hx hb dX9_allowed_131 ?_
              refine lv_topl (fun z_52 ez_52 => ?_)
              refine lv_ldiv hx hb dX9_allowed_132 (xnz3 (z2 := 0) ez_42 ez_43 c_44 ez_52) ?_
              refine lv_topl (fun z_53 ez_53 => ?_)
              refine lv_ladd hx hb dX9_allowed_133 ?_
              refine lv_topl (fun z_54 ez_54 => ?_)
              refine lv_lstore (lv' := [(5, .long z_54), (10, .long z_42), (9, .int v_5), (8, .int v_5), (7, .int z_3), (0, .ref h0), (1, .int p0), (2, .int p1), (3, .int p2), (4, .int p3)]) hx hb dX9_allowed_134 hl (by decide) rfl (fun ls hl => ?_)
              refine lv_iinc (v := v_5 + 1) (lv' := [(8, .int (v_5 + 1)), (5, .long z_54), (10, .long z_42), (9, .int v_5), (7, .int z_3), (0, .ref h0), (1, .int p0), (2, .int p1), (3, .int p2), (4, .int p3)]) hx hb dX9_allowed_136 hl (k := 3) rfl rfl (by decide) rfl (fun ls hl => ?_)
              refine lv_goto (tgt := 17) hx hb dX9_allowed_139 (by decide) ?_
              have T_56 : ((v_5 + 1) : Int32).toInt = (v_5 : Int32).toInt + 1 := tadd rfl (rfl : (v_5 : Int32).toInt = (v_5 : Int32).toInt) (by decide +kernel : (1 : Int32).toInt = 1) (by omega) (by omega)
              exact hnext_6 (z_54, v_5 + 1) ls (xup c_8) ⟨(show (0 ≤ (((v_5 + 1)) : Int32).toInt) from by have hq0_ : (0 : Int32).toInt = 0 := (by decide +kernel); omega), (lv_sub hl [0, 4, 1, 5, 6, 7, 8, 9] rfl)⟩
            · refine lv_lload hx hb dX9_allowed_106 (lv_at hl 0 rfl) ?_
              refine lv_goto (tgt := 133) hx hb dX9_allowed_108 (by decide) ?_
              refine lv_ladd hx hb dX9_allowed_133 ?_
              refine lv_topl (fun z_57 ez_57 => ?_)
              refine lv_lstore (lv' := [(5, .long z_57), (10, .long z_42), (9, .int v_5), (8, .int v_5), (7, .int z_3), (0, .ref h0), (1, .int p0), (2, .int p1), (3, .int p2), (4, .int p3)]) hx hb dX9_allowed_134 hl (by decide) rfl (fun ls hl => ?_)
              refine lv_iinc (v := v_5 + 1) (lv' := [(8, .int (v_5 + 1)), (5, .long z_57), (10, .long z_42), (9, .int v_5), (7, .int z_3), (0, .ref h0), (1, .int p0), (2, .int p1), (3, .int p2), (4, .int p3)]) hx hb dX9_allowed_136 hl (k := 3) rfl rfl (by decide) rfl (fun ls hl => ?_)
              refine lv_goto (tgt := 17) hx hb dX9_allowed_139 (by decide) ?_
              have T_59 : ((v_5 + 1) : Int32).toInt = (v_5 : Int32).toInt + 1 := tadd rfl (rfl : (v_5 : Int32).toInt = (v_5 : Int32).toInt) (by decide +kernel : (1 : Int32).toInt = 1) (by omega) (by omega)
              exact hnext_6 (z_57, v_5 + 1) ls (xup c_8) ⟨(show (0 ≤ (((v_5 + 1)) : Int32).toInt) from by have hq0_ : (0 : Int32).toInt = 0 := (by decide +kernel); omega), (lv_sub hl [0, 4, 1, 5, 6, 7, 8, 9] rfl)⟩
          · refine lv_goto (tgt := 136) hx hb dX9_allowed_81 (by decide) ?_
            refine lv_iinc (v := v_5 + 1) (lv' := [(8, .int (v_5 + 1)), (9, .int v_5), (7, .int z_3), (5, .long v_4), (0, .ref h0), (1, .int p0), (2, .int p1), (3, .int p2), (4, .int p3)]) hx hb dX9_allowed_136 hl (k := 1) rfl rfl (by decide) rfl (fun ls hl => ?_)
            refine lv_goto (tgt := 17) hx hb dX9_allowed_139 (by decide) ?_
            have F_62 := fne (rfl : (z_34 : Int32).toInt = (z_34 : Int32).toInt) (by decide +kernel : (0 : Int32).toInt = 0) c_35
            have T_63 : ((v_5 + 1) : Int32).toInt = (v_5 : Int32).toInt + 1 := tadd rfl (rfl : (v_5 : Int32).toInt = (v_5 : Int32).toInt) (by decide +kernel : (1 : Int32).toInt = 1) (by omega) (by omega)
            exact hnext_6 (v_4, v_5 + 1) ls (xup c_8) ⟨(show (0 ≤ (((v_5 + 1)) : Int32).toInt) from by have hq0_ : (0 : Int32).toInt = 0 := (by decide +kernel); omega), (lv_sub hl [0, 2, 3, 4, 5, 6, 7, 8] rfl)⟩
    · refine lv_iload hx hb dX9_allowed_35 (lv_at hl 0 rfl) ?_
      refine lv_iload_n hx hb dX9_allowed_37 rfl (lv_at hl 5 rfl) ?_
      refine lv_icmp_ne (tgt := 45) hx hb dX9_allowed_38 (by decide) (fun c_64 => ?_) (fun c_64 => ?_)
      · refine lv_iload hx hb dX9_allowed_45 (lv_at hl 0 rfl) ?_
        refine lv_istore (lv' := [(9, .int v_5), (8, .int v_5), (7, .int z_3), (5, .long v_4), (0, .ref h0), (1, .int p0), (2, .int p1), (3, .int p2), (4, .int p3)]) hx hb dX9_allowed_47 hl (by decide) rfl (fun ls hl => ?_)
        refine lv_iload hx hb dX9_allowed_49 (lv_at hl 0 rfl) ?_
        refine lv_if_lt (tgt := 136) hx hb dX9_allowed_51 (by decide) (fun c_65 => ?_) (fun c_65 => ?_)
        · refine lv_iinc (v := v_5 + 1) (lv' := [(8, .int (v_5 + 1)), (9, .int v_5), (7, .int z_3), (5, .long v_4), (0, .ref h0), (1, .int p0), (2, .int p1), (3, .int p2), (4, .int p3)]) hx hb dX9_allowed_136 hl (k := 1) rfl rfl (by decide) rfl (fun ls hl => ?_)
          refine lv_goto (tgt := 17) hx hb dX9_allowed_139 (by decide) ?_
          have F_67 := feq (rfl : (r_10 : Int32).toInt = (r_10 : Int32).toInt) (rfl : (p3 : Int32).toInt = (p3 : Int32).toInt) c_11
          have F_68 := fne (rfl : (v_5 : Int32).toInt = (v_5 : Int32).toInt) (rfl : (p1 : Int32).toInt = (p1 : Int32).toInt) c_64
          have F_69 := flt (rfl : (v_5 : Int32).toInt = (v_5 : Int32).toInt) (by decide +kernel : (0 : Int32).toInt = 0) c_65
          have T_70 : ((v_5 + 1) : Int32).toInt = (v_5 : Int32).toInt + 1 := tadd rfl (rfl : (v_5 : Int32).toInt = (v_5 : Int32).toInt) (by decide +kernel : (1 : Int32).toInt = 1) (by omega) (by omega)
          exact hnext_6 (v_4, v_5 + 1) ls (xup c_8) ⟨(show (0 ≤ (((v_5 + 1)) : Int32).toInt) from by have hq0_ : (0 : Int32).toInt = 0 := (by decide +kernel); omega), (lv_sub hl [0, 2, 3, 4, 5, 6, 7, 8] rfl)⟩
        · refine lv_aload_n hx hb dX9_allowed_54 rfl (lv_at hl 4 rfl) ?_
          refine yget (ci := 9) (k := 4) (v := .ref (S.2.2.1 h0 4)) (C := RX9) (T := TX9) (N := 67) C0 hK hP hm_h0 hk_h0 (by decide) rfl inlX9 (by decide) mW108 (fun _ h9 => h9) rfl dX9_allowed_55 ?_
          obtain ⟨hmy_71, hky_71⟩ := ySh.f9_4 hSh _ hm_h0 hk_h0
          refine lv_iload hx hb dX9_allowed_58 (lv_at hl 2 rfl) ?_
          refine lv_iload hx hb dX9_allowed_60 (lv_at hl 0 rfl) ?_
          refine lv_iadd hx hb dX9_allowed_62 ?_
          refine lv_topi (fun z_72 ez_72 => ?_)
          have F_73 := feq (rfl : (r_10 : Int32).toInt = (r_10 : Int32).toInt) (rfl : (p3 : Int32).toInt = (p3 : Int32).toInt) c_11
          have F_74 := fne (rfl : (v_5 : Int32).toInt = (v_5 : Int32).toInt) (rfl : (p1 : Int32).toInt = (p1 : Int32).toInt) c_64
          have F_75 := fnlt (rfl : (v_5 : Int32).toInt = (v_5 : Int32).toInt) (by decide +kernel : (0 : Int32).toInt = 0) c_65
          have T_77 : (z_3 : Int32).toInt = 60 * (r_1 : Int32).toInt := tmul ez_3 (by decide +kernel : (60 : Int32).toInt = 60) (rfl : (r_1 : Int32).toInt = (r_1 : Int32).toInt) (by omega) (by omega)
          have T_76 : (z_72 : Int32).toInt = (z_3 : Int32).toInt + (v_5 : Int32).toInt := tadd ez_72 (rfl : (z_3 : Int32).toInt = (z_3 : Int32).toInt) (rfl : (v_5 : Int32).toInt = (v_5 : Int32).toInt) (by omega) (by omega)
          refine yaldB C0 hK hP hmy_71 hky_71 (by decide) rfl 1 rfl (xinT 2400 rfl (by omega) (by omega)) dX9_allowed_63 ?_
          refine lv_topi (fun z_78 ez_78 => ?_)
          refine lv_iconst (v := 2) hx hb dX9_allowed_64 (by decide) ?_
          refine lv_icmp_ne (tgt := 136) hx hb dX9_allowed_65 (by decide) (fun c_79 => ?_) (fun c_79 => ?_)
          · refine lv_iinc (v := v_5 + 1) (lv' := [(8, .int (v_5 + 1)), (9, .int v_5), (7, .int z_3), (5, .long v_4), (0, .ref h0), (1, .int p0), (2, .int p1), (3, .int p2), (4, .int p3)]) hx hb dX9_allowed_136 hl (k := 1) rfl rfl (by decide) rfl (fun ls hl => ?_)
            refine lv_goto (tgt := 17) hx hb dX9_allowed_139 (by decide) ?_
            have F_82 := fne (rfl : (z_78 : Int32).toInt = (z_78 : Int32).toInt) (by decide +kernel : (2 : Int32).toInt = 2) c_79
            have T_83 : ((v_5 + 1) : Int32).toInt = (v_5 : Int32).toInt + 1 := tadd rfl (rfl : (v_5 : Int32).toInt = (v_5 : Int32).toInt) (by decide +kernel : (1 : Int32).toInt = 1) (by omega) (by omega)
            exact hnext_6 (v_4, v_5 + 1) ls (xup c_8) ⟨(show (0 ≤ (((v_5 + 1)) : Int32).toInt) from by have hq0_ : (0 : Int32).toInt = 0 := (by decide +kernel); omega), (lv_sub hl [0, 2, 3, 4, 5, 6, 7, 8] rfl)⟩
          · refine lv_aload_n hx hb dX9_allowed_68 rfl (lv_at hl 4 rfl) ?_
            refine yget (ci := 9) (k := 5) (v := .ref (S.2.2.1 h0 5)) (C := RX9) (T := TX9) (N := 67) C0 hK hP hm_h0 hk_h0 (by decide) rfl inlX9 (by decide) mW109 (fun _ h9 => h9) rfl dX9_allowed_69 ?_
            obtain ⟨hmy_84, hky_84⟩ := ySh.f9_5 hSh _ hm_h0 hk_h0
            refine lv_iload hx hb dX9_allowed_72 (lv_at hl 2 rfl) ?_
            refine lv_iload hx hb dX9_allowed_74 (lv_at hl 0 rfl) ?_
            refine lv_iadd hx hb dX9_allowed_76 ?_
            refine lv_topi (fun z_85 ez_85 => ?_)
            have F_87 := feq (rfl : (z_78 : Int32).toInt = (z_78 : Int32).toInt) (by decide +kernel : (2 : Int32).toInt = 2) c_79
            have T_88 : (z_85 : Int32).toInt = (z_3 : Int32).toInt + (v_5 : Int32).toInt := tadd ez_85 (rfl : (z_3 : Int32).toInt = (z_3 : Int32).toInt) (rfl : (v_5 : Int32).toInt = (v_5 : Int32).toInt) (by omega) (by omega)
            refine yaldB C0 hK hP hmy_84 hky_84 (by decide) rfl 1 rfl (xinT 2400 rfl (by omega) (by omega)) dX9_allowed_77 ?_
            refine lv_topi (fun z_89 ez_89 => ?_)
            refine lv_if_eq (tgt := 84) hx hb dX9_allowed_78 (by decide) (fun c_90 => ?_) (fun c_90 => ?_)
            · refine lv_aload_n hx hb dX9_allowed_84 rfl (lv_at hl 4 rfl) ?_
              refine yget (ci := 9) (k := 10) (v := .ref (S.2.2.1 h0 10)) (C := RX9) (T := TX9) (N := 67) C0 hK hP hm_h0 hk_h0 (by decide) rfl inlX9 (by decide) mW114 (fun _ h9 => h9) rfl dX9_allowed_85 ?_
              obtain ⟨hmy_91, hky_91⟩ := ySh.f9_10 hSh _ hm_h0 hk_h0
              refine lv_iload hx hb dX9_allowed_88 (lv_at hl 2 rfl) ?_
              refine lv_iload hx hb dX9_allowed_90 (lv_at hl 0 rfl) ?_
              refine lv_iadd hx hb dX9_allowed_92 ?_
              refine lv_topi (fun z_92 ez_92 => ?_)
              have F_94 := feq (rfl : (z_89 : Int32).toInt = (z_89 : Int32).toInt) (by decide +kernel : (0 : Int32).toInt = 0) c_90
              have T_95 : (z_92 : Int32).toInt = (z_3 : Int32).toInt + (v_5 : Int32).toInt := tadd ez_92 (rfl : (z_3 : Int32).toInt = (z_3 : Int32).toInt) (rfl : (v_5 : Int32).toInt = (v_5 : Int32).toInt) (by omega) (by omega)
              refine yald C0 hK hP hmy_91 hky_91 (by decide) rfl 0 rfl (xinT 2400 rfl (by omega) (by omega)) dX9_allowed_93 ?_
              refine lv_topi (fun z_96 ez_96 => ?_)
              refine lv_i2l hx hb dX9_allowed_94 rfl ?_
              refine lv_topl (fun z_97 ez_97 => ?_)
              refine lv_lstore (lv' := [(10, .long z_97), (9, .int v_5), (8, .int v_5), (7, .int z_3), (5, .long v_4), (0, .ref h0), (1, .int p0), (2, .int p1), (3, .int p2), (4, .int p3)]) hx hb dX9_allowed_95 hl (by decide) rfl (fun ls hl => ?_)
              refine lv_lload hx hb dX9_allowed_97 (lv_at hl 4 rfl) ?_
              refine lv_lload hx hb dX9_allowed_99 (lv_at hl 0 rfl) ?_
              refine lv_lconst (v := 0) hx hb dX9_allowed_101 (by decide) ?_
              refine W.lcmp hx hb dX9_allowed_102 ?_
              refine lv_topi (fun z_98 ez_98 => ?_)
              refine lv_if_lt (tgt := 111) hx hb dX9_allowed_103 (by decide) (fun c_99 => ?_) (fun c_99 => ?_)
              · refine lv_aload_n hx hb dX9_allowed_111 rfl (lv_at hl 5 rfl) ?_
                refine yget (ci := 9) (k := 11) (v := .ref (S.2.2.1 h0 11)) (C := RX9) (T := TX9) (N := 67) C0 hK hP hm_h0 hk_h0 (by decide) rfl inlX9 (by decide) mW116 (fun _ h9 => h9) rfl dX9_allowed_112 ?_
                obtain ⟨hmy_100, hky_100⟩ := ySh.f9_11 hSh _ hm_h0 hk_h0
                refine lv_bipush (v := 12) hx hb dX9_allowed_115 (by decide) ?_
                refine lv_iload_n hx hb dX9_allowed_117 rfl (lv_at hl 6 rfl) ?_
                refine lv_imul hx hb dX9_allowed_118 ?_
                refine lv_topi (fun z_101 ez_101 => ?_)
                refine lv_iconst (v := 3) hx hb dX9_allowed_119 (by decide) ?_
                refine lv_iadd hx hb dX9_allowed_120 ?_
                refine lv_topi (fun z_102 ez_102 => ?_)
                have T_104 : (z_101 : Int32).toInt = 12 * (p0 : Int32).toInt := tmul ez_101 (by decide +kernel : (12 : Int32).toInt = 12) (rfl : (p0 : Int32).toInt = (p0 : Int32).toInt) (by omega) (by omega)
                have T_103 : (z_102 : Int32).toInt = (z_101 : Int32).toInt + 3 := tadd ez_102 (rfl : (z_101 : Int32).toInt = (z_101 : Int32).toInt) (by decide +kernel : (3 : Int32).toInt = 3) (by omega) (by omega)
                refine yaldJ C0 hK hP hmy_100 hky_100 (by decide) rfl 4 rfl (xinT 96 rfl (by omega) (by omega)) dX9_allowed_121 ?_
                refine lv_topl (fun z_105 ez_105 => ?_)
                refine lv_ldc2 (v := 60) hx hb hown (htl (.constantLong RX9 235 (60)) mW655) dX9_allowed_122 ?_
                refine lv_lmul hx hb dX9_allowed_125 ?_
                refine lv_topl (fun z_106 ez_106 => ?_)
                refine lv_ldc2 (v := (-1000)) hx hb hown (htl (.constantLong RX9 237 (-1000)) mW656) dX9_allowed_126 ?_
                refine lv_lload hx hb dX9_allowed_129 (lv_at hl 0 rfl) ?_
                refine lv_lmul hx hb dX9_allowed_131 ?_
                refine lv_topl (fun z_107 ez_107 => ?_)
                refine lv_ldiv hx hb dX9_allowed_132 (xnz3 (z2 := 0) ez_97 ez_98 c_99 ez_107) ?_
                refine lv_topl (fun z_108 ez_108 => ?_)
                refine lv_ladd hx hb dX9_allowed_133 ?_
                refine lv_topl (fun z_109 ez_109 => ?_)
                refine lv_lstore (lv' := [(5, .long z_109), (10, .long z_97), (9, .int v_5), (8, .int v_5), (7, .int z_3), (0, .ref h0), (1, .int p0), (2, .int p1), (3, .int p2), (4, .int p3)]) hx hb dX9_allowed_134 hl (by decide) rfl (fun ls hl => ?_)
                refine lv_iinc (v := v_5 + 1) (lv' := [(8, .int (v_5 + 1)), (5, .long z_109), (10, .long z_97), (9, .int v_5), (7, .int z_3), (0, .ref h0), (1, .int p0), (2, .int p1), (3, .int p2), (4, .int p3)]) hx hb dX9_allowed_136 hl (k := 3) rfl rfl (by decide) rfl (fun ls hl => ?_)
                refine lv_goto (tgt := 17) hx hb dX9_allowed_139 (by decide) ?_
                have T_111 : ((v_5 + 1) : Int32).toInt = (v_5 : Int32).toInt + 1 := tadd rfl (rfl : (v_5 : Int32).toInt = (v_5 : Int32).toInt) (by decide +kernel : (1 : Int32).toInt = 1) (by omega) (by omega)
                exact hnext_6 (z_109, v_5 + 1) ls (xup c_8) ⟨(show (0 ≤ (((v_5 + 1)) : Int32).toInt) from by have hq0_ : (0 : Int32).toInt = 0 := (by decide +kernel); omega), (lv_sub hl [0, 4, 1, 5, 6, 7, 8, 9] rfl)⟩
              · refine lv_lload hx hb dX9_allowed_106 (lv_at hl 0 rfl) ?_
                refine lv_goto (tgt := 133) hx hb dX9_allowed_108 (by decide) ?_
                refine lv_ladd hx hb dX9_allowed_133 ?_
                refine lv_topl (fun z_112 ez_112 => ?_)
                refine lv_lstore (lv' := [(5, .long z_112), (10, .long z_97), (9, .int v_5), (8, .int v_5), (7, .int z_3), (0, .ref h0), (1, .int p0), (2, .int p1), (3, .int p2), (4, .int p3)]) hx hb dX9_allowed_134 hl (by decide) rfl (fun ls hl => ?_)
                refine lv_iinc (v := v_5 + 1) (lv' := [(8, .int (v_5 + 1)), (5, .long z_112), (10, .long z_97), (9, .int v_5), (7, .int z_3), (0, .ref h0), (1, .int p0), (2, .int p1), (3, .int p2), (4, .int p3)]) hx hb dX9_allowed_136 hl (k := 3) rfl rfl (by decide) rfl (fun ls hl => ?_)
                refine lv_goto (tgt := 17) hx hb dX9_allowed_139 (by decide) ?_
                have T_114 : ((v_5 + 1) : Int32).toInt = (v_5 : Int32).toInt + 1 := tadd rfl (rfl : (v_5 : Int32).toInt = (v_5 : Int32).toInt) (by decide +kernel : (1 : Int32).toInt = 1) (by omega) (by omega)
                exact hnext_6 (z_112, v_5 + 1) ls (xup c_8) ⟨(show (0 ≤ (((v_5 + 1)) : Int32).toInt) from by have hq0_ : (0 : Int32).toInt = 0 := (by decide +kernel); omega), (lv_sub hl [0, 4, 1, 5, 6, 7, 8, 9] rfl)⟩
            · refine lv_goto (tgt := 136) hx hb dX9_allowed_81 (by decide) ?_
              refine lv_iinc (v := v_5 + 1) (lv' := [(8, .int (v_5 + 1)), (9, .int v_5), (7, .int z_3), (5, .long v_4), (0, .ref h0), (1, .int p0), (2, .int p1), (3, .int p2), (4, .int p3)]) hx hb dX9_allowed_136 hl (k := 1) rfl rfl (by decide) rfl (fun ls hl => ?_)
              refine lv_goto (tgt := 17) hx hb dX9_allowed_139 (by decide) ?_
              have F_117 := fne (rfl : (z_89 : Int32).toInt = (z_89 : Int32).toInt) (by decide +kernel : (0 : Int32).toInt = 0) c_90
              have T_118 : ((v_5 + 1) : Int32).toInt = (v_5 : Int32).toInt + 1 := tadd rfl (rfl : (v_5 : Int32).toInt = (v_5 : Int32).toInt) (by decide +kernel : (1 : Int32).toInt = 1) (by omega) (by omega)
              exact hnext_6 (v_4, v_5 + 1) ls (xup c_8) ⟨(show (0 ≤ (((v_5 + 1)) : Int32).toInt) from by have hq0_ : (0 : Int32).toInt = 0 := (by decide +kernel); omega), (lv_sub hl [0, 2, 3, 4, 5, 6, 7, 8] rfl)⟩
      · refine lv_iload_n hx hb dX9_allowed_41 rfl (lv_at hl 6 rfl) ?_
        refine lv_goto (tgt := 47) hx hb dX9_allowed_42 (by decide) ?_
        refine lv_istore (lv' := [(9, .int p2), (8, .int v_5), (7, .int z_3), (5, .long v_4), (0, .ref h0), (1, .int p0), (2, .int p1), (3, .int p2), (4, .int p3)]) hx hb dX9_allowed_47 hl (by decide) rfl (fun ls hl => ?_)
        refine lv_iload hx hb dX9_allowed_49 (lv_at hl 0 rfl) ?_
        refine lv_if_lt (tgt := 136) hx hb dX9_allowed_51 (by decide) (fun c_119 => ?_) (fun c_119 => ?_)
        · refine lv_iinc (v := v_5 + 1) (lv' := [(8, .int (v_5 + 1)), (9, .int p2), (7, .int z_3), (5, .long v_4), (0, .ref h0), (1, .int p0), (2, .int p1), (3, .int p2), (4, .int p3)]) hx hb dX9_allowed_136 hl (k := 1) rfl rfl (by decide) rfl (fun ls hl => ?_)
          refine lv_goto (tgt := 17) hx hb dX9_allowed_139 (by decide) ?_
          have F_121 := feq (rfl : (r_10 : Int32).toInt = (r_10 : Int32).toInt) (rfl : (p3 : Int32).toInt = (p3 : Int32).toInt) c_11
          have F_122 := feq (rfl : (v_5 : Int32).toInt = (v_5 : Int32).toInt) (rfl : (p1 : Int32).toInt = (p1 : Int32).toInt) c_64
          have F_123 := flt (rfl : (p2 : Int32).toInt = (p2 : Int32).toInt) (by decide +kernel : (0 : Int32).toInt = 0) c_119
          have T_124 : ((v_5 + 1) : Int32).toInt = (v_5 : Int32).toInt + 1 := tadd rfl (rfl : (v_5 : Int32).toInt = (v_5 : Int32).toInt) (by decide +kernel : (1 : Int32).toInt = 1) (by omega) (by omega)
          exact hnext_6 (v_4, v_5 + 1) ls (xup c_8) ⟨(show (0 ≤ (((v_5 + 1)) : Int32).toInt) from by have hq0_ : (0 : Int32).toInt = 0 := (by decide +kernel); omega), (lv_sub hl [0, 2, 3, 4, 5, 6, 7, 8] rfl)⟩
        · refine lv_aload_n hx hb dX9_allowed_54 rfl (lv_at hl 4 rfl) ?_
          refine yget (ci := 9) (k := 4) (v := .ref (S.2.2.1 h0 4)) (C := RX9) (T := TX9) (N := 67) C0 hK hP hm_h0 hk_h0 (by decide) rfl inlX9 (by decide) mW108 (fun _ h9 => h9) rfl dX9_allowed_55 ?_
          obtain ⟨hmy_125, hky_125⟩ := ySh.f9_4 hSh _ hm_h0 hk_h0
          refine lv_iload hx hb dX9_allowed_58 (lv_at hl 2 rfl) ?_
          refine lv_iload hx hb dX9_allowed_60 (lv_at hl 0 rfl) ?_
          refine lv_iadd hx hb dX9_allowed_62 ?_
          refine lv_topi (fun z_126 ez_126 => ?_)
          have F_127 := feq (rfl : (r_10 : Int32).toInt = (r_10 : Int32).toInt) (rfl : (p3 : Int32).toInt = (p3 : Int32).toInt) c_11
          have F_128 := feq (rfl : (v_5 : Int32).toInt = (v_5 : Int32).toInt) (rfl : (p1 : Int32).toInt = (p1 : Int32).toInt) c_64
          have F_129 := fnlt (rfl : (p2 : Int32).toInt = (p2 : Int32).toInt) (by decide +kernel : (0 : Int32).toInt = 0) c_119
          have T_131 : (z_3 : Int32).toInt = 60 * (r_1 : Int32).toInt := tmul ez_3 (by decide +kernel : (60 : Int32).toInt = 60) (rfl : (r_1 : Int32).toInt = (r_1 : Int32).toInt) (by omega) (by omega)
          have T_130 : (z_126 : Int32).toInt = (z_3 : Int32).toInt + (p2 : Int32).toInt := tadd ez_126 (rfl : (z_3 : Int32).toInt = (z_3 : Int32).toInt) (rfl : (p2 : Int32).toInt = (p2 : Int32).toInt) (by omega) (by omega)
          refine yaldB C0 hK hP hmy_125 hky_125 (by decide) rfl 1 rfl (xinT 2400 rfl (by omega) (by omega)) dX9_allowed_63 ?_
          refine lv_topi (fun z_132 ez_132 => ?_)
          refine lv_iconst (v := 2) hx hb dX9_allowed_64 (by decide) ?_
          refine lv_icmp_ne (tgt := 136) hx hb dX9_allowed_65 (by decide) (fun c_133 => ?_) (fun c_133 => ?_)
          · refine lv_iinc (v := v_5 + 1) (lv' := [(8, .int (v_5 + 1)), (9, .int p2), (7, .int z_3), (5, .long v_4), (0, .ref h0), (1, .int p0), (2, .int p1), (3, .int p2), (4, .int p3)]) hx hb dX9_allowed_136 hl (k := 1) rfl rfl (by decide) rfl (fun ls hl => ?_)
            refine lv_goto (tgt := 17) hx hb dX9_allowed_139 (by decide) ?_
            have F_136 := fne (rfl : (z_132 : Int32).toInt = (z_132 : Int32).toInt) (by decide +kernel : (2 : Int32).toInt = 2) c_133
            have T_137 : ((v_5 + 1) : Int32).toInt = (v_5 : Int32).toInt + 1 := tadd rfl (rfl : (v_5 : Int32).toInt = (v_5 : Int32).toInt) (by decide +kernel : (1 : Int32).toInt = 1) (by omega) (by omega)
            exact hnext_6 (v_4, v_5 + 1) ls (xup c_8) ⟨(show (0 ≤ (((v_5 + 1)) : Int32).toInt) from by have hq0_ : (0 : Int32).toInt = 0 := (by decide +kernel); omega), (lv_sub hl [0, 2, 3, 4, 5, 6, 7, 8] rfl)⟩
          · refine lv_aload_n hx hb dX9_allowed_68 rfl (lv_at hl 4 rfl) ?_
            refine yget (ci := 9) (k := 5) (v := .ref (S.2.2.1 h0 5)) (C := RX9) (T := TX9) (N := 67) C0 hK hP hm_h0 hk_h0 (by decide) rfl inlX9 (by decide) mW109 (fun _ h9 => h9) rfl dX9_allowed_69 ?_
            obtain ⟨hmy_138, hky_138⟩ := ySh.f9_5 hSh _ hm_h0 hk_h0
            refine lv_iload hx hb dX9_allowed_72 (lv_at hl 2 rfl) ?_
            refine lv_iload hx hb dX9_allowed_74 (lv_at hl 0 rfl) ?_
            refine lv_iadd hx hb dX9_allowed_76 ?_
            refine lv_topi (fun z_139 ez_139 => ?_)
            have F_141 := feq (rfl : (z_132 : Int32).toInt = (z_132 : Int32).toInt) (by decide +kernel : (2 : Int32).toInt = 2) c_133
            have T_142 : (z_139 : Int32).toInt = (z_3 : Int32).toInt + (p2 : Int32).toInt := tadd ez_139 (rfl : (z_3 : Int32).toInt = (z_3 : Int32).toInt) (rfl : (p2 : Int32).toInt = (p2 : Int32).toInt) (by omega) (by omega)
            refine yaldB C0 hK hP hmy_138 hky_138 (by decide) rfl 1 rfl (xinT 2400 rfl (by omega) (by omega)) dX9_allowed_77 ?_
            refine lv_topi (fun z_143 ez_143 => ?_)
            refine lv_if_eq (tgt := 84) hx hb dX9_allowed_78 (by decide) (fun c_144 => ?_) (fun c_144 => ?_)
            · refine lv_aload_n hx hb dX9_allowed_84 rfl (lv_at hl 4 rfl) ?_
              refine yget (ci := 9) (k := 10) (v := .ref (S.2.2.1 h0 10)) (C := RX9) (T := TX9) (N := 67) C0 hK hP hm_h0 hk_h0 (by decide) rfl inlX9 (by decide) mW114 (fun _ h9 => h9) rfl dX9_allowed_85 ?_
              obtain ⟨hmy_145, hky_145⟩ := ySh.f9_10 hSh _ hm_h0 hk_h0
              refine lv_iload hx hb dX9_allowed_88 (lv_at hl 2 rfl) ?_
              refine lv_iload hx hb dX9_allowed_90 (lv_at hl 0 rfl) ?_
              refine lv_iadd hx hb dX9_allowed_92 ?_
              refine lv_topi (fun z_146 ez_146 => ?_)
              have F_148 := feq (rfl : (z_143 : Int32).toInt = (z_143 : Int32).toInt) (by decide +kernel : (0 : Int32).toInt = 0) c_144
              have T_149 : (z_146 : Int32).toInt = (z_3 : Int32).toInt + (p2 : Int32).toInt := tadd ez_146 (rfl : (z_3 : Int32).toInt = (z_3 : Int32).toInt) (rfl : (p2 : Int32).toInt = (p2 : Int32).toInt) (by omega) (by omega)
              refine yald C0 hK hP hmy_145 hky_145 (by decide) rfl 0 rfl (xinT 2400 rfl (by omega) (by omega)) dX9_allowed_93 ?_
              refine lv_topi (fun z_150 ez_150 => ?_)
              refine lv_i2l hx hb dX9_allowed_94 rfl ?_
              refine lv_topl (fun z_151 ez_151 => ?_)
              refine lv_lstore (lv' := [(10, .long z_151), (9, .int p2), (8, .int v_5), (7, .int z_3), (5, .long v_4), (0, .ref h0), (1, .int p0), (2, .int p1), (3, .int p2), (4, .int p3)]) hx hb dX9_allowed_95 hl (by decide) rfl (fun ls hl => ?_)
              refine lv_lload hx hb dX9_allowed_97 (lv_at hl 4 rfl) ?_
              refine lv_lload hx hb dX9_allowed_99 (lv_at hl 0 rfl) ?_
              refine lv_lconst (v := 0) hx hb dX9_allowed_101 (by decide) ?_
              refine W.lcmp hx hb dX9_allowed_102 ?_
              refine lv_topi (fun z_152 ez_152 => ?_)
              refine lv_if_lt (tgt := 111) hx hb dX9_allowed_103 (by decide) (fun c_153 => ?_) (fun c_153 => ?_)
              · refine lv_aload_n hx hb dX9_allowed_111 rfl (lv_at hl 5 rfl) ?_
                refine yget (ci := 9) (k := 11) (v := .ref (S.2.2.1 h0 11)) (C := RX9) (T := TX9) (N := 67) C0 hK hP hm_h0 hk_h0 (by decide) rfl inlX9 (by decide) mW116 (fun _ h9 => h9) rfl dX9_allowed_112 ?_
                obtain ⟨hmy_154, hky_154⟩ := ySh.f9_11 hSh _ hm_h0 hk_h0
                refine lv_bipush (v := 12) hx hb dX9_allowed_115 (by decide) ?_
                refine lv_iload_n hx hb dX9_allowed_117 rfl (lv_at hl 6 rfl) ?_
                refine lv_imul hx hb dX9_allowed_118 ?_
                refine lv_topi (fun z_155 ez_155 => ?_)
                refine lv_iconst (v := 3) hx hb dX9_allowed_119 (by decide) ?_
                refine lv_iadd hx hb dX9_allowed_120 ?_
                refine lv_topi (fun z_156 ez_156 => ?_)
                have T_158 : (z_155 : Int32).toInt = 12 * (p0 : Int32).toInt := tmul ez_155 (by decide +kernel : (12 : Int32).toInt = 12) (rfl : (p0 : Int32).toInt = (p0 : Int32).toInt) (by omega) (by omega)
                have T_157 : (z_156 : Int32).toInt = (z_155 : Int32).toInt + 3 := tadd ez_156 (rfl : (z_155 : Int32).toInt = (z_155 : Int32).toInt) (by decide +kernel : (3 : Int32).toInt = 3) (by omega) (by omega)
                refine yaldJ C0 hK hP hmy_154 hky_154 (by decide) rfl 4 rfl (xinT 96 rfl (by omega) (by omega)) dX9_allowed_121 ?_
                refine lv_topl (fun z_159 ez_159 => ?_)
                refine lv_ldc2 (v := 60) hx hb hown (htl (.constantLong RX9 235 (60)) mW655) dX9_allowed_122 ?_
                refine lv_lmul hx hb dX9_allowed_125 ?_
                refine lv_topl (fun z_160 ez_160 => ?_)
                refine lv_ldc2 (v := (-1000)) hx hb hown (htl (.constantLong RX9 237 (-1000)) mW656) dX9_allowed_126 ?_
                refine lv_lload hx hb dX9_allowed_129 (lv_at hl 0 rfl) ?_
                refine lv_lmul hx hb dX9_allowed_131 ?_
                refine lv_topl (fun z_161 ez_161 => ?_)
                refine lv_ldiv hx hb dX9_allowed_132 (xnz3 (z2 := 0) ez_151 ez_152 c_153 ez_161) ?_
                refine lv_topl (fun z_162 ez_162 => ?_)
                refine lv_ladd hx hb dX9_allowed_133 ?_
                refine lv_topl (fun z_163 ez_163 => ?_)
                refine lv_lstore (lv' := [(5, .long z_163), (10, .long z_151), (9, .int p2), (8, .int v_5), (7, .int z_3), (0, .ref h0), (1, .int p0), (2, .int p1), (3, .int p2), (4, .int p3)]) hx hb dX9_allowed_134 hl (by decide) rfl (fun ls hl => ?_)
                refine lv_iinc (v := v_5 + 1) (lv' := [(8, .int (v_5 + 1)), (5, .long z_163), (10, .long z_151), (9, .int p2), (7, .int z_3), (0, .ref h0), (1, .int p0), (2, .int p1), (3, .int p2), (4, .int p3)]) hx hb dX9_allowed_136 hl (k := 3) rfl rfl (by decide) rfl (fun ls hl => ?_)
                refine lv_goto (tgt := 17) hx hb dX9_allowed_139 (by decide) ?_
                have T_165 : ((v_5 + 1) : Int32).toInt = (v_5 : Int32).toInt + 1 := tadd rfl (rfl : (v_5 : Int32).toInt = (v_5 : Int32).toInt) (by decide +kernel : (1 : Int32).toInt = 1) (by omega) (by omega)
                exact hnext_6 (z_163, v_5 + 1) ls (xup c_8) ⟨(show (0 ≤ (((v_5 + 1)) : Int32).toInt) from by have hq0_ : (0 : Int32).toInt = 0 := (by decide +kernel); omega), (lv_sub hl [0, 4, 1, 5, 6, 7, 8, 9] rfl)⟩
              · refine lv_lload hx hb dX9_allowed_106 (lv_at hl 0 rfl) ?_
                refine lv_goto (tgt := 133) hx hb dX9_allowed_108 (by decide) ?_
                refine lv_ladd hx hb dX9_allowed_133 ?_
                refine lv_topl (fun z_166 ez_166 => ?_)
                refine lv_lstore (lv' := [(5, .long z_166), (10, .long z_151), (9, .int p2), (8, .int v_5), (7, .int z_3), (0, .ref h0), (1, .int p0), (2, .int p1), (3, .int p2), (4, .int p3)]) hx hb dX9_allowed_134 hl (by decide) rfl (fun ls hl => ?_)
                refine lv_iinc (v := v_5 + 1) (lv' := [(8, .int (v_5 + 1)), (5, .long z_166), (10, .long z_151), (9, .int p2), (7, .int z_3), (0, .ref h0), (1, .int p0), (2, .int p1), (3, .int p2), (4, .int p3)]) hx hb dX9_allowed_136 hl (k := 3) rfl rfl (by decide) rfl (fun ls hl => ?_)
                refine lv_goto (tgt := 17) hx hb dX9_allowed_139 (by decide) ?_
                have T_168 : ((v_5 + 1) : Int32).toInt = (v_5 : Int32).toInt + 1 := tadd rfl (rfl : (v_5 : Int32).toInt = (v_5 : Int32).toInt) (by decide +kernel : (1 : Int32).toInt = 1) (by omega) (by omega)
                exact hnext_6 (z_166, v_5 + 1) ls (xup c_8) ⟨(show (0 ≤ (((v_5 + 1)) : Int32).toInt) from by have hq0_ : (0 : Int32).toInt = 0 := (by decide +kernel); omega), (lv_sub hl [0, 4, 1, 5, 6, 7, 8, 9] rfl)⟩
            · refine lv_goto (tgt := 136) hx hb dX9_allowed_81 (by decide) ?_
              refine lv_iinc (v := v_5 + 1) (lv' := [(8, .int (v_5 + 1)), (9, .int p2), (7, .int z_3), (5, .long v_4), (0, .ref h0), (1, .int p0), (2, .int p1), (3, .int p2), (4, .int p3)]) hx hb dX9_allowed_136 hl (k := 1) rfl rfl (by decide) rfl (fun ls hl => ?_)
              refine lv_goto (tgt := 17) hx hb dX9_allowed_139 (by decide) ?_
              have F_171 := fne (rfl : (z_143 : Int32).toInt = (z_143 : Int32).toInt) (by decide +kernel : (0 : Int32).toInt = 0) c_144
              have T_172 : ((v_5 + 1) : Int32).toInt = (v_5 : Int32).toInt + 1 := tadd rfl (rfl : (v_5 : Int32).toInt = (v_5 : Int32).toInt) (by decide +kernel : (1 : Int32).toInt = 1) (by omega) (by omega)
              exact hnext_6 (v_4, v_5 + 1) ls (xup c_8) ⟨(show (0 ≤ (((v_5 + 1)) : Int32).toInt) from by have hq0_ : (0 : Int32).toInt = 0 := (by decide +kernel); omega), (lv_sub hl [0, 2, 3, 4, 5, 6, 7, 8] rfl)⟩
