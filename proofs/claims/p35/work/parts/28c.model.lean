theorem dX9_port_0 : decode cX9_port 0 = .ok (.aload_n 0, 1) := by decide +kernel
theorem dX9_port_1 : decode cX9_port 1 = .ok (.iconst 0, 1) := by decide +kernel
theorem dX9_port_2 : decode cX9_port 2 = .ok (.putfield 147, 3) := by decide +kernel
theorem dX9_port_5 : decode cX9_port 5 = .ok (.iload_n 1, 1) := by decide +kernel
theorem dX9_port_6 : decode cX9_port 6 = .ok (.ifCond .lt 20, 3) := by decide +kernel
theorem dX9_port_9 : decode cX9_port 9 = .ok (.iload_n 1, 1) := by decide +kernel
theorem dX9_port_10 : decode cX9_port 10 = .ok (.bipush 8, 2) := by decide +kernel
theorem dX9_port_12 : decode cX9_port 12 = .ok (.if_icmp .ge 14, 3) := by decide +kernel
theorem dX9_port_15 : decode cX9_port 15 = .ok (.iload_n 3, 1) := by decide +kernel
theorem dX9_port_16 : decode cX9_port 16 = .ok (.iconst 1, 1) := by decide +kernel
theorem dX9_port_17 : decode cX9_port 17 = .ok (.if_icmp .lt 9, 3) := by decide +kernel
theorem dX9_port_20 : decode cX9_port 20 = .ok (.iload_n 3, 1) := by decide +kernel
theorem dX9_port_21 : decode cX9_port 21 = .ok (.bipush 90, 2) := by decide +kernel
theorem dX9_port_23 : decode cX9_port 23 = .ok (.if_icmp .le 7, 3) := by decide +kernel
theorem dX9_port_26 : decode cX9_port 26 = .ok (.iconst 1, 1) := by decide +kernel
theorem dX9_port_27 : decode cX9_port 27 = .ok (.goto 8, 3) := by decide +kernel
theorem dX9_port_30 : decode cX9_port 30 = .ok (.aload_n 0, 1) := by decide +kernel
theorem dX9_port_31 : decode cX9_port 31 = .ok (.iload_n 2, 1) := by decide +kernel
theorem dX9_port_32 : decode cX9_port 32 = .ok (.invokevirtual 153, 3) := by decide +kernel
theorem dX9_port_35 : decode cX9_port 35 = .ok (.istore 4, 2) := by decide +kernel
theorem dX9_port_37 : decode cX9_port 37 = .ok (.iload 4, 2) := by decide +kernel
theorem dX9_port_39 : decode cX9_port 39 = .ok (.ifCond .eq 12, 3) := by decide +kernel
theorem dX9_port_42 : decode cX9_port 42 = .ok (.aload_n 0, 1) := by decide +kernel
theorem dX9_port_43 : decode cX9_port 43 = .ok (.iload 4, 2) := by decide +kernel
theorem dX9_port_45 : decode cX9_port 45 = .ok (.invokevirtual 168, 3) := by decide +kernel
theorem dX9_port_48 : decode cX9_port 48 = .ok (.pop, 1) := by decide +kernel
theorem dX9_port_49 : decode cX9_port 49 = .ok (.iconst 0, 1) := by decide +kernel
theorem dX9_port_50 : decode cX9_port 50 = .ok (.ireturn, 1) := by decide +kernel
theorem dX9_port_51 : decode cX9_port 51 = .ok (.aload_n 0, 1) := by decide +kernel
theorem dX9_port_52 : decode cX9_port 52 = .ok (.iload_n 1, 1) := by decide +kernel
theorem dX9_port_53 : decode cX9_port 53 = .ok (.iconst 0, 1) := by decide +kernel
theorem dX9_port_54 : decode cX9_port 54 = .ok (.ldc 174, 2) := by decide +kernel
theorem dX9_port_56 : decode cX9_port 56 = .ok (.invokevirtual 183, 3) := by decide +kernel
theorem dX9_port_59 : decode cX9_port 59 = .ok (.pop, 1) := by decide +kernel
theorem dX9_port_60 : decode cX9_port 60 = .ok (.iconst 0, 1) := by decide +kernel
theorem dX9_port_61 : decode cX9_port 61 = .ok (.istore 5, 2) := by decide +kernel
theorem dX9_port_63 : decode cX9_port 63 = .ok (.iload 5, 2) := by decide +kernel
theorem dX9_port_65 : decode cX9_port 65 = .ok (.bipush 12, 2) := by decide +kernel
theorem dX9_port_67 : decode cX9_port 67 = .ok (.if_icmp .ge 22, 3) := by decide +kernel
theorem dX9_port_70 : decode cX9_port 70 = .ok (.aload_n 0, 1) := by decide +kernel
theorem dX9_port_71 : decode cX9_port 71 = .ok (.getfield 36, 3) := by decide +kernel
theorem dX9_port_74 : decode cX9_port 74 = .ok (.bipush 12, 2) := by decide +kernel
theorem dX9_port_76 : decode cX9_port 76 = .ok (.iload_n 1, 1) := by decide +kernel
theorem dX9_port_77 : decode cX9_port 77 = .ok (.imul, 1) := by decide +kernel
theorem dX9_port_78 : decode cX9_port 78 = .ok (.iload 5, 2) := by decide +kernel
theorem dX9_port_80 : decode cX9_port 80 = .ok (.iadd, 1) := by decide +kernel
theorem dX9_port_81 : decode cX9_port 81 = .ok (.lconst 0, 1) := by decide +kernel
theorem dX9_port_82 : decode cX9_port 82 = .ok (.lastore, 1) := by decide +kernel
theorem dX9_port_83 : decode cX9_port 83 = .ok (.iinc 5 1, 3) := by decide +kernel
theorem dX9_port_86 : decode cX9_port 86 = .ok (.goto (-23), 3) := by decide +kernel
theorem dX9_port_89 : decode cX9_port 89 = .ok (.aload_n 0, 1) := by decide +kernel
theorem dX9_port_90 : decode cX9_port 90 = .ok (.getfield 36, 3) := by decide +kernel
theorem dX9_port_93 : decode cX9_port 93 = .ok (.bipush 12, 2) := by decide +kernel
theorem dX9_port_95 : decode cX9_port 95 = .ok (.iload_n 1, 1) := by decide +kernel
theorem dX9_port_96 : decode cX9_port 96 = .ok (.imul, 1) := by decide +kernel
theorem dX9_port_97 : decode cX9_port 97 = .ok (.lconst 1, 1) := by decide +kernel
theorem dX9_port_98 : decode cX9_port 98 = .ok (.lastore, 1) := by decide +kernel
theorem dX9_port_99 : decode cX9_port 99 = .ok (.aload_n 0, 1) := by decide +kernel
theorem dX9_port_100 : decode cX9_port 100 = .ok (.getfield 36, 3) := by decide +kernel
theorem dX9_port_103 : decode cX9_port 103 = .ok (.bipush 12, 2) := by decide +kernel
theorem dX9_port_105 : decode cX9_port 105 = .ok (.iload_n 1, 1) := by decide +kernel
theorem dX9_port_106 : decode cX9_port 106 = .ok (.imul, 1) := by decide +kernel
theorem dX9_port_107 : decode cX9_port 107 = .ok (.iconst 1, 1) := by decide +kernel
theorem dX9_port_108 : decode cX9_port 108 = .ok (.iadd, 1) := by decide +kernel
theorem dX9_port_109 : decode cX9_port 109 = .ok (.iload_n 2, 1) := by decide +kernel
theorem dX9_port_110 : decode cX9_port 110 = .ok (.i2l, 1) := by decide +kernel
theorem dX9_port_111 : decode cX9_port 111 = .ok (.lastore, 1) := by decide +kernel
theorem dX9_port_112 : decode cX9_port 112 = .ok (.aload_n 0, 1) := by decide +kernel
theorem dX9_port_113 : decode cX9_port 113 = .ok (.getfield 36, 3) := by decide +kernel
theorem dX9_port_116 : decode cX9_port 116 = .ok (.bipush 12, 2) := by decide +kernel
theorem dX9_port_118 : decode cX9_port 118 = .ok (.iload_n 1, 1) := by decide +kernel
theorem dX9_port_119 : decode cX9_port 119 = .ok (.imul, 1) := by decide +kernel
theorem dX9_port_120 : decode cX9_port 120 = .ok (.iconst 2, 1) := by decide +kernel
theorem dX9_port_121 : decode cX9_port 121 = .ok (.iadd, 1) := by decide +kernel
theorem dX9_port_122 : decode cX9_port 122 = .ok (.iload_n 3, 1) := by decide +kernel
theorem dX9_port_123 : decode cX9_port 123 = .ok (.i2l, 1) := by decide +kernel
theorem dX9_port_124 : decode cX9_port 124 = .ok (.lastore, 1) := by decide +kernel
theorem dX9_port_125 : decode cX9_port 125 = .ok (.aload_n 0, 1) := by decide +kernel
theorem dX9_port_126 : decode cX9_port 126 = .ok (.getfield 36, 3) := by decide +kernel
theorem dX9_port_129 : decode cX9_port 129 = .ok (.bipush 12, 2) := by decide +kernel
theorem dX9_port_131 : decode cX9_port 131 = .ok (.iload_n 1, 1) := by decide +kernel
theorem dX9_port_132 : decode cX9_port 132 = .ok (.imul, 1) := by decide +kernel
theorem dX9_port_133 : decode cX9_port 133 = .ok (.iconst 5, 1) := by decide +kernel
theorem dX9_port_134 : decode cX9_port 134 = .ok (.iadd, 1) := by decide +kernel
theorem dX9_port_135 : decode cX9_port 135 = .ok (.ldc2_w 187, 3) := by decide +kernel
theorem dX9_port_138 : decode cX9_port 138 = .ok (.lastore, 1) := by decide +kernel
theorem dX9_port_139 : decode cX9_port 139 = .ok (.aload_n 0, 1) := by decide +kernel
theorem dX9_port_140 : decode cX9_port 140 = .ok (.getfield 36, 3) := by decide +kernel
theorem dX9_port_143 : decode cX9_port 143 = .ok (.bipush 12, 2) := by decide +kernel
theorem dX9_port_145 : decode cX9_port 145 = .ok (.iload_n 1, 1) := by decide +kernel
theorem dX9_port_146 : decode cX9_port 146 = .ok (.imul, 1) := by decide +kernel
theorem dX9_port_147 : decode cX9_port 147 = .ok (.bipush 10, 2) := by decide +kernel
theorem dX9_port_149 : decode cX9_port 149 = .ok (.iadd, 1) := by decide +kernel
theorem dX9_port_150 : decode cX9_port 150 = .ok (.lconst 1, 1) := by decide +kernel
theorem dX9_port_151 : decode cX9_port 151 = .ok (.iload_n 1, 1) := by decide +kernel
theorem dX9_port_152 : decode cX9_port 152 = .ok (.lshl, 1) := by decide +kernel
theorem dX9_port_153 : decode cX9_port 153 = .ok (.lastore, 1) := by decide +kernel
theorem dX9_port_154 : decode cX9_port 154 = .ok (.aload_n 0, 1) := by decide +kernel
theorem dX9_port_155 : decode cX9_port 155 = .ok (.iload_n 1, 1) := by decide +kernel
theorem dX9_port_156 : decode cX9_port 156 = .ok (.invokevirtual 189, 3) := by decide +kernel
theorem dX9_port_159 : decode cX9_port 159 = .ok (.iconst 0, 1) := by decide +kernel
theorem dX9_port_160 : decode cX9_port 160 = .ok (.istore 5, 2) := by decide +kernel
theorem dX9_port_162 : decode cX9_port 162 = .ok (.iload 5, 2) := by decide +kernel
theorem dX9_port_164 : decode cX9_port 164 = .ok (.bipush 90, 2) := by decide +kernel
theorem dX9_port_166 : decode cX9_port 166 = .ok (.if_icmp .ge 50, 3) := by decide +kernel
theorem dX9_port_169 : decode cX9_port 169 = .ok (.aload_n 0, 1) := by decide +kernel
theorem dX9_port_170 : decode cX9_port 170 = .ok (.getfield 40, 3) := by decide +kernel
theorem dX9_port_173 : decode cX9_port 173 = .ok (.bipush 90, 2) := by decide +kernel
theorem dX9_port_175 : decode cX9_port 175 = .ok (.iload_n 1, 1) := by decide +kernel
theorem dX9_port_176 : decode cX9_port 176 = .ok (.imul, 1) := by decide +kernel
theorem dX9_port_177 : decode cX9_port 177 = .ok (.iload 5, 2) := by decide +kernel
theorem dX9_port_179 : decode cX9_port 179 = .ok (.iadd, 1) := by decide +kernel
theorem dX9_port_180 : decode cX9_port 180 = .ok (.sipush 1440, 3) := by decide +kernel
theorem dX9_port_183 : decode cX9_port 183 = .ok (.sastore, 1) := by decide +kernel
theorem dX9_port_184 : decode cX9_port 184 = .ok (.aload_n 0, 1) := by decide +kernel
theorem dX9_port_185 : decode cX9_port 185 = .ok (.getfield 44, 3) := by decide +kernel
theorem dX9_port_188 : decode cX9_port 188 = .ok (.bipush 90, 2) := by decide +kernel
theorem dX9_port_190 : decode cX9_port 190 = .ok (.iload_n 1, 1) := by decide +kernel
theorem dX9_port_191 : decode cX9_port 191 = .ok (.imul, 1) := by decide +kernel
theorem dX9_port_192 : decode cX9_port 192 = .ok (.iload 5, 2) := by decide +kernel
theorem dX9_port_194 : decode cX9_port 194 = .ok (.iadd, 1) := by decide +kernel
theorem dX9_port_195 : decode cX9_port 195 = .ok (.iconst 0, 1) := by decide +kernel
theorem dX9_port_196 : decode cX9_port 196 = .ok (.bastore, 1) := by decide +kernel
theorem dX9_port_197 : decode cX9_port 197 = .ok (.aload_n 0, 1) := by decide +kernel
theorem dX9_port_198 : decode cX9_port 198 = .ok (.getfield 48, 3) := by decide +kernel
theorem dX9_port_201 : decode cX9_port 201 = .ok (.bipush 90, 2) := by decide +kernel
theorem dX9_port_203 : decode cX9_port 203 = .ok (.iload_n 1, 1) := by decide +kernel
theorem dX9_port_204 : decode cX9_port 204 = .ok (.imul, 1) := by decide +kernel
theorem dX9_port_205 : decode cX9_port 205 = .ok (.iload 5, 2) := by decide +kernel
theorem dX9_port_207 : decode cX9_port 207 = .ok (.iadd, 1) := by decide +kernel
theorem dX9_port_208 : decode cX9_port 208 = .ok (.iconst 0, 1) := by decide +kernel
theorem dX9_port_209 : decode cX9_port 209 = .ok (.bastore, 1) := by decide +kernel
theorem dX9_port_210 : decode cX9_port 210 = .ok (.iinc 5 1, 3) := by decide +kernel
theorem dX9_port_213 : decode cX9_port 213 = .ok (.goto (-51), 3) := by decide +kernel
theorem dX9_port_216 : decode cX9_port 216 = .ok (.iconst 1, 1) := by decide +kernel
theorem dX9_port_217 : decode cX9_port 217 = .ok (.ireturn, 1) := by decide +kernel
set_option maxHeartbeats 4000000 in
set_option maxRecDepth 100000 in
theorem g_X9_port (l : Launch) (G : xG) (S : yS) (d : yD) (h0 : Nat) (p0 : Int32) (p1 : Int32) (p2 : Int32) (hSh : ySh S) (hPo : yPo S d) (hm_h0 : h0 ∈ S.1) (hk_h0 : S.2.1 h0 = 9) (hI : yMI S d h0) : xWi l G yX9_port cX9_port 6 (some .boolean) 1 26 0 0 [.ref h0, .int p0, .int p1, .int p2] (yW G S d) (fun r (u : yD) => yAg S [9, 41, 42, 43, 44, 45, 46, 47, 69] d u ∧ (yPo S d → yPo S u) ∧ yK [1, 38] d u h0 ∧ (yMI S u h0)) (fun u => yW G S u) := by
  intro sz
  refine xstart (by decide) (Nat.le_of_ble_eq_true rfl) (fun p e s m args below meth c ls C0 hr hlocks hin hsz hP hK hD hN hl => ?_)
  obtain ⟨hx, hb, hml, hown, htl⟩ := id C0
  subst hsz
  have hD := hD.self (sz := s.heap.size)
  generalize hAe : va_A (yW G S d) s.heap.size = A at hD ⊢
  have hA : ∀ q : Nat, s.heap.size ≤ q → A q := fun q h => by rw [← hAe]; exact Or.inr h
  have hS : va_S A s.heap s.heap [] := va_S.rf
  have hg0 : yAg S [9, 41, 42, 43, 44, 45, 46, 47, 69] d d := yAg.rf
  have hl : lv_has ls 6 [(0, .ref h0), (1, .int p0), (2, .int p1), (3, .int p2)] := hl
  refine lv_aload_n hx hb dX9_port_0 rfl (lv_at hl 0 rfl) ?_
  refine lv_iconst (v := 0) hx hb dX9_port_1 (by decide) ?_
  refine yputI (ci := 9) (k := 38) (ty := .int) (C := RX9) (T := TX9) (N := 67) C0 hK hP hD hS hm_h0 hk_h0 (by decide) rfl inlX9 tyX9 tyX9_ok nmX9 (by decide) mW175 (fun _ h9 => h9) rfl (by decide +kernel) rfl rfl (Nat.le_of_ble_eq_true rfl) ysi_9_38 dX9_port_2 (fun H locs hP hD hS => ?_)
  obtain ⟨d_1, ed_1⟩ : ∃ z : yD, z = yi d h0 38 0 := ⟨_, rfl⟩
  rw [← ed_1] at hP hD
  have hgd_1 : yAg S [9, 41, 42, 43, 44, 45, 46, 47, 69] d d_1 := by rw [ed_1]; exact yAg.i hg0 (by rw [hk_h0]; decide)
  have hPod_1 : yPo S d_1 := by rw [ed_1]; exact yPo.i hPo hk_h0 (Or.inl rfl)
  have hfd_1 : yK [1, 38] d d_1 h0 := by rw [ed_1]; exact yK.i yK.rf (by decide)
  have hId_1 : yMI S d_1 h0 := yMI.ag hI hSh hm_h0 hk_h0 (show yAg S [9] d d_1 from by rw [ed_1]; exact yAg.i yAg.rf (by rw [hk_h0]; decide)) (show yK [38] d d_1 h0 from by rw [ed_1]; exact yK.i yK.rf (by decide)) (by decide) (by decide)
  have hE0d_1 : (d_1.1 h0 0).toInt = (d.1 h0 0).toInt := congrArg Int32.toInt ((show yK [38] d d_1 h0 from by rw [ed_1]; exact yK.i yK.rf (by decide)) 0 (by decide))
  have hE1d_1 : (d_1.1 h0 1).toInt = (d.1 h0 1).toInt := congrArg Int32.toInt ((show yK [38] d d_1 h0 from by rw [ed_1]; exact yK.i yK.rf (by decide)) 1 (by decide))
  have hE2d_1 : (d_1.1 h0 2).toInt = (d.1 h0 2).toInt := congrArg Int32.toInt ((show yK [38] d d_1 h0 from by rw [ed_1]; exact yK.i yK.rf (by decide)) 2 (by decide))
  have hE3d_1 : (d_1.1 h0 3).toInt = (d.1 h0 3).toInt := congrArg Int32.toInt ((show yK [38] d d_1 h0 from by rw [ed_1]; exact yK.i yK.rf (by decide)) 3 (by decide))
  have hE63d_1 : (d_1.1 h0 63).toInt = (d.1 h0 63).toInt := congrArg Int32.toInt ((show yK [38] d d_1 h0 from by rw [ed_1]; exact yK.i yK.rf (by decide)) 63 (by decide))
  refine lv_iload_n hx hb dX9_port_5 rfl (lv_at hl 1 rfl) ?_
  refine lv_if_lt (tgt := 26) hx hb dX9_port_6 (by decide) (fun c_2 => ?_) (fun c_2 => ?_)
  · refine lv_iconst (v := 1) hx hb dX9_port_26 (by decide) ?_
    refine lv_goto (tgt := 35) hx hb dX9_port_27 (by decide) ?_
    refine lv_istore (lv' := [(4, .int 1), (0, .ref h0), (1, .int p0), (2, .int p1), (3, .int p2)]) hx hb dX9_port_35 hl (by decide) rfl (fun ls hl => ?_)
    refine lv_iload hx hb dX9_port_37 (lv_at hl 0 rfl) ?_
    refine lv_if_eq (tgt := 51) hx hb dX9_port_39 (by decide) (fun c_3 => absurd c_3 (by decide +kernel)) (fun c_3 => ?_)
    refine lv_aload_n hx hb dX9_port_42 rfl (lv_at hl 1 rfl) ?_
    refine lv_iload hx hb dX9_port_43 (lv_at hl 0 rfl) ?_
    refine yVwi (As := [.int 1]) (rest := []) C0 (g_X9_no l G S d_1 h0 1 hSh hPod_1 hm_h0 hk_h0 (by decide +kernel)) ok_X9_no (mW177 : Cond.methodLink RX9 168 yX9_no ∈ wsT) ⟨Nat.le_of_ble_eq_true rfl, Nat.le_of_ble_eq_true rfl⟩ hP hD hS hA hK hN hm_h0 hk_h0 (by decide) rfl rfl rfl hl.1 rfl (Nat.le_of_ble_eq_true rfl) ⟨Nat.le_of_ble_eq_true rfl, Nat.le_of_ble_eq_true rfl⟩ dX9_port_45 (fun r_4 d_5 H locs hr_4 hP hD hS => ?_)
    obtain ⟨hgad_5, hpad_5, hfad_5, hxd_5⟩ := hr_4
    have hfd_5 : yK [1, 38] d d_5 h0 := yK.tr hfd_1 hfad_5 (by decide)
    have hE0d_5 : (d_5.1 h0 0).toInt = (d_1.1 h0 0).toInt := congrArg Int32.toInt (hfad_5 0 (by decide))
    have hE1d_5 : (d_5.1 h0 1).toInt = (d_1.1 h0 1).toInt := congrArg Int32.toInt (hfad_5 1 (by decide))
    have hE2d_5 : (d_5.1 h0 2).toInt = (d_1.1 h0 2).toInt := congrArg Int32.toInt (hfad_5 2 (by decide))
    have hE3d_5 : (d_5.1 h0 3).toInt = (d_1.1 h0 3).toInt := congrArg Int32.toInt (hfad_5 3 (by decide))
    have hE63d_5 : (d_5.1 h0 63).toInt = (d_1.1 h0 63).toInt := congrArg Int32.toInt (hfad_5 63 (by decide))
    have hId_5 : yMI S d_5 h0 := yMI.ag hId_1 hSh hm_h0 hk_h0 hgad_5 hfad_5 (by decide) (by decide)
    have hgd_5 : yAg S [9, 41, 42, 43, 44, 45, 46, 47, 69] d d_5 := yAg.tr hgd_1 hgad_5 (by first | decide | exact fun _ h => h)
    have hPod_5 : yPo S d_5 := hpad_5 hPod_1
    refine lv_pop hx hb dX9_port_48 rfl ?_
    refine lv_iconst (v := 0) hx hb dX9_port_49 (by decide) ?_
    exact W.zret (v := 0) (ty := .boolean) hx hb hr rfl (fun t ht hW => ⟨⟨0, d_5, rfl, ⟨hgd_5, (fun _ => hPod_5), hfd_5, hId_5⟩, by rw [ht]; exact hP, hD⟩, hS.F ht⟩) hS.2.2 dX9_port_50
  · refine lv_iload_n hx hb dX9_port_9 rfl (lv_at hl 1 rfl) ?_
    refine lv_bipush (v := 8) hx hb dX9_port_10 (by decide) ?_
    refine lv_icmp_ge (tgt := 26) hx hb dX9_port_12 (by decide) (fun c_6 => ?_) (fun c_6 => ?_)
    · refine lv_iconst (v := 1) hx hb dX9_port_26 (by decide) ?_
      refine lv_goto (tgt := 35) hx hb dX9_port_27 (by decide) ?_
      refine lv_istore (lv' := [(4, .int 1), (0, .ref h0), (1, .int p0), (2, .int p1), (3, .int p2)]) hx hb dX9_port_35 hl (by decide) rfl (fun ls hl => ?_)
      refine lv_iload hx hb dX9_port_37 (lv_at hl 0 rfl) ?_
      refine lv_if_eq (tgt := 51) hx hb dX9_port_39 (by decide) (fun c_7 => absurd c_7 (by decide +kernel)) (fun c_7 => ?_)
      refine lv_aload_n hx hb dX9_port_42 rfl (lv_at hl 1 rfl) ?_
      refine lv_iload hx hb dX9_port_43 (lv_at hl 0 rfl) ?_
      refine yVwi (As := [.int 1]) (rest := []) C0 (g_X9_no l G S d_1 h0 1 hSh hPod_1 hm_h0 hk_h0 (by decide +kernel)) ok_X9_no (mW177 : Cond.methodLink RX9 168 yX9_no ∈ wsT) ⟨Nat.le_of_ble_eq_true rfl, Nat.le_of_ble_eq_true rfl⟩ hP hD hS hA hK hN hm_h0 hk_h0 (by decide) rfl rfl rfl hl.1 rfl (Nat.le_of_ble_eq_true rfl) ⟨Nat.le_of_ble_eq_true rfl, Nat.le_of_ble_eq_true rfl⟩ dX9_port_45 (fun r_8 d_9 H locs hr_8 hP hD hS => ?_)
      obtain ⟨hgad_9, hpad_9, hfad_9, hxd_9⟩ := hr_8
      have hfd_9 : yK [1, 38] d d_9 h0 := yK.tr hfd_1 hfad_9 (by decide)
      have hE0d_9 : (d_9.1 h0 0).toInt = (d_1.1 h0 0).toInt := congrArg Int32.toInt (hfad_9 0 (by decide))
      have hE1d_9 : (d_9.1 h0 1).toInt = (d_1.1 h0 1).toInt := congrArg Int32.toInt (hfad_9 1 (by decide))
      have hE2d_9 : (d_9.1 h0 2).toInt = (d_1.1 h0 2).toInt := congrArg Int32.toInt (hfad_9 2 (by decide))
      have hE3d_9 : (d_9.1 h0 3).toInt = (d_1.1 h0 3).toInt := congrArg Int32.toInt (hfad_9 3 (by decide))
      have hE63d_9 : (d_9.1 h0 63).toInt = (d_1.1 h0 63).toInt := congrArg Int32.toInt (hfad_9 63 (by decide))
      have hId_9 : yMI S d_9 h0 := yMI.ag hId_1 hSh hm_h0 hk_h0 hgad_9 hfad_9 (by decide) (by decide)
      have hgd_9 : yAg S [9, 41, 42, 43, 44, 45, 46, 47, 69] d d_9 := yAg.tr hgd_1 hgad_9 (by first | decide | exact fun _ h => h)
      have hPod_9 : yPo S d_9 := hpad_9 hPod_1
      refine lv_pop hx hb dX9_port_48 rfl ?_
      refine lv_iconst (v := 0) hx hb dX9_port_49 (by decide) ?_
      exact W.zret (v := 0) (ty := .boolean) hx hb hr rfl (fun t ht hW => ⟨⟨0, d_9, rfl, ⟨hgd_9, (fun _ => hPod_9), hfd_9, hId_9⟩, by rw [ht]; exact hP, hD⟩, hS.F ht⟩) hS.2.2 dX9_port_50
    · refine lv_iload_n hx hb dX9_port_15 rfl (lv_at hl 3 rfl) ?_
      refine lv_iconst (v := 1) hx hb dX9_port_16 (by decide) ?_
      refine lv_icmp_lt (tgt := 26) hx hb dX9_port_17 (by decide) (fun c_10 => ?_) (fun c_10 => ?_)
      · refine lv_iconst (v := 1) hx hb dX9_port_26 (by decide) ?_
        refine lv_goto (tgt := 35) hx hb dX9_port_27 (by decide) ?_
        refine lv_istore (lv' := [(4, .int 1), (0, .ref h0), (1, .int p0), (2, .int p1), (3, .int p2)]) hx hb dX9_port_35 hl (by decide) rfl (fun ls hl => ?_)
        refine lv_iload hx hb dX9_port_37 (lv_at hl 0 rfl) ?_
        refine lv_if_eq (tgt := 51) hx hb dX9_port_39 (by decide) (fun c_11 => absurd c_11 (by decide +kernel)) (fun c_11 => ?_)
        refine lv_aload_n hx hb dX9_port_42 rfl (lv_at hl 1 rfl) ?_
        refine lv_iload hx hb dX9_port_43 (lv_at hl 0 rfl) ?_
        refine yVwi (As := [.int 1]) (rest := []) C0 (g_X9_no l G S d_1 h0 1 hSh hPod_1 hm_h0 hk_h0 (by decide +kernel)) ok_X9_no (mW177 : Cond.methodLink RX9 168 yX9_no ∈ wsT) ⟨Nat.le_of_ble_eq_true rfl, Nat.le_of_ble_eq_true rfl⟩ hP hD hS hA hK hN hm_h0 hk_h0 (by decide) rfl rfl rfl hl.1 rfl (Nat.le_of_ble_eq_true rfl) ⟨Nat.le_of_ble_eq_true rfl, Nat.le_of_ble_eq_true rfl⟩ dX9_port_45 (fun r_12 d_13 H locs hr_12 hP hD hS => ?_)
        obtain ⟨hgad_13, hpad_13, hfad_13, hxd_13⟩ := hr_12
        have hfd_13 : yK [1, 38] d d_13 h0 := yK.tr hfd_1 hfad_13 (by decide)
        have hE0d_13 : (d_13.1 h0 0).toInt = (d_1.1 h0 0).toInt := congrArg Int32.toInt (hfad_13 0 (by decide))
        have hE1d_13 : (d_13.1 h0 1).toInt = (d_1.1 h0 1).toInt := congrArg Int32.toInt (hfad_13 1 (by decide))
        have hE2d_13 : (d_13.1 h0 2).toInt = (d_1.1 h0 2).toInt := congrArg Int32.toInt (hfad_13 2 (by decide))
        have hE3d_13 : (d_13.1 h0 3).toInt = (d_1.1 h0 3).toInt := congrArg Int32.toInt (hfad_13 3 (by decide))
        have hE63d_13 : (d_13.1 h0 63).toInt = (d_1.1 h0 63).toInt := congrArg Int32.toInt (hfad_13 63 (by decide))
        have hId_13 : yMI S d_13 h0 := yMI.ag hId_1 hSh hm_h0 hk_h0 hgad_13 hfad_13 (by decide) (by decide)
        have hgd_13 : yAg S [9, 41, 42, 43, 44, 45, 46, 47, 69] d d_13 := yAg.tr hgd_1 hgad_13 (by first | decide | exact fun _ h => h)
        have hPod_13 : yPo S d_13 := hpad_13 hPod_1
        refine lv_pop hx hb dX9_port_48 rfl ?_
        refine lv_iconst (v := 0) hx hb dX9_port_49 (by decide) ?_
        exact W.zret (v := 0) (ty := .boolean) hx hb hr rfl (fun t ht hW => ⟨⟨0, d_13, rfl, ⟨hgd_13, (fun _ => hPod_13), hfd_13, hId_13⟩, by rw [ht]; exact hP, hD⟩, hS.F ht⟩) hS.2.2 dX9_port_50
      · refine lv_iload_n hx hb dX9_port_20 rfl (lv_at hl 3 rfl) ?_
        refine lv_bipush (v := 90) hx hb dX9_port_21 (by decide) ?_
        refine lv_icmp_le (tgt := 30) hx hb dX9_port_23 (by decide) (fun c_14 => ?_) (fun c_14 => ?_)
        · refine lv_aload_n hx hb dX9_port_30 rfl (lv_at hl 0 rfl) ?_
          refine lv_iload_n hx hb dX9_port_31 rfl (lv_at hl 2 rfl) ?_
          refine yVri (As := [.int p1]) (rest := []) C0 (g_X9_contractWhy l G S d_1 h0 p1 hSh hm_h0 hk_h0) ok_X9_contractWhy (mW226 : Cond.methodLink RX9 153 yX9_contractWhy ∈ wsT) ⟨Nat.le_of_ble_eq_true rfl, Nat.le_of_ble_eq_true rfl⟩ hP hD hK hN hm_h0 hk_h0 (by decide) rfl rfl rfl hl.1 rfl (Nat.le_of_ble_eq_true rfl) ⟨Nat.le_of_ble_eq_true rfl, Nat.le_of_ble_eq_true rfl⟩ dX9_port_32 (fun r_15 hr_15 => ?_)
          refine lv_istore (lv' := [(4, .int r_15), (0, .ref h0), (1, .int p0), (2, .int p1), (3, .int p2)]) hx hb dX9_port_35 hl (by decide) rfl (fun ls hl => ?_)
          refine lv_iload hx hb dX9_port_37 (lv_at hl 0 rfl) ?_
          refine lv_if_eq (tgt := 51) hx hb dX9_port_39 (by decide) (fun c_16 => ?_) (fun c_16 => ?_)
          · refine lv_aload_n hx hb dX9_port_51 rfl (lv_at hl 1 rfl) ?_
            refine lv_iload_n hx hb dX9_port_52 rfl (lv_at hl 2 rfl) ?_
            refine lv_iconst (v := 0) hx hb dX9_port_53 (by decide) ?_
            refine lv_ldc (v := 129600) hx hb hown (htl (.constant RX9 174 (129600)) mW221) dX9_port_54 ?_
            refine yVwi (As := [.int p0, .int 0, .int 129600]) (rest := []) C0 (g_X9_clear l G S d_1 h0 p0 0 129600 hSh hPod_1 hm_h0 hk_h0 hId_1) ok_X9_clear (mW360 : Cond.methodLink RX9 183 yX9_clear ∈ wsT) ⟨Nat.le_of_ble_eq_true rfl, Nat.le_of_ble_eq_true rfl⟩ hP hD hS hA hK hN hm_h0 hk_h0 (by decide) rfl rfl rfl hl.1 rfl (Nat.le_of_ble_eq_true rfl) ⟨Nat.le_of_ble_eq_true rfl, Nat.le_of_ble_eq_true rfl⟩ dX9_port_56 (fun r_17 d_18 H locs hr_17 hP hD hS => ?_)
            obtain ⟨hgad_18, hpad_18, hfad_18, hxd_18⟩ := hr_17
            have hfd_18 : yK [1, 38] d d_18 h0 := yK.tr hfd_1 hfad_18 (by decide)
            have hE0d_18 : (d_18.1 h0 0).toInt = (d_1.1 h0 0).toInt := congrArg Int32.toInt (hfad_18 0 (by decide))
            have hE2d_18 : (d_18.1 h0 2).toInt = (d_1.1 h0 2).toInt := congrArg Int32.toInt (hfad_18 2 (by decide))
            have hE3d_18 : (d_18.1 h0 3).toInt = (d_1.1 h0 3).toInt := congrArg Int32.toInt (hfad_18 3 (by decide))
            have hE63d_18 : (d_18.1 h0 63).toInt = (d_1.1 h0 63).toInt := congrArg Int32.toInt (hfad_18 63 (by decide))
            have hId_18 : yMI S d_18 h0 := hxd_18.1
            have hgd_18 : yAg S [9, 41, 42, 43, 44, 45, 46, 47, 69] d d_18 := yAg.tr hgd_1 hgad_18 (by first | decide | exact fun _ h => h)
            have hPod_18 : yPo S d_18 := hpad_18 hPod_1
            refine lv_pop hx hb dX9_port_59 rfl ?_
            refine lv_iconst (v := 0) hx hb dX9_port_60 (by decide) ?_
            refine lv_istore (lv' := [(5, .int 0), (4, .int r_15), (0, .ref h0), (1, .int p0), (2, .int p1), (3, .int p2)]) hx hb dX9_port_61 hl (by decide) rfl (fun ls hl => ?_)
            have hCC_19 := yMI.c hId_18
            have F_20 := fnlt (rfl : (p0 : Int32).toInt = (p0 : Int32).toInt) (by decide +kernel : (0 : Int32).toInt = 0) c_2
            have F_21 := fnle (by decide +kernel : (8 : Int32).toInt = 8) (rfl : (p0 : Int32).toInt = (p0 : Int32).toInt) c_6
            have F_22 := fnlt (rfl : (p2 : Int32).toInt = (p2 : Int32).toInt) (by decide +kernel : (1 : Int32).toInt = 1) c_10
            have F_23 := fle (rfl : (p2 : Int32).toInt = (p2 : Int32).toInt) (by decide +kernel : (90 : Int32).toInt = 90) c_14
            have F_24 := feq (rfl : (r_15 : Int32).toInt = (r_15 : Int32).toInt) (by decide +kernel : (0 : Int32).toInt = 0) c_16
            refine yloop (σ := Int32 × yD) (fun x => (2147483647 - (x.1 : Int32).toInt).toNat) 63 (fun x H locs ls => va_P G.1 xcl (yW G S x.2) H ∧ va_D A (yW G S x.2) ∧ va_S A s.heap H locs ∧ yAg S [9, 41, 42, 43, 44, 45, 46, 47, 69] d x.2 ∧ yPo S x.2 ∧ yK [1, 38] d x.2 h0 ∧ yMI S x.2 h0 ∧ yAg S [41] d_18 x.2 ∧ yK [] d_18 x.2 h0 ∧ (0 ≤ ((x.1) : Int32).toInt) ∧ lv_has ls 6 [(5, .int x.1), (0, .ref h0), (1, .int p0), (2, .int p1), (3, .int p2)]) (fun x H locs ls hI hnext_27 => ?_) (0, d_18) ⟨hP, hD, hS, hgd_18, hPod_18, hfd_18, hId_18, yAg.rf, yK.rf, (show (0 ≤ ((0) : Int32).toInt) from by have hl0_ : (0 : Int32).toInt = 0 := (by decide +kernel); have hq0_ : (0 : Int32).toInt = 0 := (by decide +kernel); omega), lv_sub hl [0, 2, 3, 4, 5] rfl⟩
            obtain ⟨v_25, d_26⟩ := x
            obtain ⟨hP, hD, hS, hgd_26, hPod_26, hfd_26, hId_26, hLJd_26, hKJd_26, hex_28, hl⟩ := hI
            have hId_26 : yMI S d_26 h0 := hId_26
            have hex_28 : (0 ≤ ((v_25) : Int32).toInt) := hex_28
            have hl : lv_has ls 6 [(5, .int v_25), (0, .ref h0), (1, .int p0), (2, .int p1), (3, .int p2)] := hl
            have hLJd_26 : yAg S [41] d_18 d_26 := hLJd_26
            have hKJd_26 : yK [] d_18 d_26 h0 := hKJd_26
            have hE0d_26 : (d_26.1 h0 0).toInt = (d_18.1 h0 0).toInt := congrArg Int32.toInt (hKJd_26 0 (by decide))
            have hE1d_26 : (d_26.1 h0 1).toInt = (d_18.1 h0 1).toInt := congrArg Int32.toInt (hKJd_26 1 (by decide))
            have hE2d_26 : (d_26.1 h0 2).toInt = (d_18.1 h0 2).toInt := congrArg Int32.toInt (hKJd_26 2 (by decide))
            have hE3d_26 : (d_26.1 h0 3).toInt = (d_18.1 h0 3).toInt := congrArg Int32.toInt (hKJd_26 3 (by decide))
            have hE63d_26 : (d_26.1 h0 63).toInt = (d_18.1 h0 63).toInt := congrArg Int32.toInt (hKJd_26 63 (by decide))
            refine lv_iload hx hb dX9_port_63 (lv_at hl 0 rfl) ?_
            refine lv_bipush (v := 12) hx hb dX9_port_65 (by decide) ?_
            refine lv_icmp_ge (tgt := 89) hx hb dX9_port_67 (by decide) (fun c_29 => ?_) (fun c_29 => ?_)
            · refine lv_aload_n hx hb dX9_port_89 rfl (lv_at hl 1 rfl) ?_
              refine yget (ci := 9) (k := 11) (v := .ref (S.2.2.1 h0 11)) (C := RX9) (T := TX9) (N := 67) C0 hK hP hm_h0 hk_h0 (by decide) rfl inlX9 (by decide) mW116 (fun _ h9 => h9) rfl dX9_port_90 ?_
              obtain ⟨hmy_30, hky_30⟩ := ySh.f9_11 hSh _ hm_h0 hk_h0
              refine lv_bipush (v := 12) hx hb dX9_port_93 (by decide) ?_
              refine lv_iload_n hx hb dX9_port_95 rfl (lv_at hl 2 rfl) ?_
              refine lv_imul hx hb dX9_port_96 ?_
              refine lv_topi (fun z_31 ez_31 => ?_)
              refine lv_lconst (v := 1) hx hb dX9_port_97 (by decide) ?_
              have hCC_32 := yMI.c hId_26
              have F_33 := fle (by decide +kernel : (12 : Int32).toInt = 12) (rfl : (v_25 : Int32).toInt = (v_25 : Int32).toInt) c_29
              have T_34 : (z_31 : Int32).toInt = 12 * (p0 : Int32).toInt := tmul ez_31 (by decide +kernel : (12 : Int32).toInt = 12) (rfl : (p0 : Int32).toInt = (p0 : Int32).toInt) (by omega) (by omega)
              refine yastJ C0 hK hP hD hS hmy_30 hky_30 (by decide) rfl 4 rfl (xinT 96 rfl (by omega) (by omega)) dX9_port_98 (fun H locs hP hD hS => ?_)
              obtain ⟨d_35, ed_35⟩ : ∃ z : yD, z = ye d_26 (S.2.2.1 h0 11) (z_31 : Int32).toNatClampNeg 1 := ⟨_, rfl⟩
              rw [← ed_35] at hP hD
              have hgd_35 : yAg S [9, 41, 42, 43, 44, 45, 46, 47, 69] d d_35 := by rw [ed_35]; exact yAg.e hgd_26 (by rw [hky_30]; decide)
              have hPod_35 : yPo S d_35 := by rw [ed_35]; exact hPod_26
              have hfd_35 : yK [1, 38] d d_35 h0 := yK.ag hfd_26 (show yAg S [41] d_26 d_35 from by rw [ed_35]; exact yAg.e yAg.rf (by rw [hky_30]; decide)) (by rw [hk_h0]; decide)
              have T_36 : (1 : Int64).toInt = 1 := by decide +kernel
              have hId_35 : yMI S d_35 h0 := by rw [ed_35]; exact yMI.w11 hId_26 hSh hm_h0 hk_h0 (yBp.up (yMI.bp_ hId_26) (fun p hp e => by have e_ : (z_31 : Int32).toInt.toNat = 12 * p + 1 := e; refine ⟨?_, ?_⟩ <;> omega) (fun p hp e => by have e_ : (z_31 : Int32).toInt.toNat = 12 * p + 2 := e; refine ⟨?_, ?_⟩ <;> omega) (fun p hp e => by have e_ : (z_31 : Int32).toInt.toNat = 12 * p + 6 := e; refine ⟨?_, ?_⟩ <;> omega))
              have hE0d_35 : (d_35.1 h0 0).toInt = (d_26.1 h0 0).toInt := congrArg Int32.toInt ((yK.ag (F := []) yK.rf (show yAg S [41] d_26 d_35 from by rw [ed_35]; exact yAg.e yAg.rf (by rw [hky_30]; decide)) (by rw [hk_h0]; decide)) 0 (by decide))
              have hE1d_35 : (d_35.1 h0 1).toInt = (d_26.1 h0 1).toInt := congrArg Int32.toInt ((yK.ag (F := []) yK.rf (show yAg S [41] d_26 d_35 from by rw [ed_35]; exact yAg.e yAg.rf (by rw [hky_30]; decide)) (by rw [hk_h0]; decide)) 1 (by decide))
              have hE2d_35 : (d_35.1 h0 2).toInt = (d_26.1 h0 2).toInt := congrArg Int32.toInt ((yK.ag (F := []) yK.rf (show yAg S [41] d_26 d_35 from by rw [ed_35]; exact yAg.e yAg.rf (by rw [hky_30]; decide)) (by rw [hk_h0]; decide)) 2 (by decide))
              have hE3d_35 : (d_35.1 h0 3).toInt = (d_26.1 h0 3).toInt := congrArg Int32.toInt ((yK.ag (F := []) yK.rf (show yAg S [41] d_26 d_35 from by rw [ed_35]; exact yAg.e yAg.rf (by rw [hky_30]; decide)) (by rw [hk_h0]; decide)) 3 (by decide))
              have hE63d_35 : (d_35.1 h0 63).toInt = (d_26.1 h0 63).toInt := congrArg Int32.toInt ((yK.ag (F := []) yK.rf (show yAg S [41] d_26 d_35 from by rw [ed_35]; exact yAg.e yAg.rf (by rw [hky_30]; decide)) (by rw [hk_h0]; decide)) 63 (by decide))
              refine lv_aload_n hx hb dX9_port_99 rfl (lv_at hl 1 rfl) ?_
              refine yget (ci := 9) (k := 11) (v := .ref (S.2.2.1 h0 11)) (C := RX9) (T := TX9) (N := 67) C0 hK hP hm_h0 hk_h0 (by decide) rfl inlX9 (by decide) mW116 (fun _ h9 => h9) rfl dX9_port_100 ?_
              refine lv_bipush (v := 12) hx hb dX9_port_103 (by decide) ?_
              refine lv_iload_n hx hb dX9_port_105 rfl (lv_at hl 2 rfl) ?_
              refine lv_imul hx hb dX9_port_106 ?_
              refine lv_topi (fun z_37 ez_37 => ?_)
              refine lv_iconst (v := 1) hx hb dX9_port_107 (by decide) ?_
              refine lv_iadd hx hb dX9_port_108 ?_
              refine lv_topi (fun z_38 ez_38 => ?_)
              refine lv_iload_n hx hb dX9_port_109 rfl (lv_at hl 3 rfl) ?_
              refine lv_i2l hx hb dX9_port_110 rfl ?_
              refine lv_topl (fun z_39 ez_39 => ?_)
              have hCC_40 := yMI.c hId_35
              have T_42 : (z_37 : Int32).toInt = 12 * (p0 : Int32).toInt := tmul ez_37 (by decide +kernel : (12 : Int32).toInt = 12) (rfl : (p0 : Int32).toInt = (p0 : Int32).toInt) (by omega) (by omega)
              have T_41 : (z_38 : Int32).toInt = (z_37 : Int32).toInt + 1 := tadd ez_38 (rfl : (z_37 : Int32).toInt = (z_37 : Int32).toInt) (by decide +kernel : (1 : Int32).toInt = 1) (by omega) (by omega)
              refine yastJ C0 hK hP hD hS hmy_30 hky_30 (by decide) rfl 4 rfl (xinT 96 rfl (by omega) (by omega)) dX9_port_111 (fun H locs hP hD hS => ?_)
              obtain ⟨d_43, ed_43⟩ : ∃ z : yD, z = ye d_35 (S.2.2.1 h0 11) (z_38 : Int32).toNatClampNeg z_39 := ⟨_, rfl⟩
              rw [← ed_43] at hP hD
              have hgd_43 : yAg S [9, 41, 42, 43, 44, 45, 46, 47, 69] d d_43 := by rw [ed_43]; exact yAg.e hgd_35 (by rw [hky_30]; decide)
              have hPod_43 : yPo S d_43 := by rw [ed_43]; exact hPod_35
              have hfd_43 : yK [1, 38] d d_43 h0 := yK.ag hfd_35 (show yAg S [41] d_35 d_43 from by rw [ed_43]; exact yAg.e yAg.rf (by rw [hky_30]; decide)) (by rw [hk_h0]; decide)
              have T_44 : (z_39 : Int64).toInt = (p1 : Int32).toInt := by rw [ez_39, Int32.toInt_toInt64]
              have hId_43 : yMI S d_43 h0 := by rw [ed_43]; exact yMI.w11 hId_35 hSh hm_h0 hk_h0 (yBp.up (yMI.bp_ hId_35) (fun p hp e => by have e_ : (z_38 : Int32).toInt.toNat = 12 * p + 1 := e; refine ⟨?_, ?_⟩ <;> omega) (fun p hp e => by have e_ : (z_38 : Int32).toInt.toNat = 12 * p + 2 := e; refine ⟨?_, ?_⟩ <;> omega) (fun p hp e => by have e_ : (z_38 : Int32).toInt.toNat = 12 * p + 6 := e; refine ⟨?_, ?_⟩ <;> omega))
              have hE0d_43 : (d_43.1 h0 0).toInt = (d_35.1 h0 0).toInt := congrArg Int32.toInt ((yK.ag (F := []) yK.rf (show yAg S [41] d_35 d_43 from by rw [ed_43]; exact yAg.e yAg.rf (by rw [hky_30]; decide)) (by rw [hk_h0]; decide)) 0 (by decide))
              have hE1d_43 : (d_43.1 h0 1).toInt = (d_35.1 h0 1).toInt := congrArg Int32.toInt ((yK.ag (F := []) yK.rf (show yAg S [41] d_35 d_43 from by rw [ed_43]; exact yAg.e yAg.rf (by rw [hky_30]; decide)) (by rw [hk_h0]; decide)) 1 (by decide))
              have hE2d_43 : (d_43.1 h0 2).toInt = (d_35.1 h0 2).toInt := congrArg Int32.toInt ((yK.ag (F := []) yK.rf (show yAg S [41] d_35 d_43 from by rw [ed_43]; exact yAg.e yAg.rf (by rw [hky_30]; decide)) (by rw [hk_h0]; decide)) 2 (by decide))
              have hE3d_43 : (d_43.1 h0 3).toInt = (d_35.1 h0 3).toInt := congrArg Int32.toInt ((yK.ag (F := []) yK.rf (show yAg S [41] d_35 d_43 from by rw [ed_43]; exact yAg.e yAg.rf (by rw [hky_30]; decide)) (by rw [hk_h0]; decide)) 3 (by decide))
              have hE63d_43 : (d_43.1 h0 63).toInt = (d_35.1 h0 63).toInt := congrArg Int32.toInt ((yK.ag (F := []) yK.rf (show yAg S [41] d_35 d_43 from by rw [ed_43]; exact yAg.e yAg.rf (by rw [hky_30]; decide)) (by rw [hk_h0]; decide)) 63 (by decide))
              refine lv_aload_n hx hb dX9_port_112 rfl (lv_at hl 1 rfl) ?_
              refine yget (ci := 9) (k := 11) (v := .ref (S.2.2.1 h0 11)) (C := RX9) (T := TX9) (N := 67) C0 hK hP hm_h0 hk_h0 (by decide) rfl inlX9 (by decide) mW116 (fun _ h9 => h9) rfl dX9_port_113 ?_
              refine lv_bipush (v := 12) hx hb dX9_port_116 (by decide) ?_
              refine lv_iload_n hx hb dX9_port_118 rfl (lv_at hl 2 rfl) ?_
              refine lv_imul hx hb dX9_port_119 ?_
              refine lv_topi (fun z_45 ez_45 => ?_)
              refine lv_iconst (v := 2) hx hb dX9_port_120 (by decide) ?_
              refine lv_iadd hx hb dX9_port_121 ?_
              refine lv_topi (fun z_46 ez_46 => ?_)
              refine lv_iload_n hx hb dX9_port_122 rfl (lv_at hl 4 rfl) ?_
              refine lv_i2l hx hb dX9_port_123 rfl ?_
              refine lv_topl (fun z_47 ez_47 => ?_)
              have hCC_48 := yMI.c hId_43
              have T_50 : (z_45 : Int32).toInt = 12 * (p0 : Int32).toInt := tmul ez_45 (by decide +kernel : (12 : Int32).toInt = 12) (rfl : (p0 : Int32).toInt = (p0 : Int32).toInt) (by omega) (by omega)
              have T_49 : (z_46 : Int32).toInt = (z_45 : Int32).toInt + 2 := tadd ez_46 (rfl : (z_45 : Int32).toInt = (z_45 : Int32).toInt) (by decide +kernel : (2 : Int32).toInt = 2) (by omega) (by omega)
              refine yastJ C0 hK hP hD hS hmy_30 hky_30 (by decide) rfl 4 rfl (xinT 96 rfl (by omega) (by omega)) dX9_port_124 (fun H locs hP hD hS => ?_)
              obtain ⟨d_51, ed_51⟩ : ∃ z : yD, z = ye d_43 (S.2.2.1 h0 11) (z_46 : Int32).toNatClampNeg z_47 := ⟨_, rfl⟩
              rw [← ed_51] at hP hD
              have hgd_51 : yAg S [9, 41, 42, 43, 44, 45, 46, 47, 69] d d_51 := by rw [ed_51]; exact yAg.e hgd_43 (by rw [hky_30]; decide)
              have hPod_51 : yPo S d_51 := by rw [ed_51]; exact hPod_43
              have hfd_51 : yK [1, 38] d d_51 h0 := yK.ag hfd_43 (show yAg S [41] d_43 d_51 from by rw [ed_51]; exact yAg.e yAg.rf (by rw [hky_30]; decide)) (by rw [hk_h0]; decide)
              have T_52 : (z_47 : Int64).toInt = (p2 : Int32).toInt := by rw [ez_47, Int32.toInt_toInt64]
              have hId_51 : yMI S d_51 h0 := by rw [ed_51]; exact yMI.w11 hId_43 hSh hm_h0 hk_h0 (yBp.up (yMI.bp_ hId_43) (fun p hp e => by have e_ : (z_46 : Int32).toInt.toNat = 12 * p + 1 := e; refine ⟨?_, ?_⟩ <;> omega) (fun p hp e => by have e_ : (z_46 : Int32).toInt.toNat = 12 * p + 2 := e; refine ⟨?_, ?_⟩ <;> omega) (fun p hp e => by have e_ : (z_46 : Int32).toInt.toNat = 12 * p + 6 := e; refine ⟨?_, ?_⟩ <;> omega))
              have hE0d_51 : (d_51.1 h0 0).toInt = (d_43.1 h0 0).toInt := congrArg Int32.toInt ((yK.ag (F := []) yK.rf (show yAg S [41] d_43 d_51 from by rw [ed_51]; exact yAg.e yAg.rf (by rw [hky_30]; decide)) (by rw [hk_h0]; decide)) 0 (by decide))
              have hE1d_51 : (d_51.1 h0 1).toInt = (d_43.1 h0 1).toInt := congrArg Int32.toInt ((yK.ag (F := []) yK.rf (show yAg S [41] d_43 d_51 from by rw [ed_51]; exact yAg.e yAg.rf (by rw [hky_30]; decide)) (by rw [hk_h0]; decide)) 1 (by decide))
              have hE2d_51 : (d_51.1 h0 2).toInt = (d_43.1 h0 2).toInt := congrArg Int32.toInt ((yK.ag (F := []) yK.rf (show yAg S [41] d_43 d_51 from by rw [ed_51]; exact yAg.e yAg.rf (by rw [hky_30]; decide)) (by rw [hk_h0]; decide)) 2 (by decide))
              have hE3d_51 : (d_51.1 h0 3).toInt = (d_43.1 h0 3).toInt := congrArg Int32.toInt ((yK.ag (F := []) yK.rf (show yAg S [41] d_43 d_51 from by rw [ed_51]; exact yAg.e yAg.rf (by rw [hky_30]; decide)) (by rw [hk_h0]; decide)) 3 (by decide))
              have hE63d_51 : (d_51.1 h0 63).toInt = (d_43.1 h0 63).toInt := congrArg Int32.toInt ((yK.ag (F := []) yK.rf (show yAg S [41] d_43 d_51 from by rw [ed_51]; exact yAg.e yAg.rf (by rw [hky_30]; decide)) (by rw [hk_h0]; decide)) 63 (by decide))
              refine lv_aload_n hx hb dX9_port_125 rfl (lv_at hl 1 rfl) ?_
              refine yget (ci := 9) (k := 11) (v := .ref (S.2.2.1 h0 11)) (C := RX9) (T := TX9) (N := 67) C0 hK hP hm_h0 hk_h0 (by decide) rfl inlX9 (by decide) mW116 (fun _ h9 => h9) rfl dX9_port_126 ?_
              refine lv_bipush (v := 12) hx hb dX9_port_129 (by decide) ?_
              refine lv_iload_n hx hb dX9_port_131 rfl (lv_at hl 2 rfl) ?_
              refine lv_imul hx hb dX9_port_132 ?_
              refine lv_topi (fun z_53 ez_53 => ?_)
              refine lv_iconst (v := 5) hx hb dX9_port_133 (by decide) ?_
              refine lv_iadd hx hb dX9_port_134 ?_
              refine lv_topi (fun z_54 ez_54 => ?_)
              refine lv_ldc2 (v := 1440) hx hb hown (htl (.constantLong RX9 187 (1440)) mW359) dX9_port_135 ?_
              have hCC_55 := yMI.c hId_51
              have T_57 : (z_53 : Int32).toInt = 12 * (p0 : Int32).toInt := tmul ez_53 (by decide +kernel : (12 : Int32).toInt = 12) (rfl : (p0 : Int32).toInt = (p0 : Int32).toInt) (by omega) (by omega)
              have T_56 : (z_54 : Int32).toInt = (z_53 : Int32).toInt + 5 := tadd ez_54 (rfl : (z_53 : Int32).toInt = (z_53 : Int32).toInt) (by decide +kernel : (5 : Int32).toInt = 5) (by omega) (by omega)
              refine yastJ C0 hK hP hD hS hmy_30 hky_30 (by decide) rfl 4 rfl (xinT 96 rfl (by omega) (by omega)) dX9_port_138 (fun H locs hP hD hS => ?_)
              obtain ⟨d_58, ed_58⟩ : ∃ z : yD, z = ye d_51 (S.2.2.1 h0 11) (z_54 : Int32).toNatClampNeg 1440 := ⟨_, rfl⟩
              rw [← ed_58] at hP hD
              have hgd_58 : yAg S [9, 41, 42, 43, 44, 45, 46, 47, 69] d d_58 := by rw [ed_58]; exact yAg.e hgd_51 (by rw [hky_30]; decide)
              have hPod_58 : yPo S d_58 := by rw [ed_58]; exact hPod_51
              have hfd_58 : yK [1, 38] d d_58 h0 := yK.ag hfd_51 (show yAg S [41] d_51 d_58 from by rw [ed_58]; exact yAg.e yAg.rf (by rw [hky_30]; decide)) (by rw [hk_h0]; decide)
              have T_59 : (1440 : Int64).toInt = 1440 := by decide +kernel
              have hId_58 : yMI S d_58 h0 := by rw [ed_58]; exact yMI.w11 hId_51 hSh hm_h0 hk_h0 (yBp.up (yMI.bp_ hId_51) (fun p hp e => by have e_ : (z_54 : Int32).toInt.toNat = 12 * p + 1 := e; refine ⟨?_, ?_⟩ <;> omega) (fun p hp e => by have e_ : (z_54 : Int32).toInt.toNat = 12 * p + 2 := e; refine ⟨?_, ?_⟩ <;> omega) (fun p hp e => by have e_ : (z_54 : Int32).toInt.toNat = 12 * p + 6 := e; refine ⟨?_, ?_⟩ <;> omega))
              have hE0d_58 : (d_58.1 h0 0).toInt = (d_51.1 h0 0).toInt := congrArg Int32.toInt ((yK.ag (F := []) yK.rf (show yAg S [41] d_51 d_58 from by rw [ed_58]; exact yAg.e yAg.rf (by rw [hky_30]; decide)) (by rw [hk_h0]; decide)) 0 (by decide))
              have hE1d_58 : (d_58.1 h0 1).toInt = (d_51.1 h0 1).toInt := congrArg Int32.toInt ((yK.ag (F := []) yK.rf (show yAg S [41] d_51 d_58 from by rw [ed_58]; exact yAg.e yAg.rf (by rw [hky_30]; decide)) (by rw [hk_h0]; decide)) 1 (by decide))
              have hE2d_58 : (d_58.1 h0 2).toInt = (d_51.1 h0 2).toInt := congrArg Int32.toInt ((yK.ag (F := []) yK.rf (show yAg S [41] d_51 d_58 from by rw [ed_58]; exact yAg.e yAg.rf (by rw [hky_30]; decide)) (by rw [hk_h0]; decide)) 2 (by decide))
              have hE3d_58 : (d_58.1 h0 3).toInt = (d_51.1 h0 3).toInt := congrArg Int32.toInt ((yK.ag (F := []) yK.rf (show yAg S [41] d_51 d_58 from by rw [ed_58]; exact yAg.e yAg.rf (by rw [hky_30]; decide)) (by rw [hk_h0]; decide)) 3 (by decide))
              have hE63d_58 : (d_58.1 h0 63).toInt = (d_51.1 h0 63).toInt := congrArg Int32.toInt ((yK.ag (F := []) yK.rf (show yAg S [41] d_51 d_58 from by rw [ed_58]; exact yAg.e yAg.rf (by rw [hky_30]; decide)) (by rw [hk_h0]; decide)) 63 (by decide))
              refine lv_aload_n hx hb dX9_port_139 rfl (lv_at hl 1 rfl) ?_
              refine yget (ci := 9) (k := 11) (v := .ref (S.2.2.1 h0 11)) (C := RX9) (T := TX9) (N := 67) C0 hK hP hm_h0 hk_h0 (by decide) rfl inlX9 (by decide) mW116 (fun _ h9 => h9) rfl dX9_port_140 ?_
              refine lv_bipush (v := 12) hx hb dX9_port_143 (by decide) ?_
              refine lv_iload_n hx hb dX9_port_145 rfl (lv_at hl 2 rfl) ?_
              refine lv_imul hx hb dX9_port_146 ?_
              refine lv_topi (fun z_60 ez_60 => ?_)
              refine lv_bipush (v := 10) hx hb dX9_port_147 (by decide) ?_
              refine lv_iadd hx hb dX9_port_149 ?_
              refine lv_topi (fun z_61 ez_61 => ?_)
              refine lv_lconst (v := 1) hx hb dX9_port_150 (by decide) ?_
              refine lv_iload_n hx hb dX9_port_151 rfl (lv_at hl 2 rfl) ?_
              refine lv_lshl hx hb dX9_port_152 rfl ?_
              refine lv_topl (fun z_62 ez_62 => ?_)
              have hCC_63 := yMI.c hId_58
              have T_65 : (z_60 : Int32).toInt = 12 * (p0 : Int32).toInt := tmul ez_60 (by decide +kernel : (12 : Int32).toInt = 12) (rfl : (p0 : Int32).toInt = (p0 : Int32).toInt) (by omega) (by omega)
              have T_64 : (z_61 : Int32).toInt = (z_60 : Int32).toInt + 10 := tadd ez_61 (rfl : (z_60 : Int32).toInt = (z_60 : Int32).toInt) (by decide +kernel : (10 : Int32).toInt = 10) (by omega) (by omega)
              refine yastJ C0 hK hP hD hS hmy_30 hky_30 (by decide) rfl 4 rfl (xinT 96 rfl (by omega) (by omega)) dX9_port_153 (fun H locs hP hD hS => ?_)
              obtain ⟨d_66, ed_66⟩ : ∃ z : yD, z = ye d_58 (S.2.2.1 h0 11) (z_61 : Int32).toNatClampNeg z_62 := ⟨_, rfl⟩
              rw [← ed_66] at hP hD
              have hgd_66 : yAg S [9, 41, 42, 43, 44, 45, 46, 47, 69] d d_66 := by rw [ed_66]; exact yAg.e hgd_58 (by rw [hky_30]; decide)
              have hPod_66 : yPo S d_66 := by rw [ed_66]; exact hPod_58
              have hfd_66 : yK [1, 38] d d_66 h0 := yK.ag hfd_58 (show yAg S [41] d_58 d_66 from by rw [ed_66]; exact yAg.e yAg.rf (by rw [hky_30]; decide)) (by rw [hk_h0]; decide)
              have hId_66 : yMI S d_66 h0 := by rw [ed_66]; exact yMI.w11 hId_58 hSh hm_h0 hk_h0 (yBp.up (yMI.bp_ hId_58) (fun p hp e => by have e_ : (z_61 : Int32).toInt.toNat = 12 * p + 1 := e; refine ⟨?_, ?_⟩ <;> omega) (fun p hp e => by have e_ : (z_61 : Int32).toInt.toNat = 12 * p + 2 := e; refine ⟨?_, ?_⟩ <;> omega) (fun p hp e => by have e_ : (z_61 : Int32).toInt.toNat = 12 * p + 6 := e; refine ⟨?_, ?_⟩ <;> omega))
              have hE0d_66 : (d_66.1 h0 0).toInt = (d_58.1 h0 0).toInt := congrArg Int32.toInt ((yK.ag (F := []) yK.rf (show yAg S [41] d_58 d_66 from by rw [ed_66]; exact yAg.e yAg.rf (by rw [hky_30]; decide)) (by rw [hk_h0]; decide)) 0 (by decide))
              have hE1d_66 : (d_66.1 h0 1).toInt = (d_58.1 h0 1).toInt := congrArg Int32.toInt ((yK.ag (F := []) yK.rf (show yAg S [41] d_58 d_66 from by rw [ed_66]; exact yAg.e yAg.rf (by rw [hky_30]; decide)) (by rw [hk_h0]; decide)) 1 (by decide))
              have hE2d_66 : (d_66.1 h0 2).toInt = (d_58.1 h0 2).toInt := congrArg Int32.toInt ((yK.ag (F := []) yK.rf (show yAg S [41] d_58 d_66 from by rw [ed_66]; exact yAg.e yAg.rf (by rw [hky_30]; decide)) (by rw [hk_h0]; decide)) 2 (by decide))
              have hE3d_66 : (d_66.1 h0 3).toInt = (d_58.1 h0 3).toInt := congrArg Int32.toInt ((yK.ag (F := []) yK.rf (show yAg S [41] d_58 d_66 from by rw [ed_66]; exact yAg.e yAg.rf (by rw [hky_30]; decide)) (by rw [hk_h0]; decide)) 3 (by decide))
              have hE63d_66 : (d_66.1 h0 63).toInt = (d_58.1 h0 63).toInt := congrArg Int32.toInt ((yK.ag (F := []) yK.rf (show yAg S [41] d_58 d_66 from by rw [ed_66]; exact yAg.e yAg.rf (by rw [hky_30]; decide)) (by rw [hk_h0]; decide)) 63 (by decide))
              refine lv_aload_n hx hb dX9_port_154 rfl (lv_at hl 1 rfl) ?_
              refine lv_iload_n hx hb dX9_port_155 rfl (lv_at hl 2 rfl) ?_
              refine yVwv (As := [.int p0]) (rest := []) C0 (g_X9_part l G S d_66 h0 p0 hSh hPod_66 hm_h0 hk_h0 hId_66 (by refine ⟨?_, ?_⟩ <;> omega)) ok_X9_part (mW365 : Cond.methodLink RX9 189 yX9_part ∈ wsT) ⟨Nat.le_of_ble_eq_true rfl, Nat.le_of_ble_eq_true rfl⟩ hP hD hS hA hK hN hm_h0 hk_h0 (by decide) rfl rfl rfl hl.1 rfl (Nat.le_of_ble_eq_true rfl) ⟨Nat.le_of_ble_eq_true rfl, Nat.le_of_ble_eq_true rfl⟩ dX9_port_156 (fun d_68 H locs hr_67 hP hD hS => ?_)
              obtain ⟨hgad_68, hpad_68, hfad_68, hxd_68⟩ := hr_67
              have hfd_68 : yK [1, 38] d d_68 h0 := yK.tr hfd_66 hfad_68 (by decide)
              have hE0d_68 : (d_68.1 h0 0).toInt = (d_66.1 h0 0).toInt := congrArg Int32.toInt (hfad_68 0 (by decide))
              have hE1d_68 : (d_68.1 h0 1).toInt = (d_66.1 h0 1).toInt := congrArg Int32.toInt (hfad_68 1 (by decide))
              have hE2d_68 : (d_68.1 h0 2).toInt = (d_66.1 h0 2).toInt := congrArg Int32.toInt (hfad_68 2 (by decide))
              have hE3d_68 : (d_68.1 h0 3).toInt = (d_66.1 h0 3).toInt := congrArg Int32.toInt (hfad_68 3 (by decide))
              have hE63d_68 : (d_68.1 h0 63).toInt = (d_66.1 h0 63).toInt := congrArg Int32.toInt (hfad_68 63 (by decide))
              have hId_68 : yMI S d_68 h0 := hxd_68
              have hgd_68 : yAg S [9, 41, 42, 43, 44, 45, 46, 47, 69] d d_68 := yAg.tr hgd_66 hgad_68 (by first | decide | exact fun _ h => h)
              have hPod_68 : yPo S d_68 := hpad_68 hPod_66
              refine lv_iconst (v := 0) hx hb dX9_port_159 (by decide) ?_
              refine lv_istore (lv' := [(5, .int 0), (0, .ref h0), (1, .int p0), (2, .int p1), (3, .int p2)]) hx hb dX9_port_160 hl (by decide) rfl (fun ls hl => ?_)
              have hCC_69 := yMI.c hId_68
              refine yloop (σ := Int32 × yD) (fun x => (2147483647 - (x.1 : Int32).toInt).toNat) 162 (fun x H locs ls => va_P G.1 xcl (yW G S x.2) H ∧ va_D A (yW G S x.2) ∧ va_S A s.heap H locs ∧ yAg S [9, 41, 42, 43, 44, 45, 46, 47, 69] d x.2 ∧ yPo S x.2 ∧ yK [1, 38] d x.2 h0 ∧ yMI S x.2 h0 ∧ yAg S [42, 43, 44] d_68 x.2 ∧ yK [] d_68 x.2 h0 ∧ (0 ≤ ((x.1) : Int32).toInt) ∧ lv_has ls 6 [(5, .int x.1), (0, .ref h0), (1, .int p0)]) (fun x H locs ls hI hnext_72 => ?_) (0, d_68) ⟨hP, hD, hS, hgd_68, hPod_68, hfd_68, hId_68, yAg.rf, yK.rf, (show (0 ≤ ((0) : Int32).toInt) from by have hl0_ : (0 : Int32).toInt = 0 := (by decide +kernel); have hq0_ : (0 : Int32).toInt = 0 := (by decide +kernel); omega), lv_sub hl [0, 1, 2] rfl⟩
              obtain ⟨v_70, d_71⟩ := x
              obtain ⟨hP, hD, hS, hgd_71, hPod_71, hfd_71, hId_71, hLJd_71, hKJd_71, hex_73, hl⟩ := hI
              have hId_71 : yMI S d_71 h0 := hId_71
              have hex_73 : (0 ≤ ((v_70) : Int32).toInt) := hex_73
              have hl : lv_has ls 6 [(5, .int v_70), (0, .ref h0), (1, .int p0)] := hl
              have hLJd_71 : yAg S [42, 43, 44] d_68 d_71 := hLJd_71
              have hKJd_71 : yK [] d_68 d_71 h0 := hKJd_71
              have hE0d_71 : (d_71.1 h0 0).toInt = (d_68.1 h0 0).toInt := congrArg Int32.toInt (hKJd_71 0 (by decide))
              have hE1d_71 : (d_71.1 h0 1).toInt = (d_68.1 h0 1).toInt := congrArg Int32.toInt (hKJd_71 1 (by decide))
              have hE2d_71 : (d_71.1 h0 2).toInt = (d_68.1 h0 2).toInt := congrArg Int32.toInt (hKJd_71 2 (by decide))
              have hE3d_71 : (d_71.1 h0 3).toInt = (d_68.1 h0 3).toInt := congrArg Int32.toInt (hKJd_71 3 (by decide))
              have hE63d_71 : (d_71.1 h0 63).toInt = (d_68.1 h0 63).toInt := congrArg Int32.toInt (hKJd_71 63 (by decide))
              refine lv_iload hx hb dX9_port_162 (lv_at hl 0 rfl) ?_
              refine lv_bipush (v := 90) hx hb dX9_port_164 (by decide) ?_
              refine lv_icmp_ge (tgt := 216) hx hb dX9_port_166 (by decide) (fun c_74 => ?_) (fun c_74 => ?_)
              · refine lv_iconst (v := 1) hx hb dX9_port_216 (by decide) ?_
                exact W.zret (v := 1) (ty := .boolean) hx hb hr rfl (fun t ht hW => ⟨⟨1, d_71, rfl, ⟨hgd_71, (fun _ => hPod_71), hfd_71, hId_71⟩, by rw [ht]; exact hP, hD⟩, hS.F ht⟩) hS.2.2 dX9_port_217
              · refine lv_aload_n hx hb dX9_port_169 rfl (lv_at hl 1 rfl) ?_
                refine yget (ci := 9) (k := 12) (v := .ref (S.2.2.1 h0 12)) (C := RX9) (T := TX9) (N := 67) C0 hK hP hm_h0 hk_h0 (by decide) rfl inlX9 (by decide) mW118 (fun _ h9 => h9) rfl dX9_port_170 ?_
                obtain ⟨hmy_75, hky_75⟩ := ySh.f9_12 hSh _ hm_h0 hk_h0
                refine lv_bipush (v := 90) hx hb dX9_port_173 (by decide) ?_
                refine lv_iload_n hx hb dX9_port_175 rfl (lv_at hl 2 rfl) ?_
                refine lv_imul hx hb dX9_port_176 ?_
                refine lv_topi (fun z_76 ez_76 => ?_)
                refine lv_iload hx hb dX9_port_177 (lv_at hl 0 rfl) ?_
                refine lv_iadd hx hb dX9_port_179 ?_
                refine lv_topi (fun z_77 ez_77 => ?_)
                refine lv_sipush (v := 1440) hx hb dX9_port_180 (by decide) ?_
                have hCC_78 := yMI.c hId_71
                have F_79 := fnle (by decide +kernel : (90 : Int32).toInt = 90) (rfl : (v_70 : Int32).toInt = (v_70 : Int32).toInt) c_74
                have T_81 : (z_76 : Int32).toInt = 90 * (p0 : Int32).toInt := tmul ez_76 (by decide +kernel : (90 : Int32).toInt = 90) (rfl : (p0 : Int32).toInt = (p0 : Int32).toInt) (by omega) (by omega)
                have T_80 : (z_77 : Int32).toInt = (z_76 : Int32).toInt + (v_70 : Int32).toInt := tadd ez_77 (rfl : (z_76 : Int32).toInt = (z_76 : Int32).toInt) (rfl : (v_70 : Int32).toInt = (v_70 : Int32).toInt) (by omega) (by omega)
                refine yastS C0 hK hP hD hS hmy_75 hky_75 (by decide) rfl 2 rfl (xinT 720 rfl (by omega) (by omega)) dX9_port_183 (fun H locs hP hD hS => ?_)
                obtain ⟨d_82, ed_82⟩ : ∃ z : yD, z = ycs d_71 (S.2.2.1 h0 12) (upd (d_71.2.2.2.1 (S.2.2.1 h0 12)) (z_77 : Int32).toNatClampNeg (vp_nar .short 1440)) := ⟨_, rfl⟩
                rw [← ed_82] at hP hD
                have hgd_82 : yAg S [9, 41, 42, 43, 44, 45, 46, 47, 69] d d_82 := by rw [ed_82]; exact yAg.cs hgd_71 (by rw [hky_75]; decide)
                have hPod_82 : yPo S d_82 := by rw [ed_82]; exact hPod_71
                have hfd_82 : yK [1, 38] d d_82 h0 := yK.ag hfd_71 (show yAg S [42] d_71 d_82 from by rw [ed_82]; exact yAg.cs yAg.rf (by rw [hky_75]; decide)) (by rw [hk_h0]; decide)
                have hL0d_82 : yAg S [42, 43, 44] d_68 d_82 := by rw [ed_82]; exact yAg.cs hLJd_71 (by rw [hky_75]; decide)
                have hK0d_82 : yK [] d_68 d_82 h0 := yK.ag hKJd_71 (show yAg S [42] d_71 d_82 from by rw [ed_82]; exact yAg.cs yAg.rf (by rw [hky_75]; decide)) (by rw [hk_h0]; decide)
                have hId_82 : yMI S d_82 h0 := yMI.ag hId_71 hSh hm_h0 hk_h0 (show yAg S [42] d_71 d_82 from by rw [ed_82]; exact yAg.cs yAg.rf (by rw [hky_75]; decide)) (yK.ag (F := []) yK.rf (show yAg S [42] d_71 d_82 from by rw [ed_82]; exact yAg.cs yAg.rf (by rw [hky_75]; decide)) (by rw [hk_h0]; decide)) (by decide) (by decide)
                have hE0d_82 : (d_82.1 h0 0).toInt = (d_71.1 h0 0).toInt := congrArg Int32.toInt ((yK.ag (F := []) yK.rf (show yAg S [42] d_71 d_82 from by rw [ed_82]; exact yAg.cs yAg.rf (by rw [hky_75]; decide)) (by rw [hk_h0]; decide)) 0 (by decide))
                have hE1d_82 : (d_82.1 h0 1).toInt = (d_71.1 h0 1).toInt := congrArg Int32.toInt ((yK.ag (F := []) yK.rf (show yAg S [42] d_71 d_82 from by rw [ed_82]; exact yAg.cs yAg.rf (by rw [hky_75]; decide)) (by rw [hk_h0]; decide)) 1 (by decide))
                have hE2d_82 : (d_82.1 h0 2).toInt = (d_71.1 h0 2).toInt := congrArg Int32.toInt ((yK.ag (F := []) yK.rf (show yAg S [42] d_71 d_82 from by rw [ed_82]; exact yAg.cs yAg.rf (by rw [hky_75]; decide)) (by rw [hk_h0]; decide)) 2 (by decide))
                have hE3d_82 : (d_82.1 h0 3).toInt = (d_71.1 h0 3).toInt := congrArg Int32.toInt ((yK.ag (F := []) yK.rf (show yAg S [42] d_71 d_82 from by rw [ed_82]; exact yAg.cs yAg.rf (by rw [hky_75]; decide)) (by rw [hk_h0]; decide)) 3 (by decide))
                have hE63d_82 : (d_82.1 h0 63).toInt = (d_71.1 h0 63).toInt := congrArg Int32.toInt ((yK.ag (F := []) yK.rf (show yAg S [42] d_71 d_82 from by rw [ed_82]; exact yAg.cs yAg.rf (by rw [hky_75]; decide)) (by rw [hk_h0]; decide)) 63 (by decide))
                refine lv_aload_n hx hb dX9_port_184 rfl (lv_at hl 1 rfl) ?_
                refine yget (ci := 9) (k := 13) (v := .ref (S.2.2.1 h0 13)) (C := RX9) (T := TX9) (N := 67) C0 hK hP hm_h0 hk_h0 (by decide) rfl inlX9 (by decide) mW120 (fun _ h9 => h9) rfl dX9_port_185 ?_
                obtain ⟨hmy_83, hky_83⟩ := ySh.f9_13 hSh _ hm_h0 hk_h0
                refine lv_bipush (v := 90) hx hb dX9_port_188 (by decide) ?_
                refine lv_iload_n hx hb dX9_port_190 rfl (lv_at hl 2 rfl) ?_
                refine lv_imul hx hb dX9_port_191 ?_
                refine lv_topi (fun z_84 ez_84 => ?_)
                refine lv_iload hx hb dX9_port_192 (lv_at hl 0 rfl) ?_
                refine lv_iadd hx hb dX9_port_194 ?_
                refine lv_topi (fun z_85 ez_85 => ?_)
                refine lv_iconst (v := 0) hx hb dX9_port_195 (by decide) ?_
                have hCC_86 := yMI.c hId_82
                have T_88 : (z_84 : Int32).toInt = 90 * (p0 : Int32).toInt := tmul ez_84 (by decide +kernel : (90 : Int32).toInt = 90) (rfl : (p0 : Int32).toInt = (p0 : Int32).toInt) (by omega) (by omega)
                have T_87 : (z_85 : Int32).toInt = (z_84 : Int32).toInt + (v_70 : Int32).toInt := tadd ez_85 (rfl : (z_84 : Int32).toInt = (z_84 : Int32).toInt) (rfl : (v_70 : Int32).toInt = (v_70 : Int32).toInt) (by omega) (by omega)
                refine yastZ C0 hK hP hD hS hmy_83 hky_83 (by decide) rfl 3 rfl (xinT 720 rfl (by omega) (by omega)) dX9_port_196 (fun H locs hP hD hS => ?_)
                obtain ⟨d_89, ed_89⟩ : ∃ z : yD, z = ycs d_82 (S.2.2.1 h0 13) (upd (d_82.2.2.2.1 (S.2.2.1 h0 13)) (z_85 : Int32).toNatClampNeg (vp_nar .boolean 0)) := ⟨_, rfl⟩
                rw [← ed_89] at hP hD
                have hgd_89 : yAg S [9, 41, 42, 43, 44, 45, 46, 47, 69] d d_89 := by rw [ed_89]; exact yAg.cs hgd_82 (by rw [hky_83]; decide)
                have hPod_89 : yPo S d_89 := by rw [ed_89]; exact hPod_82
                have hfd_89 : yK [1, 38] d d_89 h0 := yK.ag hfd_82 (show yAg S [43] d_82 d_89 from by rw [ed_89]; exact yAg.cs yAg.rf (by rw [hky_83]; decide)) (by rw [hk_h0]; decide)
                have hL0d_89 : yAg S [42, 43, 44] d_68 d_89 := by rw [ed_89]; exact yAg.cs hL0d_82 (by rw [hky_83]; decide)
                have hK0d_89 : yK [] d_68 d_89 h0 := yK.ag hK0d_82 (show yAg S [43] d_82 d_89 from by rw [ed_89]; exact yAg.cs yAg.rf (by rw [hky_83]; decide)) (by rw [hk_h0]; decide)
                have hId_89 : yMI S d_89 h0 := yMI.ag hId_82 hSh hm_h0 hk_h0 (show yAg S [43] d_82 d_89 from by rw [ed_89]; exact yAg.cs yAg.rf (by rw [hky_83]; decide)) (yK.ag (F := []) yK.rf (show yAg S [43] d_82 d_89 from by rw [ed_89]; exact yAg.cs yAg.rf (by rw [hky_83]; decide)) (by rw [hk_h0]; decide)) (by decide) (by decide)
                have hE0d_89 : (d_89.1 h0 0).toInt = (d_82.1 h0 0).toInt := congrArg Int32.toInt ((yK.ag (F := []) yK.rf (show yAg S [43] d_82 d_89 from by rw [ed_89]; exact yAg.cs yAg.rf (by rw [hky_83]; decide)) (by rw [hk_h0]; decide)) 0 (by decide))
                have hE1d_89 : (d_89.1 h0 1).toInt = (d_82.1 h0 1).toInt := congrArg Int32.toInt ((yK.ag (F := []) yK.rf (show yAg S [43] d_82 d_89 from by rw [ed_89]; exact yAg.cs yAg.rf (by rw [hky_83]; decide)) (by rw [hk_h0]; decide)) 1 (by decide))
                have hE2d_89 : (d_89.1 h0 2).toInt = (d_82.1 h0 2).toInt := congrArg Int32.toInt ((yK.ag (F := []) yK.rf (show yAg S [43] d_82 d_89 from by rw [ed_89]; exact yAg.cs yAg.rf (by rw [hky_83]; decide)) (by rw [hk_h0]; decide)) 2 (by decide))
                have hE3d_89 : (d_89.1 h0 3).toInt = (d_82.1 h0 3).toInt := congrArg Int32.toInt ((yK.ag (F := []) yK.rf (show yAg S [43] d_82 d_89 from by rw [ed_89]; exact yAg.cs yAg.rf (by rw [hky_83]; decide)) (by rw [hk_h0]; decide)) 3 (by decide))
                have hE63d_89 : (d_89.1 h0 63).toInt = (d_82.1 h0 63).toInt := congrArg Int32.toInt ((yK.ag (F := []) yK.rf (show yAg S [43] d_82 d_89 from by rw [ed_89]; exact yAg.cs yAg.rf (by rw [hky_83]; decide)) (by rw [hk_h0]; decide)) 63 (by decide))
                refine lv_aload_n hx hb dX9_port_197 rfl (lv_at hl 1 rfl) ?_
                refine yget (ci := 9) (k := 14) (v := .ref (S.2.2.1 h0 14)) (C := RX9) (T := TX9) (N := 67) C0 hK hP hm_h0 hk_h0 (by decide) rfl inlX9 (by decide) mW121 (fun _ h9 => h9) rfl dX9_port_198 ?_
                obtain ⟨hmy_90, hky_90⟩ := ySh.f9_14 hSh _ hm_h0 hk_h0
                refine lv_bipush (v := 90) hx hb dX9_port_201 (by decide) ?_
                refine lv_iload_n hx hb dX9_port_203 rfl (lv_at hl 2 rfl) ?_
                refine lv_imul hx hb dX9_port_204 ?_
                refine lv_topi (fun z_91 ez_91 => ?_)
                refine lv_iload hx hb dX9_port_205 (lv_at hl 0 rfl) ?_
                refine lv_iadd hx hb dX9_port_207 ?_
                refine lv_topi (fun z_92 ez_92 => ?_)
                refine lv_iconst (v := 0) hx hb dX9_port_208 (by decide) ?_
                have hCC_93 := yMI.c hId_89
                have T_95 : (z_91 : Int32).toInt = 90 * (p0 : Int32).toInt := tmul ez_91 (by decide +kernel : (90 : Int32).toInt = 90) (rfl : (p0 : Int32).toInt = (p0 : Int32).toInt) (by omega) (by omega)
                have T_94 : (z_92 : Int32).toInt = (z_91 : Int32).toInt + (v_70 : Int32).toInt := tadd ez_92 (rfl : (z_91 : Int32).toInt = (z_91 : Int32).toInt) (rfl : (v_70 : Int32).toInt = (v_70 : Int32).toInt) (by omega) (by omega)
                refine yastZ C0 hK hP hD hS hmy_90 hky_90 (by decide) rfl 3 rfl (xinT 720 rfl (by omega) (by omega)) dX9_port_209 (fun H locs hP hD hS => ?_)
                obtain ⟨d_96, ed_96⟩ : ∃ z : yD, z = ycs d_89 (S.2.2.1 h0 14) (upd (d_89.2.2.2.1 (S.2.2.1 h0 14)) (z_92 : Int32).toNatClampNeg (vp_nar .boolean 0)) := ⟨_, rfl⟩
                rw [← ed_96] at hP hD
                have hgd_96 : yAg S [9, 41, 42, 43, 44, 45, 46, 47, 69] d d_96 := by rw [ed_96]; exact yAg.cs hgd_89 (by rw [hky_90]; decide)
                have hPod_96 : yPo S d_96 := by rw [ed_96]; exact hPod_89
                have hfd_96 : yK [1, 38] d d_96 h0 := yK.ag hfd_89 (show yAg S [44] d_89 d_96 from by rw [ed_96]; exact yAg.cs yAg.rf (by rw [hky_90]; decide)) (by rw [hk_h0]; decide)
                have hL0d_96 : yAg S [42, 43, 44] d_68 d_96 := by rw [ed_96]; exact yAg.cs hL0d_89 (by rw [hky_90]; decide)
                have hK0d_96 : yK [] d_68 d_96 h0 := yK.ag hK0d_89 (show yAg S [44] d_89 d_96 from by rw [ed_96]; exact yAg.cs yAg.rf (by rw [hky_90]; decide)) (by rw [hk_h0]; decide)
                have hId_96 : yMI S d_96 h0 := by rw [ed_96]; exact yMI.w14 hId_89 hSh hm_h0 hk_h0 (yBz.up (yMI.z_ hId_89) (Or.inl rfl))
                have hE0d_96 : (d_96.1 h0 0).toInt = (d_89.1 h0 0).toInt := congrArg Int32.toInt ((yK.ag (F := []) yK.rf (show yAg S [44] d_89 d_96 from by rw [ed_96]; exact yAg.cs yAg.rf (by rw [hky_90]; decide)) (by rw [hk_h0]; decide)) 0 (by decide))
                have hE1d_96 : (d_96.1 h0 1).toInt = (d_89.1 h0 1).toInt := congrArg Int32.toInt ((yK.ag (F := []) yK.rf (show yAg S [44] d_89 d_96 from by rw [ed_96]; exact yAg.cs yAg.rf (by rw [hky_90]; decide)) (by rw [hk_h0]; decide)) 1 (by decide))
                have hE2d_96 : (d_96.1 h0 2).toInt = (d_89.1 h0 2).toInt := congrArg Int32.toInt ((yK.ag (F := []) yK.rf (show yAg S [44] d_89 d_96 from by rw [ed_96]; exact yAg.cs yAg.rf (by rw [hky_90]; decide)) (by rw [hk_h0]; decide)) 2 (by decide))
                have hE3d_96 : (d_96.1 h0 3).toInt = (d_89.1 h0 3).toInt := congrArg Int32.toInt ((yK.ag (F := []) yK.rf (show yAg S [44] d_89 d_96 from by rw [ed_96]; exact yAg.cs yAg.rf (by rw [hky_90]; decide)) (by rw [hk_h0]; decide)) 3 (by decide))
                have hE63d_96 : (d_96.1 h0 63).toInt = (d_89.1 h0 63).toInt := congrArg Int32.toInt ((yK.ag (F := []) yK.rf (show yAg S [44] d_89 d_96 from by rw [ed_96]; exact yAg.cs yAg.rf (by rw [hky_90]; decide)) (by rw [hk_h0]; decide)) 63 (by decide))
                refine lv_iinc (v := v_70 + 1) (lv' := [(5, .int (v_70 + 1)), (0, .ref h0), (1, .int p0)]) hx hb dX9_port_210 hl (k := 0) rfl rfl (by decide) rfl (fun ls hl => ?_)
                refine lv_goto (tgt := 162) hx hb dX9_port_213 (by decide) ?_
                have hCC_98 := yMI.c hId_96
                have T_99 : ((v_70 + 1) : Int32).toInt = (v_70 : Int32).toInt + 1 := tadd rfl (rfl : (v_70 : Int32).toInt = (v_70 : Int32).toInt) (by decide +kernel : (1 : Int32).toInt = 1) (by omega) (by omega)
                exact hnext_72 (v_70 + 1, d_96) _ _ ls (xup c_74) ⟨hP, hD, hS, hgd_96, hPod_96, hfd_96, hId_96, hL0d_96, hK0d_96, (show (0 ≤ (((v_70 + 1)) : Int32).toInt) from by have hq0_ : (0 : Int32).toInt = 0 := (by decide +kernel); omega), lv_sub hl [0, 1, 2] rfl⟩
            · refine lv_aload_n hx hb dX9_port_70 rfl (lv_at hl 1 rfl) ?_
              refine yget (ci := 9) (k := 11) (v := .ref (S.2.2.1 h0 11)) (C := RX9) (T := TX9) (N := 67) C0 hK hP hm_h0 hk_h0 (by decide) rfl inlX9 (by decide) mW116 (fun _ h9 => h9) rfl dX9_port_71 ?_
              obtain ⟨hmy_100, hky_100⟩ := ySh.f9_11 hSh _ hm_h0 hk_h0
              refine lv_bipush (v := 12) hx hb dX9_port_74 (by decide) ?_
              refine lv_iload_n hx hb dX9_port_76 rfl (lv_at hl 2 rfl) ?_
              refine lv_imul hx hb dX9_port_77 ?_
              refine lv_topi (fun z_101 ez_101 => ?_)
              refine lv_iload hx hb dX9_port_78 (lv_at hl 0 rfl) ?_
              refine lv_iadd hx hb dX9_port_80 ?_
              refine lv_topi (fun z_102 ez_102 => ?_)
              refine lv_lconst (v := 0) hx hb dX9_port_81 (by decide) ?_
              have hCC_103 := yMI.c hId_26
              have F_104 := fnle (by decide +kernel : (12 : Int32).toInt = 12) (rfl : (v_25 : Int32).toInt = (v_25 : Int32).toInt) c_29
              have T_106 : (z_101 : Int32).toInt = 12 * (p0 : Int32).toInt := tmul ez_101 (by decide +kernel : (12 : Int32).toInt = 12) (rfl : (p0 : Int32).toInt = (p0 : Int32).toInt) (by omega) (by omega)
              have T_105 : (z_102 : Int32).toInt = (z_101 : Int32).toInt + (v_25 : Int32).toInt := tadd ez_102 (rfl : (z_101 : Int32).toInt = (z_101 : Int32).toInt) (rfl : (v_25 : Int32).toInt = (v_25 : Int32).toInt) (by omega) (by omega)
              refine yastJ C0 hK hP hD hS hmy_100 hky_100 (by decide) rfl 4 rfl (xinT 96 rfl (by omega) (by omega)) dX9_port_82 (fun H locs hP hD hS => ?_)
              obtain ⟨d_107, ed_107⟩ : ∃ z : yD, z = ye d_26 (S.2.2.1 h0 11) (z_102 : Int32).toNatClampNeg 0 := ⟨_, rfl⟩
              rw [← ed_107] at hP hD
              have hgd_107 : yAg S [9, 41, 42, 43, 44, 45, 46, 47, 69] d d_107 := by rw [ed_107]; exact yAg.e hgd_26 (by rw [hky_100]; decide)
              have hPod_107 : yPo S d_107 := by rw [ed_107]; exact hPod_26
              have hfd_107 : yK [1, 38] d d_107 h0 := yK.ag hfd_26 (show yAg S [41] d_26 d_107 from by rw [ed_107]; exact yAg.e yAg.rf (by rw [hky_100]; decide)) (by rw [hk_h0]; decide)
              have hL0d_107 : yAg S [41] d_18 d_107 := by rw [ed_107]; exact yAg.e hLJd_26 (by rw [hky_100]; decide)
              have hK0d_107 : yK [] d_18 d_107 h0 := yK.ag hKJd_26 (show yAg S [41] d_26 d_107 from by rw [ed_107]; exact yAg.e yAg.rf (by rw [hky_100]; decide)) (by rw [hk_h0]; decide)
              have T_108 : (0 : Int64).toInt = 0 := by decide +kernel
              have hId_107 : yMI S d_107 h0 := by rw [ed_107]; exact yMI.w11 hId_26 hSh hm_h0 hk_h0 (yBp.up (yMI.bp_ hId_26) (fun p hp e => by have e_ : (z_102 : Int32).toInt.toNat = 12 * p + 1 := e; refine ⟨?_, ?_⟩ <;> omega) (fun p hp e => by have e_ : (z_102 : Int32).toInt.toNat = 12 * p + 2 := e; refine ⟨?_, ?_⟩ <;> omega) (fun p hp e => by have e_ : (z_102 : Int32).toInt.toNat = 12 * p + 6 := e; refine ⟨?_, ?_⟩ <;> omega))
              have hE0d_107 : (d_107.1 h0 0).toInt = (d_26.1 h0 0).toInt := congrArg Int32.toInt ((yK.ag (F := []) yK.rf (show yAg S [41] d_26 d_107 from by rw [ed_107]; exact yAg.e yAg.rf (by rw [hky_100]; decide)) (by rw [hk_h0]; decide)) 0 (by decide))
              have hE1d_107 : (d_107.1 h0 1).toInt = (d_26.1 h0 1).toInt := congrArg Int32.toInt ((yK.ag (F := []) yK.rf (show yAg S [41] d_26 d_107 from by rw [ed_107]; exact yAg.e yAg.rf (by rw [hky_100]; decide)) (by rw [hk_h0]; decide)) 1 (by decide))
              have hE2d_107 : (d_107.1 h0 2).toInt = (d_26.1 h0 2).toInt := congrArg Int32.toInt ((yK.ag (F := []) yK.rf (show yAg S [41] d_26 d_107 from by rw [ed_107]; exact yAg.e yAg.rf (by rw [hky_100]; decide)) (by rw [hk_h0]; decide)) 2 (by decide))
              have hE3d_107 : (d_107.1 h0 3).toInt = (d_26.1 h0 3).toInt := congrArg Int32.toInt ((yK.ag (F := []) yK.rf (show yAg S [41] d_26 d_107 from by rw [ed_107]; exact yAg.e yAg.rf (by rw [hky_100]; decide)) (by rw [hk_h0]; decide)) 3 (by decide))
              have hE63d_107 : (d_107.1 h0 63).toInt = (d_26.1 h0 63).toInt := congrArg Int32.toInt ((yK.ag (F := []) yK.rf (show yAg S [41] d_26 d_107 from by rw [ed_107]; exact yAg.e yAg.rf (by rw [hky_100]; decide)) (by rw [hk_h0]; decide)) 63 (by decide))
              refine lv_iinc (v := v_25 + 1) (lv' := [(5, .int (v_25 + 1)), (0, .ref h0), (1, .int p0), (2, .int p1), (3, .int p2)]) hx hb dX9_port_83 hl (k := 0) rfl rfl (by decide) rfl (fun ls hl => ?_)
              refine lv_goto (tgt := 63) hx hb dX9_port_86 (by decide) ?_
              have hCC_110 := yMI.c hId_107
              have T_111 : ((v_25 + 1) : Int32).toInt = (v_25 : Int32).toInt + 1 := tadd rfl (rfl : (v_25 : Int32).toInt = (v_25 : Int32).toInt) (by decide +kernel : (1 : Int32).toInt = 1) (by omega) (by omega)
              exact hnext_27 (v_25 + 1, d_107) _ _ ls (xup c_29) ⟨hP, hD, hS, hgd_107, hPod_107, hfd_107, hId_107, hL0d_107, hK0d_107, (show (0 ≤ (((v_25 + 1)) : Int32).toInt) from by have hq0_ : (0 : Int32).toInt = 0 := (by decide +kernel); omega), lv_sub hl [0, 1, 2, 3, 4] rfl⟩
          · refine lv_aload_n hx hb dX9_port_42 rfl (lv_at hl 1 rfl) ?_
            refine lv_iload hx hb dX9_port_43 (lv_at hl 0 rfl) ?_
            have F_112 := fnlt (rfl : (p0 : Int32).toInt = (p0 : Int32).toInt) (by decide +kernel : (0 : Int32).toInt = 0) c_2
            have F_113 := fnle (by decide +kernel : (8 : Int32).toInt = 8) (rfl : (p0 : Int32).toInt = (p0 : Int32).toInt) c_6
            have F_114 := fnlt (rfl : (p2 : Int32).toInt = (p2 : Int32).toInt) (by decide +kernel : (1 : Int32).toInt = 1) c_10
            have F_115 := fle (rfl : (p2 : Int32).toInt = (p2 : Int32).toInt) (by decide +kernel : (90 : Int32).toInt = 90) c_14
            have F_116 := fne (rfl : (r_15 : Int32).toInt = (r_15 : Int32).toInt) (by decide +kernel : (0 : Int32).toInt = 0) c_16
            refine yVwi (As := [.int r_15]) (rest := []) C0 (g_X9_no l G S d_1 h0 r_15 hSh hPod_1 hm_h0 hk_h0 (by refine ⟨?_, ?_⟩ <;> omega)) ok_X9_no (mW177 : Cond.methodLink RX9 168 yX9_no ∈ wsT) ⟨Nat.le_of_ble_eq_true rfl, Nat.le_of_ble_eq_true rfl⟩ hP hD hS hA hK hN hm_h0 hk_h0 (by decide) rfl rfl rfl hl.1 rfl (Nat.le_of_ble_eq_true rfl) ⟨Nat.le_of_ble_eq_true rfl, Nat.le_of_ble_eq_true rfl⟩ dX9_port_45 (fun r_117 d_118 H locs hr_117 hP hD hS => ?_)
            obtain ⟨hgad_118, hpad_118, hfad_118, hxd_118⟩ := hr_117
            have hfd_118 : yK [1, 38] d d_118 h0 := yK.tr hfd_1 hfad_118 (by decide)
            have hE0d_118 : (d_118.1 h0 0).toInt = (d_1.1 h0 0).toInt := congrArg Int32.toInt (hfad_118 0 (by decide))
            have hE1d_118 : (d_118.1 h0 1).toInt = (d_1.1 h0 1).toInt := congrArg Int32.toInt (hfad_118 1 (by decide))
            have hE2d_118 : (d_118.1 h0 2).toInt = (d_1.1 h0 2).toInt := congrArg Int32.toInt (hfad_118 2 (by decide))
            have hE3d_118 : (d_118.1 h0 3).toInt = (d_1.1 h0 3).toInt := congrArg Int32.toInt (hfad_118 3 (by decide))
            have hE63d_118 : (d_118.1 h0 63).toInt = (d_1.1 h0 63).toInt := congrArg Int32.toInt (hfad_118 63 (by decide))
            have hId_118 : yMI S d_118 h0 := yMI.ag hId_1 hSh hm_h0 hk_h0 hgad_118 hfad_118 (by decide) (by decide)
            have hgd_118 : yAg S [9, 41, 42, 43, 44, 45, 46, 47, 69] d d_118 := yAg.tr hgd_1 hgad_118 (by first | decide | exact fun _ h => h)
            have hPod_118 : yPo S d_118 := hpad_118 hPod_1
            refine lv_pop hx hb dX9_port_48 rfl ?_
            refine lv_iconst (v := 0) hx hb dX9_port_49 (by decide) ?_
            exact W.zret (v := 0) (ty := .boolean) hx hb hr rfl (fun t ht hW => ⟨⟨0, d_118, rfl, ⟨hgd_118, (fun _ => hPod_118), hfd_118, hId_118⟩, by rw [ht]; exact hP, hD⟩, hS.F ht⟩) hS.2.2 dX9_port_50
        · refine lv_iconst (v := 1) hx hb dX9_port_26 (by decide) ?_
          refine lv_goto (tgt := 35) hx hb dX9_port_27 (by decide) ?_
          refine lv_istore (lv' := [(4, .int 1), (0, .ref h0), (1, .int p0), (2, .int p1), (3, .int p2)]) hx hb dX9_port_35 hl (by decide) rfl (fun ls hl => ?_)
          refine lv_iload hx hb dX9_port_37 (lv_at hl 0 rfl) ?_
          refine lv_if_eq (tgt := 51) hx hb dX9_port_39 (by decide) (fun c_119 => absurd c_119 (by decide +kernel)) (fun c_119 => ?_)
          refine lv_aload_n hx hb dX9_port_42 rfl (lv_at hl 1 rfl) ?_
          refine lv_iload hx hb dX9_port_43 (lv_at hl 0 rfl) ?_
          refine yVwi (As := [.int 1]) (rest := []) C0 (g_X9_no l G S d_1 h0 1 hSh hPod_1 hm_h0 hk_h0 (by decide +kernel)) ok_X9_no (mW177 : Cond.methodLink RX9 168 yX9_no ∈ wsT) ⟨Nat.le_of_ble_eq_true rfl, Nat.le_of_ble_eq_true rfl⟩ hP hD hS hA hK hN hm_h0 hk_h0 (by decide) rfl rfl rfl hl.1 rfl (Nat.le_of_ble_eq_true rfl) ⟨Nat.le_of_ble_eq_true rfl, Nat.le_of_ble_eq_true rfl⟩ dX9_port_45 (fun r_120 d_121 H locs hr_120 hP hD hS => ?_)
          obtain ⟨hgad_121, hpad_121, hfad_121, hxd_121⟩ := hr_120
          have hfd_121 : yK [1, 38] d d_121 h0 := yK.tr hfd_1 hfad_121 (by decide)
          have hE0d_121 : (d_121.1 h0 0).toInt = (d_1.1 h0 0).toInt := congrArg Int32.toInt (hfad_121 0 (by decide))
          have hE1d_121 : (d_121.1 h0 1).toInt = (d_1.1 h0 1).toInt := congrArg Int32.toInt (hfad_121 1 (by decide))
          have hE2d_121 : (d_121.1 h0 2).toInt = (d_1.1 h0 2).toInt := congrArg Int32.toInt (hfad_121 2 (by decide))
          have hE3d_121 : (d_121.1 h0 3).toInt = (d_1.1 h0 3).toInt := congrArg Int32.toInt (hfad_121 3 (by decide))
          have hE63d_121 : (d_121.1 h0 63).toInt = (d_1.1 h0 63).toInt := congrArg Int32.toInt (hfad_121 63 (by decide))
          have hId_121 : yMI S d_121 h0 := yMI.ag hId_1 hSh hm_h0 hk_h0 hgad_121 hfad_121 (by decide) (by decide)
          have hgd_121 : yAg S [9, 41, 42, 43, 44, 45, 46, 47, 69] d d_121 := yAg.tr hgd_1 hgad_121 (by first | decide | exact fun _ h => h)
          have hPod_121 : yPo S d_121 := hpad_121 hPod_1
          refine lv_pop hx hb dX9_port_48 rfl ?_
          refine lv_iconst (v := 0) hx hb dX9_port_49 (by decide) ?_
          exact W.zret (v := 0) (ty := .boolean) hx hb hr rfl (fun t ht hW => ⟨⟨0, d_121, rfl, ⟨hgd_121, (fun _ => hPod_121), hfd_121, hId_121⟩, by rw [ht]; exact hP, hD⟩, hS.F ht⟩) hS.2.2 dX9_port_50
