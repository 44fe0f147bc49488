theorem dX9_port_0 : decode cX9_port 0 = .ok (.aload_n 0, 1) := by decide +kernel
theorem dX9_port_1 : decode cX9_port 1 = .ok (.iconst 0, 1) := by decide +kernel
theorem dX9_port_2 : decode cX9_port 2 = .ok (.putfield 147, 3) := by decide +kernel
theorem dX9_port_5 : decode cX9_port 5 = .ok (.iload_n 1, 1) := by decide +kernel
theorem dX9_port_6 : decode cX9_port 6 = .ok (.ifCond .lt 20, 3) := by decide +kernel
theorem dX9_port_9 : decode cX9_port 9 = .ok (.iload_n 1, 1) := by decide +kernel
theorem dX9_port_10 : decode cX9_port 10 = .ok (.bipush 8, 2) := by decide +kernel
theorem dX9_port_12 : decode cX9_port 12 = .ok (.if_icmp .ge 14, 3) := by decide +kernel
theorem dX9_port_15 : decode cX9_port 15 = .ok (.iload_n 3, 1) := by decide +kernel
theorem dX9_port_16 : decode cX9_port 16 = .ok (.iconst 1, 1) := by decide +kernel
theorem dX9_port_17 : decode cX9_port 17 = .ok (.if_icmp .lt 9, 3) := by decide +kernel
theorem dX9_port_20 : decode cX9_port 20 = .ok (.iload_n 3, 1) := by decide +kernel
theorem dX9_port_21 : decode cX9_port 21 = .ok (.bipush 90, 2) := by decide +kernel
theorem dX9_port_23 : decode cX9_port 23 = .ok (.if_icmp .le 7, 3) := by decide +kernel
theorem dX9_port_26 : decode cX9_port 26 = .ok (.iconst 1, 1) := by decide +kernel
theorem dX9_port_27 : decode cX9_port 27 = .ok (.goto 8, 3) := by decide +kernel
theorem dX9_port_30 : decode cX9_port 30 = .ok (.aload_n 0, 1) := by decide +kernel
theorem dX9_port_31 : decode cX9_port 31 = .ok (.iload_n 2, 1) := by decide +kernel
theorem dX9_port_32 : decode cX9_port 32 = .ok (.invokevirtual 153, 3) := by decide +kernel
theorem dX9_port_35 : decode cX9_port 35 = .ok (.istore 4, 2) := by decide +kernel
theorem dX9_port_37 : decode cX9_port 37 = .ok (.iload 4, 2) := by decide +kernel
theorem dX9_port_39 : decode cX9_port 39 = .ok (.ifCond .eq 12, 3) := by decide +kernel
theorem dX9_port_42 : decode cX9_port 42 = .ok (.aload_n 0, 1) := by decide +kernel
theorem dX9_port_43 : decode cX9_port 43 = .ok (.iload 4, 2) := by decide +kernel
theorem dX9_port_45 : decode cX9_port 45 = .ok (.invokevirtual 168, 3) := by decide +kernel
theorem dX9_port_48 : decode cX9_port 48 = .ok (.pop, 1) := by decide +kernel
theorem dX9_port_49 : decode cX9_port 49 = .ok (.iconst 0, 1) := by decide +kernel
theorem dX9_port_50 : decode cX9_port 50 = .ok (.ireturn, 1) := by decide +kernel
theorem dX9_port_51 : decode cX9_port 51 = .ok (.aload_n 0, 1) := by decide +kernel
theorem dX9_port_52 : decode cX9_port 52 = .ok (.iload_n 1, 1) := by decide +kernel
theorem dX9_port_53 : decode cX9_port 53 = .ok (.iconst 0, 1) := by decide +kernel
theorem dX9_port_54 : decode cX9_port 54 = .ok (.ldc 174, 2) := by decide +kernel
theorem dX9_port_56 : decode cX9_port 56 = .ok (.invokevirtual 183, 3) := by decide +kernel
theorem dX9_port_59 : decode cX9_port 59 = .ok (.pop, 1) := by decide +kernel
theorem dX9_port_60 : decode cX9_port 60 = .ok (.iconst 0, 1) := by decide +kernel
theorem dX9_port_61 : decode cX9_port 61 = .ok (.istore 5, 2) := by decide +kernel
theorem dX9_port_63 : decode cX9_port 63 = .ok (.iload 5, 2) := by decide +kernel
theorem dX9_port_65 : decode cX9_port 65 = .ok (.bipush 12, 2) := by decide +kernel
theorem dX9_port_67 : decode cX9_port 67 = .ok (.if_icmp .ge 22, 3) := by decide +kernel
theorem dX9_port_70 : decode cX9_port 70 = .ok (.aload_n 0, 1) := by decide +kernel
theorem dX9_port_71 : decode cX9_port 71 = .ok (.getfield 36, 3) := by decide +kernel
theorem dX9_port_74 : decode cX9_port 74 = .ok (.bipush 12, 2) := by decide +kernel
theorem dX9_port_76 : decode cX9_port 76 = .ok (.iload_n 1, 1) := by decide +kernel
theorem dX9_port_77 : decode cX9_port 77 = .ok (.imul, 1) := by decide +kernel
theorem dX9_port_78 : decode cX9_port 78 = .ok (.iload 5, 2) := by decide +kernel
theorem dX9_port_80 : decode cX9_port 80 = .ok (.iadd, 1) := by decide +kernel
theorem dX9_port_81 : decode cX9_port 81 = .ok (.lconst 0, 1) := by decide +kernel
theorem dX9_port_82 : decode cX9_port 82 = .ok (.lastore, 1) := by decide +kernel
theorem dX9_port_83 : decode cX9_port 83 = .ok (.iinc 5 1, 3) := by decide +kernel
theorem dX9_port_86 : decode cX9_port 86 = .ok (.goto (-23), 3) := by decide +kernel
theorem dX9_port_89 : decode cX9_port 89 = .ok (.aload_n 0, 1) := by decide +kernel
theorem dX9_port_90 : decode cX9_port 90 = .ok (.getfield 36, 3) := by decide +kernel
theorem dX9_port_93 : decode cX9_port 93 = .ok (.bipush 12, 2) := by decide +kernel
theorem dX9_port_95 : decode cX9_port 95 = .ok (.iload_n 1, 1) := by decide +kernel
theorem dX9_port_96 : decode cX9_port 96 = .ok (.imul, 1) := by decide +kernel
theorem dX9_port_97 : decode cX9_port 97 = .ok (.lconst 1, 1) := by decide +kernel
theorem dX9_port_98 : decode cX9_port 98 = .ok (.lastore, 1) := by decide +kernel
theorem dX9_port_99 : decode cX9_port 99 = .ok (.aload_n 0, 1) := by decide +kernel
theorem dX9_port_100 : decode cX9_port 100 = .ok (.getfield 36, 3) := by decide +kernel
theorem dX9_port_103 : decode cX9_port 103 = .ok (.bipush 12, 2) := by decide +kernel
theorem dX9_port_105 : decode cX9_port 105 = .ok (.iload_n 1, 1) := by decide +kernel
theorem dX9_port_106 : decode cX9_port 106 = .ok (.imul, 1) := by decide +kernel
theorem dX9_port_107 : decode cX9_port 107 = .ok (.iconst 1, 1) := by decide +kernel
theorem dX9_port_108 : decode cX9_port 108 = .ok (.iadd, 1) := by decide +kernel
theorem dX9_port_109 : decode cX9_port 109 = .ok (.iload_n 2, 1) := by decide +kernel
theorem dX9_port_110 : decode cX9_port 110 = .ok (.i2l, 1) := by decide +kernel
theorem dX9_port_111 : decode cX9_port 111 = .ok (.lastore, 1) := by decide +kernel
theorem dX9_port_112 : decode cX9_port 112 = .ok (.aload_n 0, 1) := by decide +kernel
theorem dX9_port_113 : decode cX9_port 113 = .ok (.getfield 36, 3) := by decide +kernel
theorem dX9_port_116 : decode cX9_port 116 = .ok (.bipush 12, 2) := by decide +kernel
theorem dX9_port_118 : decode cX9_port 118 = .ok (.iload_n 1, 1) := by decide +kernel
theorem dX9_port_119 : decode cX9_port 119 = .ok (.imul, 1) := by decide +kernel
theorem dX9_port_120 : decode cX9_port 120 = .ok (.iconst 2, 1) := by decide +kernel
theorem dX9_port_121 : decode cX9_port 121 = .ok (.iadd, 1) := by decide +kernel
theorem dX9_port_122 : decode cX9_port 122 = .ok (.iload_n 3, 1) := by decide +kernel
theorem dX9_port_123 : decode cX9_port 123 = .ok (.i2l, 1) := by decide +kernel
theorem dX9_port_124 : decode cX9_port 124 = .ok (.lastore, 1) := by decide +kernel
theorem dX9_port_125 : decode cX9_port 125 = .ok (.aload_n 0, 1) := by decide +kernel
theorem dX9_port_126 : decode cX9_port 126 = .ok (.getfield 36, 3) := by decide +kernel
theorem dX9_port_129 : decode cX9_port 129 = .ok (.bipush 12, 2) := by decide +kernel
theorem dX9_port_131 : decode cX9_port 131 = .ok (.iload_n 1, 1) := by decide +kernel
theorem dX9_port_132 : decode cX9_port 132 = .ok (.imul, 1) := by decide +kernel
theorem dX9_port_133 : decode cX9_port 133 = .ok (.iconst 5, 1) := by decide +kernel
theorem dX9_port_134 : decode cX9_port 134 = .ok (.iadd, 1) := by decide +kernel
theorem dX9_port_135 : decode cX9_port 135 = .ok (.ldc2_w 187, 3) := by decide +kernel
theorem dX9_port_138 : decode cX9_port 138 = .ok (.lastore, 1) := by decide +kernel
theorem dX9_port_139 : decode cX9_port 139 = .ok (.aload_n 0, 1) := by decide +kernel
theorem dX9_port_140 : decode cX9_port 140 = .ok (.getfield 36, 3) := by decide +kernel
theorem dX9_port_143 : decode cX9_port 143 = .ok (.bipush 12, 2) := by decide +kernel
theorem dX9_port_145 : decode cX9_port 145 = .ok (.iload_n 1, 1) := by decide +kernel
theorem dX9_port_146 : decode cX9_port 146 = .ok (.imul, 1) := by decide +kernel
theorem dX9_port_147 : decode cX9_port 147 = .ok (.bipush 10, 2) := by decide +kernel
theorem dX9_port_149 : decode cX9_port 149 = .ok (.iadd, 1) := by decide +kernel
theorem dX9_port_150 : decode cX9_port 150 = .ok (.lconst 1, 1) := by decide +kernel
theorem dX9_port_151 : decode cX9_port 151 = .ok (.iload_n 1, 1) := by decide +kernel
theorem dX9_port_152 : decode cX9_port 152 = .ok (.lshl, 1) := by decide +kernel
theorem dX9_port_153 : decode cX9_port 153 = .ok (.lastore, 1) := by decide +kernel
theorem dX9_port_154 : decode cX9_port 154 = .ok (.aload_n 0, 1) := by decide +kernel
theorem dX9_port_155 : decode cX9_port 155 = .ok (.iload_n 1, 1) := by decide +kernel
theorem dX9_port_156 : decode cX9_port 156 = .ok (.invokevirtual 189, 3) := by decide +kernel
theorem dX9_port_159 : decode cX9_port 159 = .ok (.iconst 0, 1) := by decide +kernel
theorem dX9_port_160 : decode cX9_port 160 = .ok (.istore 5, 2) := by decide +kernel
theorem dX9_port_162 : decode cX9_port 162 = .ok (.iload 5, 2) := by decide +kernel
theorem dX9_port_164 : decode cX9_port 164 = .ok (.bipush 90, 2) := by decide +kernel
theorem dX9_port_166 : decode cX9_port 166 = .ok (.if_icmp .ge 50, 3) := by decide +kernel
theorem dX9_port_169 : decode cX9_port 169 = .ok (.aload_n 0, 1) := by decide +kernel
theorem dX9_port_170 : decode cX9_port 170 = .ok (.getfield 40, 3) := by decide +kernel
theorem dX9_port_173 : decode cX9_port 173 = .ok (.bipush 90, 2) := by decide +kernel
theorem dX9_port_175 : decode cX9_port 175 = .ok (.iload_n 1, 1) := by decide +kernel
theorem dX9_port_176 : decode cX9_port 176 = .ok (.imul, 1) := by decide +kernel
theorem dX9_port_177 : decode cX9_port 177 = .ok (.iload 5, 2) := by decide +kernel
theorem dX9_port_179 : decode cX9_port 179 = .ok (.iadd, 1) := by decide +kernel
theorem dX9_port_180 : decode cX9_port 180 = .ok (.sipush 1440, 3) := by decide +kernel
theorem dX9_port_183 : decode cX9_port 183 = .ok (.sastore, 1) := by decide +kernel
theorem dX9_port_184 : decode cX9_port 184 = .ok (.aload_n 0, 1) := by decide +kernel
theorem dX9_port_185 : decode cX9_port 185 = .ok (.getfield 44, 3) := by decide +kernel
theorem dX9_port_188 : decode cX9_port 188 = .ok (.bipush 90, 2) := by decide +kernel
theorem dX9_port_190 : decode cX9_port 190 = .ok (.iload_n 1, 1) := by decide +kernel
theorem dX9_port_191 : decode cX9_port 191 = .ok (.imul, 1) := by decide +kernel
theorem dX9_port_192 : decode cX9_port 192 = .ok (.iload 5, 2) := by decide +kernel
theorem dX9_port_194 : decode cX9_port 194 = .ok (.iadd, 1) := by decide +kernel
theorem dX9_port_195 : decode cX9_port 195 = .ok (.iconst 0, 1) := by decide +kernel
theorem dX9_port_196 : decode cX9_port 196 = .ok (.bastore, 1) := by decide +kernel
theorem dX9_port_197 : decode cX9_port 197 = .ok (.aload_n 0, 1) := by decide +kernel
theorem dX9_port_198 : decode cX9_port 198 = .ok (.getfield 48, 3) := by decide +kernel
theorem dX9_port_201 : decode cX9_port 201 = .ok (.bipush 90, 2) := by decide +kernel
theorem dX9_port_203 : decode cX9_port 203 = .ok (.iload_n 1, 1) := by decide +kernel
theorem dX9_port_204 : decode cX9_port 204 = .ok (.imul, 1) := by decide +kernel
theorem dX9_port_205 : decode cX9_port 205 = .ok (.iload 5, 2) := by decide +kernel
theorem dX9_port_207 : decode cX9_port 207 = .ok (.iadd, 1) := by decide +kernel
theorem dX9_port_208 : decode cX9_port 208 = .ok (.iconst 0, 1) := by decide +kernel
theorem dX9_port_209 : decode cX9_port 209 = .ok (.bastore, 1) := by decide +kernel
theorem dX9_port_210 : decode cX9_port 210 = .ok (.iinc 5 1, 3) := by decide +kernel
theorem dX9_port_213 : decode cX9_port 213 = .ok (.goto (-51), 3) := by decide +kernel
theorem dX9_port_216 : decode cX9_port 216 = .ok (.iconst 1, 1) := by decide +kernel
theorem dX9_port_217 : decode cX9_port 217 = .ok (.ireturn, 1) := by decide +kernel
set_option maxHeartbeats 4000000 in
set_option maxRecDepth 100000 in
theorem g_X9_port (l : Launch) (G : xG) (S : yS) (d : yD) (h0 : Nat) (p0 : Int32) (p1 : Int32) (p2 : Int32) (hSh : ySh S) (hPo : yPo S d) (hm_h0 : h0 ∈ S.1) (hk_h0 : S.2.1 h0 = 9) (hI : yMI S d h0) : xWi l G yX9_port cX9_port 6 (some .boolean) 1 26 0 0 [.ref h0, .int p0, .int p1, .int p2] (yW G S d) (fun r (u : yD) => yAg S [9, 41, 42, 43, 44, 45, 46, 47, 69] d u ∧ (yPo S d → yPo S u) ∧ yK [1, 38] d u h0 ∧ (yMI S u h0 ∧ ((r.toInt = 0 ∧ ¬ (0 ≤ p0.toInt ∧ p0.toInt ≤ 7 ∧ 1 ≤ p2.toInt ∧ p2.toInt ≤ 90 ∧ 0 ≤ p1.toInt ∧ p1.toInt ≤ 39 ∧ p1.toInt < (d.1 h0 0).toInt) ∧ zPf S d u h0 (fun _ => False)) ∨ (r.toInt = 1 ∧ (0 ≤ p0.toInt ∧ p0.toInt ≤ 7 ∧ 1 ≤ p2.toInt ∧ p2.toInt ≤ 90 ∧ 0 ≤ p1.toInt ∧ p1.toInt ≤ 39 ∧ p1.toInt < (d.1 h0 0).toInt) ∧ u.2.2.2.2 (S.2.2.1 h0 11) (12 * p0.toInt.toNat) = 1 ∧ u.2.2.2.2 (S.2.2.1 h0 11) (12 * p0.toInt.toNat + 2) = p2.toInt64 ∧ u.2.2.2.2 (S.2.2.1 h0 11) (12 * p0.toInt.toNat + 3) = 0 ∧ zPf S d u h0 (fun i => i / 12 = p0.toInt.toNat))))) (fun u => yW G S u) := by
  intro sz
  refine xstart (by decide) (Nat.le_of_ble_eq_true rfl) (fun p e s m args below meth c ls C0 hr hlocks hin hsz hP hK hD hN hl => ?_)
  obtain ⟨hx, hb, hml, hown, htl⟩ := id C0
  subst hsz
  have hD := hD.self (sz := s.heap.size)
  generalize hAe : va_A (yW G S d) s.heap.size = A at hD ⊢
  have hA : ∀ q : Nat, s.heap.size ≤ q → A q := fun q h => by rw [← hAe]; exact Or.inr h
  have hS : va_S A s.heap s.heap [] := va_S.rf
  have hg0 : yAg S [9, 41, 42, 43, 44, 45, 46, 47, 69] d d := yAg.rf
  have hl : lv_has ls 6 [(0, .ref h0), (1, .int p0), (2, .int p1), (3, .int p2)] := hl
  refine lv_aload_n hx hb dX9_port_0 rfl (lv_at hl 0 rfl) ?_
  refine lv_iconst (v := 0) hx hb dX9_port_1 (by decide) ?_
  refine yputI (ci := 9) (k := 38) (ty := .int) (C := RX9) (T := TX9) (N := 67) C0 hK hP hD hS hm_h0 hk_h0 (by decide) rfl inlX9 tyX9 tyX9_ok nmX9 (by decide) mW175 (fun _ h9 => h9) rfl (by decide +kernel) rfl rfl (Nat.le_of_ble_eq_true rfl) ysi_9_38 dX9_port_2 (fun H locs hP hD hS => ?_)
  obtain ⟨d_1, ed_1⟩ : ∃ z : yD, z = yi d h0 38 0 := ⟨_, rfl⟩
  rw [← ed_1] at hP hD
  have hgd_1 : yAg S [9, 41, 42, 43, 44, 45, 46, 47, 69] d d_1 := by rw [ed_1]; exact yAg.i hg0 (by rw [hk_h0]; decide)
  have hsd_1 : yAg S [9] d d_1 := by rw [ed_1]; exact yAg.i yAg.rf (by rw [hk_h0]; decide)
  have hPod_1 : yPo S d_1 := by rw [ed_1]; exact yPo.i hPo hk_h0 (Or.inl rfl)
  have hfd_1 : yK [1, 38] d d_1 h0 := by rw [ed_1]; exact yK.i yK.rf (by decide)
  have hId_1 : yMI S d_1 h0 := yMI.ag hI hSh hm_h0 hk_h0 (show yAg S [9] d d_1 from by rw [ed_1]; exact yAg.i yAg.rf (by rw [hk_h0]; decide)) (show yK [38] d d_1 h0 from by rw [ed_1]; exact yK.i yK.rf (by decide)) (by decide) (by decide)
  have hE0d_1 : (d_1.1 h0 0).toInt = (d.1 h0 0).toInt := congrArg Int32.toInt ((show yK [38] d d_1 h0 from by rw [ed_1]; exact yK.i yK.rf (by decide)) 0 (by decide))
  have hE1d_1 : (d_1.1 h0 1).toInt = (d.1 h0 1).toInt := congrArg Int32.toInt ((show yK [38] d d_1 h0 from by rw [ed_1]; exact yK.i yK.rf (by decide)) 1 (by decide))
  have hE2d_1 : (d_1.1 h0 2).toInt = (d.1 h0 2).toInt := congrArg Int32.toInt ((show yK [38] d d_1 h0 from by rw [ed_1]; exact yK.i yK.rf (by decide)) 2 (by decide))
  have hE3d_1 : (d_1.1 h0 3).toInt = (d.1 h0 3).toInt := congrArg Int32.toInt ((show yK [38] d d_1 h0 from by rw [ed_1]; exact yK.i yK.rf (by decide)) 3 (by decide))
  have hE63d_1 : (d_1.1 h0 63).toInt = (d.1 h0 63).toInt := congrArg Int32.toInt ((show yK [38] d d_1 h0 from by rw [ed_1]; exact yK.i yK.rf (by decide)) 63 (by decide))
  refine lv_iload_n hx hb dX9_port_5 rfl (lv_at hl 1 rfl) ?_
  refine lv_if_lt (tgt := 26) hx hb dX9_port_6 (by decide) (fun c_2 => ?_) (fun c_2 => ?_)
  · refine lv_iconst (v := 1) hx hb dX9_port_26 (by decide) ?_
    refine lv_goto (tgt := 35) hx hb dX9_port_27 (by decide) ?_
    refine lv_istore (lv' := [(4, .int 1), (0, .ref h0), (1, .int p0), (2, .int p1), (3, .int p2)]) hx hb dX9_port_35 hl (by decide) rfl (fun ls hl => ?_)
    refine lv_iload hx hb dX9_port_37 (lv_at hl 0 rfl) ?_
    refine lv_if_eq (tgt := 51) hx hb dX9_port_39 (by decide) (fun c_3 => absurd c_3 (by decide +kernel)) (fun c_3 => ?_)
    refine lv_aload_n hx hb dX9_port_42 rfl (lv_at hl 1 rfl) ?_
    refine lv_iload hx hb dX9_port_43 (lv_at hl 0 rfl) ?_
    refine yVwi (As := [.int 1]) (rest := []) C0 (g_X9_no l G S d_1 h0 1 hSh hPod_1 hm_h0 hk_h0 (by decide +kernel)) ok_X9_no (mW177 : Cond.methodLink RX9 168 yX9_no ∈ wsT) ⟨Nat.le_of_ble_eq_true rfl, Nat.le_of_ble_eq_true rfl⟩ hP hD hS hA hK hN hm_h0 hk_h0 (by decide) rfl rfl rfl hl.1 rfl (Nat.le_of_ble_eq_true rfl) ⟨Nat.le_of_ble_eq_true rfl, Nat.le_of_ble_eq_true rfl⟩ dX9_port_45 (fun r_4 d_5 H locs hr_4 hP hD hS => ?_)
    obtain ⟨hgad_5, hpad_5, hfad_5, hxd_5⟩ := hr_4
    have hfd_5 : yK [1, 38] d d_5 h0 := yK.tr hfd_1 hfad_5 (by decide)
    have hE0d_5 : (d_5.1 h0 0).toInt = (d_1.1 h0 0).toInt := congrArg Int32.toInt (hfad_5 0 (by decide))
    have hE1d_5 : (d_5.1 h0 1).toInt = (d_1.1 h0 1).toInt := congrArg Int32.toInt (hfad_5 1 (by decide))
    have hE2d_5 : (d_5.1 h0 2).toInt = (d_1.1 h0 2).toInt := congrArg Int32.toInt (hfad_5 2 (by decide))
    have hE3d_5 : (d_5.1 h0 3).toInt = (d_1.1 h0 3).toInt := congrArg Int32.toInt (hfad_5 3 (by decide))
    have hE63d_5 : (d_5.1 h0 63).toInt = (d_1.1 h0 63).toInt := congrArg Int32.toInt (hfad_5 63 (by decide))
    have hId_5 : yMI S d_5 h0 := yMI.ag hId_1 hSh hm_h0 hk_h0 hgad_5 hfad_5 (by decide) (by decide)
    have hgd_5 : yAg S [9, 41, 42, 43, 44, 45, 46, 47, 69] d d_5 := yAg.tr hgd_1 hgad_5 (by first | decide | exact fun _ h => h)
    have hPod_5 : yPo S d_5 := hpad_5 hPod_1
    refine lv_pop hx hb dX9_port_48 rfl ?_
    refine lv_iconst (v := 0) hx hb dX9_port_49 (by decide) ?_
    have hCC_6 := yMI.c hId_5
    have F_7 := flt (rfl : (p0 : Int32).toInt = (p0 : Int32).toInt) (by decide +kernel : (0 : Int32).toInt = 0) c_2
    have F_8 := fne (by decide +kernel : (1 : Int32).toInt = 1) (by decide +kernel : (0 : Int32).toInt = 0) c_3
    exact W.zret (v := 0) (ty := .boolean) hx hb hr rfl (fun t ht hW => ⟨⟨0, d_5, rfl, ⟨hgd_5, (fun _ => hPod_5), hfd_5, ⟨hId_5, Or.inl ⟨by have h0_ : (0 : Int32).toInt = 0 := (by decide +kernel); omega, by omega, (zPf.tr (zPf.eq (hsd_1 _ (by rw [(ySh.f9_11 hSh h0 hm_h0 hk_h0).2]; decide)).2.2.2.2) (zPf.eq (hgad_5 _ (by rw [(ySh.f9_11 hSh h0 hm_h0 hk_h0).2]; decide)).2.2.2.2))⟩⟩⟩, by rw [ht]; exact hP, hD⟩, hS.F ht⟩) hS.2.2 dX9_port_50
  · refine lv_iload_n hx hb dX9_port_9 rfl (lv_at hl 1 rfl) ?_
    refine lv_bipush (v := 8) hx hb dX9_port_10 (by decide) ?_
    refine lv_icmp_ge (tgt := 26) hx hb dX9_port_12 (by decide) (fun c_9 => ?_) (fun c_9 => ?_)
    · refine lv_iconst (v := 1) hx hb dX9_port_26 (by decide) ?_
      refine lv_goto (tgt := 35) hx hb dX9_port_27 (by decide) ?_
      refine lv_istore (lv' := [(4, .int 1), (0, .ref h0), (1, .int p0), (2, .int p1), (3, .int p2)]) hx hb dX9_port_35 hl (by decide) rfl (fun ls hl => ?_)
      refine lv_iload hx hb dX9_port_37 (lv_at hl 0 rfl) ?_
      refine lv_if_eq (tgt := 51) hx hb dX9_port_39 (by decide) (fun c_10 => absurd c_10 (by decide +kernel)) (fun c_10 => ?_)
      refine lv_aload_n hx hb dX9_port_42 rfl (lv_at hl 1 rfl) ?_
      refine lv_iload hx hb dX9_port_43 (lv_at hl 0 rfl) ?_
      refine yVwi (As := [.int 1]) (rest := []) C0 (g_X9_no l G S d_1 h0 1 hSh hPod_1 hm_h0 hk_h0 (by decide +kernel)) ok_X9_no (mW177 : Cond.methodLink RX9 168 yX9_no ∈ wsT) ⟨Nat.le_of_ble_eq_true rfl, Nat.le_of_ble_eq_true rfl⟩ hP hD hS hA hK hN hm_h0 hk_h0 (by decide) rfl rfl rfl hl.1 rfl (Nat.le_of_ble_eq_true rfl) ⟨Nat.le_of_ble_eq_true rfl, Nat.le_of_ble_eq_true rfl⟩ dX9_port_45 (fun r_11 d_12 H locs hr_11 hP hD hS => ?_)
      obtain ⟨hgad_12, hpad_12, hfad_12, hxd_12⟩ := hr_11
      have hfd_12 : yK [1, 38] d d_12 h0 := yK.tr hfd_1 hfad_12 (by decide)
      have hE0d_12 : (d_12.1 h0 0).toInt = (d_1.1 h0 0).toInt := congrArg Int32.toInt (hfad_12 0 (by decide))
      have hE1d_12 : (d_12.1 h0 1).toInt = (d_1.1 h0 1).toInt := congrArg Int32.toInt (hfad_12 1 (by decide))
      have hE2d_12 : (d_12.1 h0 2).toInt = (d_1.1 h0 2).toInt := congrArg Int32.toInt (hfad_12 2 (by decide))
      have hE3d_12 : (d_12.1 h0 3).toInt = (d_1.1 h0 3).toInt := congrArg Int32.toInt (hfad_12 3 (by decide))
      have hE63d_12 : (d_12.1 h0 63).toInt = (d_1.1 h0 63).toInt := congrArg Int32.toInt (hfad_12 63 (by decide))
      have hId_12 : yMI S d_12 h0 := yMI.ag hId_1 hSh hm_h0 hk_h0 hgad_12 hfad_12 (by decide) (by decide)
      have hgd_12 : yAg S [9, 41, 42, 43, 44, 45, 46, 47, 69] d d_12 := yAg.tr hgd_1 hgad_12 (by first | decide | exact fun _ h => h)
      have hPod_12 : yPo S d_12 := hpad_12 hPod_1
      refine lv_pop hx hb dX9_port_48 rfl ?_
      refine lv_iconst (v := 0) hx hb dX9_port_49 (by decide) ?_
      have hCC_13 := yMI.c hId_12
      have F_14 := fnlt (rfl : (p0 : Int32).toInt = (p0 : Int32).toInt) (by decide +kernel : (0 : Int32).toInt = 0) c_2
      have F_15 := fle (by decide +kernel : (8 : Int32).toInt = 8) (rfl : (p0 : Int32).toInt = (p0 : Int32).toInt) c_9
      have F_16 := fne (by decide +kernel : (1 : Int32).toInt = 1) (by decide +kernel : (0 : Int32).toInt = 0) c_10
      exact W.zret (v := 0) (ty := .boolean) hx hb hr rfl (fun t ht hW => ⟨⟨0, d_12, rfl, ⟨hgd_12, (fun _ => hPod_12), hfd_12, ⟨hId_12, Or.inl ⟨by have h0_ : (0 : Int32).toInt = 0 := (by decide +kernel); omega, by omega, (zPf.tr (zPf.eq (hsd_1 _ (by rw [(ySh.f9_11 hSh h0 hm_h0 hk_h0).2]; decide)).2.2.2.2) (zPf.eq (hgad_12 _ (by rw [(ySh.f9_11 hSh h0 hm_h0 hk_h0).2]; decide)).2.2.2.2))⟩⟩⟩, by rw [ht]; exact hP, hD⟩, hS.F ht⟩) hS.2.2 dX9_port_50
    · refine lv_iload_n hx hb dX9_port_15 rfl (lv_at hl 3 rfl) ?_
      refine lv_iconst (v := 1) hx hb dX9_port_16 (by decide) ?_
      refine lv_icmp_lt (tgt := 26) hx hb dX9_port_17 (by decide) (fun c_17 => ?_) (fun c_17 => ?_)
      · refine lv_iconst (v := 1) hx hb dX9_port_26 (by decide) ?_
        refine lv_goto (tgt := 35) hx hb dX9_port_27 (by decide) ?_
        refine lv_istore (lv' := [(4, .int 1), (0, .ref h0), (1, .int p0), (2, .int p1), (3, .int p2)]) hx hb dX9_port_35 hl (by decide) rfl (fun ls hl => ?_)
        refine lv_iload hx hb dX9_port_37 (lv_at hl 0 rfl) ?_
        refine lv_if_eq (tgt := 51) hx hb dX9_port_39 (by decide) (fun c_18 => absurd c_18 (by decide +kernel)) (fun c_18 => ?_)
        refine lv_aload_n hx hb dX9_port_42 rfl (lv_at hl 1 rfl) ?_
        refine lv_iload hx hb dX9_port_43 (lv_at hl 0 rfl) ?_
        refine yVwi (As := [.int 1]) (rest := []) C0 (g_X9_no l G S d_1 h0 1 hSh hPod_1 hm_h0 hk_h0 (by decide +kernel)) ok_X9_no (mW177 : Cond.methodLink RX9 168 yX9_no ∈ wsT) ⟨Nat.le_of_ble_eq_true rfl, Nat.le_of_ble_eq_true rfl⟩ hP hD hS hA hK hN hm_h0 hk_h0 (by decide) rfl rfl rfl hl.1 rfl (Nat.le_of_ble_eq_true rfl) ⟨Nat.le_of_ble_eq_true rfl, Nat.le_of_ble_eq_true rfl⟩ dX9_port_45 (fun r_19 d_20 H locs hr_19 hP hD hS => ?_)
        obtain ⟨hgad_20, hpad_20, hfad_20, hxd_20⟩ := hr_19
        have hfd_20 : yK [1, 38] d d_20 h0 := yK.tr hfd_1 hfad_20 (by decide)
        have hE0d_20 : (d_20.1 h0 0).toInt = (d_1.1 h0 0).toInt := congrArg Int32.toInt (hfad_20 0 (by decide))
        have hE1d_20 : (d_20.1 h0 1).toInt = (d_1.1 h0 1).toInt := congrArg Int32.toInt (hfad_20 1 (by decide))
        have hE2d_20 : (d_20.1 h0 2).toInt = (d_1.1 h0 2).toInt := congrArg Int32.toInt (hfad_20 2 (by decide))
        have hE3d_20 : (d_20.1 h0 3).toInt = (d_1.1 h0 3).toInt := congrArg Int32.toInt (hfad_20 3 (by decide))
        have hE63d_20 : (d_20.1 h0 63).toInt = (d_1.1 h0 63).toInt := congrArg Int32.toInt (hfad_20 63 (by decide))
        have hId_20 : yMI S d_20 h0 := yMI.ag hId_1 hSh hm_h0 hk_h0 hgad_20 hfad_20 (by decide) (by decide)
        have hgd_20 : yAg S [9, 41, 42, 43, 44, 45, 46, 47, 69] d d_20 := yAg.tr hgd_1 hgad_20 (by first | decide | exact fun _ h => h)
        have hPod_20 : yPo S d_20 := hpad_20 hPod_1
        refine lv_pop hx hb dX9_port_48 rfl ?_
        refine lv_iconst (v := 0) hx hb dX9_port_49 (by decide) ?_
        have hCC_21 := yMI.c hId_20
        have F_22 := fnlt (rfl : (p0 : Int32).toInt = (p0 : Int32).toInt) (by decide +kernel : (0 : Int32).toInt = 0) c_2
        have F_23 := fnle (by decide +kernel : (8 : Int32).toInt = 8) (rfl : (p0 : Int32).toInt = (p0 : Int32).toInt) c_9
        have F_24 := flt (rfl : (p2 : Int32).toInt = (p2 : Int32).toInt) (by decide +kernel : (1 : Int32).toInt = 1) c_17
        have F_25 := fne (by decide +kernel : (1 : Int32).toInt = 1) (by decide +kernel : (0 : Int32).toInt = 0) c_18
        exact W.zret (v := 0) (ty := .boolean) hx hb hr rfl (fun t ht hW => ⟨⟨0, d_20, rfl, ⟨hgd_20, (fun _ => hPod_20), hfd_20, ⟨hId_20, Or.inl ⟨by have h0_ : (0 : Int32).toInt = 0 := (by decide +kernel); omega, by omega, (zPf.tr (zPf.eq (hsd_1 _ (by rw [(ySh.f9_11 hSh h0 hm_h0 hk_h0).2]; decide)).2.2.2.2) (zPf.eq (hgad_20 _ (by rw [(ySh.f9_11 hSh h0 hm_h0 hk_h0).2]; decide)).2.2.2.2))⟩⟩⟩, by rw [ht]; exact hP, hD⟩, hS.F ht⟩) hS.2.2 dX9_port_50
      · refine lv_iload_n hx hb dX9_port_20 rfl (lv_at hl 3 rfl) ?_
        refine lv_bipush (v := 90) hx hb dX9_port_21 (by decide) ?_
        refine lv_icmp_le (tgt := 30) hx hb dX9_port_23 (by decide) (fun c_26 => ?_) (fun c_26 => ?_)
        · refine lv_aload_n hx hb dX9_port_30 rfl (lv_at hl 0 rfl) ?_
          refine lv_iload_n hx hb dX9_port_31 rfl (lv_at hl 2 rfl) ?_
          refine yVri (As := [.int p1]) (rest := []) C0 (g_X9_contractWhy l G S d_1 h0 p1 hSh hm_h0 hk_h0) ok_X9_contractWhy (mW226 : Cond.methodLink RX9 153 yX9_contractWhy ∈ wsT) ⟨Nat.le_of_ble_eq_true rfl, Nat.le_of_ble_eq_true rfl⟩ hP hD hK hN hm_h0 hk_h0 (by decide) rfl rfl rfl hl.1 rfl (Nat.le_of_ble_eq_true rfl) ⟨Nat.le_of_ble_eq_true rfl, Nat.le_of_ble_eq_true rfl⟩ dX9_port_32 (fun r_27 hr_27 => ?_)
          refine lv_istore (lv' := [(4, .int r_27), (0, .ref h0), (1, .int p0), (2, .int p1), (3, .int p2)]) hx hb dX9_port_35 hl (by decide) rfl (fun ls hl => ?_)
          refine lv_iload hx hb dX9_port_37 (lv_at hl 0 rfl) ?_
          refine lv_if_eq (tgt := 51) hx hb dX9_port_39 (by decide) (fun c_28 => ?_) (fun c_28 => ?_)
          · refine lv_aload_n hx hb dX9_port_51 rfl (lv_at hl 1 rfl) ?_
            refine lv_iload_n hx hb dX9_port_52 rfl (lv_at hl 2 rfl) ?_
            refine lv_iconst (v := 0) hx hb dX9_port_53 (by decide) ?_
            refine lv_ldc (v := 129600) hx hb hown (htl (.constant RX9 174 (129600)) mW221) dX9_port_54 ?_
            refine yVwi (As := [.int p0, .int 0, .int 129600]) (rest := []) C0 (g_X9_clear l G S d_1 h0 p0 0 129600 hSh hPod_1 hm_h0 hk_h0 hId_1) ok_X9_clear (mW360 : Cond.methodLink RX9 183 yX9_clear ∈ wsT) ⟨Nat.le_of_ble_eq_true rfl, Nat.le_of_ble_eq_true rfl⟩ hP hD hS hA hK hN hm_h0 hk_h0 (by decide) rfl rfl rfl hl.1 rfl (Nat.le_of_ble_eq_true rfl) ⟨Nat.le_of_ble_eq_true rfl, Nat.le_of_ble_eq_true rfl⟩ dX9_port_56 (fun r_29 d_30 H locs hr_29 hP hD hS => ?_)
            obtain ⟨hgad_30, hpad_30, hfad_30, hxd_30⟩ := hr_29
            have hfd_30 : yK [1, 38] d d_30 h0 := yK.tr hfd_1 hfad_30 (by decide)
            have hE0d_30 : (d_30.1 h0 0).toInt = (d_1.1 h0 0).toInt := congrArg Int32.toInt (hfad_30 0 (by decide))
            have hE2d_30 : (d_30.1 h0 2).toInt = (d_1.1 h0 2).toInt := congrArg Int32.toInt (hfad_30 2 (by decide))
            have hE3d_30 : (d_30.1 h0 3).toInt = (d_1.1 h0 3).toInt := congrArg Int32.toInt (hfad_30 3 (by decide))
            have hE63d_30 : (d_30.1 h0 63).toInt = (d_1.1 h0 63).toInt := congrArg Int32.toInt (hfad_30 63 (by decide))
            have hId_30 : yMI S d_30 h0 := hxd_30.1
            have hgd_30 : yAg S [9, 41, 42, 43, 44, 45, 46, 47, 69] d d_30 := yAg.tr hgd_1 hgad_30 (by first | decide | exact fun _ h => h)
            have hPod_30 : yPo S d_30 := hpad_30 hPod_1
            refine lv_pop hx hb dX9_port_59 rfl ?_
            refine lv_iconst (v := 0) hx hb dX9_port_60 (by decide) ?_
            refine lv_istore (lv' := [(5, .int 0), (4, .int r_27), (0, .ref h0), (1, .int p0), (2, .int p1), (3, .int p2)]) hx hb dX9_port_61 hl (by decide) rfl (fun ls hl => ?_)
            refine yloop (σ := Int32 × yD) (fun x => (2147483647 - (x.1 : Int32).toInt).toNat) 63 (fun x H locs ls => va_P G.1 xcl (yW G S x.2) H ∧ va_D A (yW G S x.2) ∧ va_S A s.heap H locs ∧ yAg S [9, 41, 42, 43, 44, 45, 46, 47, 69] d x.2 ∧ yPo S x.2 ∧ yK [1, 38] d x.2 h0 ∧ yMI S x.2 h0 ∧ yAg S [41] d_30 x.2 ∧ yK [] d_30 x.2 h0 ∧ (zPz S d_30 x.2 h0 p0.toInt.toNat x.1) ∧ lv_has ls 6 [(5, .int x.1), (0, .ref h0), (1, .int p0), (2, .int p1), (3, .int p2)]) (fun x H locs ls hI hnext_33 => ?_) (0, d_30) ⟨hP, hD, hS, hgd_30, hPod_30, hfd_30, hId_30, yAg.rf, yK.rf, zPz.ini, lv_sub hl [0, 2, 3, 4, 5] rfl⟩
            obtain ⟨v_31, d_32⟩ := x
            obtain ⟨hP, hD, hS, hgd_32, hPod_32, hfd_32, hId_32, hLJd_32, hKJd_32, hex_34, hl⟩ := hI
            have hId_32 : yMI S d_32 h0 := hId_32
            have hex_34 : (zPz S d_30 d_32 h0 p0.toInt.toNat v_31) := hex_34
            have hl : lv_has ls 6 [(5, .int v_31), (0, .ref h0), (1, .int p0), (2, .int p1), (3, .int p2)] := hl
            have hLJd_32 : yAg S [41] d_30 d_32 := hLJd_32
            have hKJd_32 : yK [] d_30 d_32 h0 := hKJd_32
            have hE0d_32 : (d_32.1 h0 0).toInt = (d_30.1 h0 0).toInt := congrArg Int32.toInt (hKJd_32 0 (by decide))
            have hE1d_32 : (d_32.1 h0 1).toInt = (d_30.1 h0 1).toInt := congrArg Int32.toInt (hKJd_32 1 (by decide))
            have hE2d_32 : (d_32.1 h0 2).toInt = (d_30.1 h0 2).toInt := congrArg Int32.toInt (hKJd_32 2 (by decide))
            have hE3d_32 : (d_32.1 h0 3).toInt = (d_30.1 h0 3).toInt := congrArg Int32.toInt (hKJd_32 3 (by decide))
            have hE63d_32 : (d_32.1 h0 63).toInt = (d_30.1 h0 63).toInt := congrArg Int32.toInt (hKJd_32 63 (by decide))
            have hxr_ := hex_34.1
            refine lv_iload hx hb dX9_port_63 (lv_at hl 0 rfl) ?_
            refine lv_bipush (v := 12) hx hb dX9_port_65 (by decide) ?_
            refine lv_icmp_ge (tgt := 89) hx hb dX9_port_67 (by decide) (fun c_35 => ?_) (fun c_35 => ?_)
            · refine lv_aload_n hx hb dX9_port_89 rfl (lv_at hl 1 rfl) ?_
              refine yget (ci := 9) (k := 11) (v := .ref (S.2.2.1 h0 11)) (C := RX9) (T := TX9) (N := 67) C0 hK hP hm_h0 hk_h0 (by decide) rfl inlX9 (by decide) mW116 (fun _ h9 => h9) rfl dX9_port_90 ?_
              obtain ⟨hmy_36, hky_36⟩ := ySh.f9_11 hSh _ hm_h0 hk_h0
              refine lv_bipush (v := 12) hx hb dX9_port_93 (by decide) ?_
              refine lv_iload_n hx hb dX9_port_95 rfl (lv_at hl 2 rfl) ?_
              refine lv_imul hx hb dX9_port_96 ?_
              refine lv_topi (fun z_37 ez_37 => ?_)
              refine lv_lconst (v := 1) hx hb dX9_port_97 (by decide) ?_
              have hCC_38 := yMI.c hId_32
              have F_39 := fnlt (rfl : (p0 : Int32).toInt = (p0 : Int32).toInt) (by decide +kernel : (0 : Int32).toInt = 0) c_2
              have F_40 := fnle (by decide +kernel : (8 : Int32).toInt = 8) (rfl : (p0 : Int32).toInt = (p0 : Int32).toInt) c_9
              have F_41 := fnlt (rfl : (p2 : Int32).toInt = (p2 : Int32).toInt) (by decide +kernel : (1 : Int32).toInt = 1) c_17
              have F_42 := fle (rfl : (p2 : Int32).toInt = (p2 : Int32).toInt) (by decide +kernel : (90 : Int32).toInt = 90) c_26
              have F_43 := feq (rfl : (r_27 : Int32).toInt = (r_27 : Int32).toInt) (by decide +kernel : (0 : Int32).toInt = 0) c_28
              have F_44 := fle (by decide +kernel : (12 : Int32).toInt = 12) (rfl : (v_31 : Int32).toInt = (v_31 : Int32).toInt) c_35
              have T_45 : (z_37 : Int32).toInt = 12 * (p0 : Int32).toInt := tmul ez_37 (by decide +kernel : (12 : Int32).toInt = 12) (rfl : (p0 : Int32).toInt = (p0 : Int32).toInt) (by omega) (by omega)
              refine yastJ C0 hK hP hD hS hmy_36 hky_36 (by decide) rfl 4 rfl (xinT 96 rfl (by omega) (by omega)) dX9_port_98 (fun H locs hP hD hS => ?_)
              obtain ⟨d_46, ed_46⟩ : ∃ z : yD, z = ye d_32 (S.2.2.1 h0 11) (z_37 : Int32).toNatClampNeg 1 := ⟨_, rfl⟩
              rw [← ed_46] at hP hD
              have hgd_46 : yAg S [9, 41, 42, 43, 44, 45, 46, 47, 69] d d_46 := by rw [ed_46]; exact yAg.e hgd_32 (by rw [hky_36]; decide)
              have hsd_46 : yAg S [41] d_32 d_46 := by rw [ed_46]; exact yAg.e yAg.rf (by rw [hky_36]; decide)
              have hPod_46 : yPo S d_46 := by rw [ed_46]; exact hPod_32
              have hfd_46 : yK [1, 38] d d_46 h0 := yK.ag hfd_32 (show yAg S [41] d_32 d_46 from by rw [ed_46]; exact yAg.e yAg.rf (by rw [hky_36]; decide)) (by rw [hk_h0]; decide)
              have T_47 : (1 : Int64).toInt = 1 := by decide +kernel
              have hId_46 : yMI S d_46 h0 := by rw [ed_46]; exact yMI.w11 hId_32 hSh hm_h0 hk_h0 (yBp.up (yMI.bp_ hId_32) (fun p hp e => by have e_ : (z_37 : Int32).toInt.toNat = 12 * p + 1 := e; refine ⟨?_, ?_⟩ <;> omega) (fun p hp e => by have e_ : (z_37 : Int32).toInt.toNat = 12 * p + 2 := e; refine ⟨?_, ?_⟩ <;> omega) (fun p hp e => by have e_ : (z_37 : Int32).toInt.toNat = 12 * p + 6 := e; refine ⟨?_, ?_⟩ <;> omega))
              have hE0d_46 : (d_46.1 h0 0).toInt = (d_32.1 h0 0).toInt := congrArg Int32.toInt ((yK.ag (F := []) yK.rf (show yAg S [41] d_32 d_46 from by rw [ed_46]; exact yAg.e yAg.rf (by rw [hky_36]; decide)) (by rw [hk_h0]; decide)) 0 (by decide))
              have hE1d_46 : (d_46.1 h0 1).toInt = (d_32.1 h0 1).toInt := congrArg Int32.toInt ((yK.ag (F := []) yK.rf (show yAg S [41] d_32 d_46 from by rw [ed_46]; exact yAg.e yAg.rf (by rw [hky_36]; decide)) (by rw [hk_h0]; decide)) 1 (by decide))
              have hE2d_46 : (d_46.1 h0 2).toInt = (d_32.1 h0 2).toInt := congrArg Int32.toInt ((yK.ag (F := []) yK.rf (show yAg S [41] d_32 d_46 from by rw [ed_46]; exact yAg.e yAg.rf (by rw [hky_36]; decide)) (by rw [hk_h0]; decide)) 2 (by decide))
              have hE3d_46 : (d_46.1 h0 3).toInt = (d_32.1 h0 3).toInt := congrArg Int32.toInt ((yK.ag (F := []) yK.rf (show yAg S [41] d_32 d_46 from by rw [ed_46]; exact yAg.e yAg.rf (by rw [hky_36]; decide)) (by rw [hk_h0]; decide)) 3 (by decide))
              have hE63d_46 : (d_46.1 h0 63).toInt = (d_32.1 h0 63).toInt := congrArg Int32.toInt ((yK.ag (F := []) yK.rf (show yAg S [41] d_32 d_46 from by rw [ed_46]; exact yAg.e yAg.rf (by rw [hky_36]; decide)) (by rw [hk_h0]; decide)) 63 (by decide))
              refine lv_aload_n hx hb dX9_port_99 rfl (lv_at hl 1 rfl) ?_
              refine yget (ci := 9) (k := 11) (v := .ref (S.2.2.1 h0 11)) (C := RX9) (T := TX9) (N := 67) C0 hK hP hm_h0 hk_h0 (by decide) rfl inlX9 (by decide) mW116 (fun _ h9 => h9) rfl dX9_port_100 ?_
              refine lv_bipush (v := 12) hx hb dX9_port_103 (by decide) ?_
              refine lv_iload_n hx hb dX9_port_105 rfl (lv_at hl 2 rfl) ?_
              refine lv_imul hx hb dX9_port_106 ?_
              refine lv_topi (fun z_48 ez_48 => ?_)
              refine lv_iconst (v := 1) hx hb dX9_port_107 (by decide) ?_
              refine lv_iadd hx hb dX9_port_108 ?_
              refine lv_topi (fun z_49 ez_49 => ?_)
              refine lv_iload_n hx hb dX9_port_109 rfl (lv_at hl 3 rfl) ?_
              refine lv_i2l hx hb dX9_port_110 rfl ?_
              refine lv_topl (fun z_50 ez_50 => ?_)
              have hCC_51 := yMI.c hId_46
              have T_53 : (z_48 : Int32).toInt = 12 * (p0 : Int32).toInt := tmul ez_48 (by decide +kernel : (12 : Int32).toInt = 12) (rfl : (p0 : Int32).toInt = (p0 : Int32).toInt) (by omega) (by omega)
              have T_52 : (z_49 : Int32).toInt = (z_48 : Int32).toInt + 1 := tadd ez_49 (rfl : (z_48 : Int32).toInt = (z_48 : Int32).toInt) (by decide +kernel : (1 : Int32).toInt = 1) (by omega) (by omega)
              refine yastJ C0 hK hP hD hS hmy_36 hky_36 (by decide) rfl 4 rfl (xinT 96 rfl (by omega) (by omega)) dX9_port_111 (fun H locs hP hD hS => ?_)
              obtain ⟨d_54, ed_54⟩ : ∃ z : yD, z = ye d_46 (S.2.2.1 h0 11) (z_49 : Int32).toNatClampNeg z_50 := ⟨_, rfl⟩
              rw [← ed_54] at hP hD
              have hgd_54 : yAg S [9, 41, 42, 43, 44, 45, 46, 47, 69] d d_54 := by rw [ed_54]; exact yAg.e hgd_46 (by rw [hky_36]; decide)
              have hsd_54 : yAg S [41] d_46 d_54 := by rw [ed_54]; exact yAg.e yAg.rf (by rw [hky_36]; decide)
              have hPod_54 : yPo S d_54 := by rw [ed_54]; exact hPod_46
              have hfd_54 : yK [1, 38] d d_54 h0 := yK.ag hfd_46 (show yAg S [41] d_46 d_54 from by rw [ed_54]; exact yAg.e yAg.rf (by rw [hky_36]; decide)) (by rw [hk_h0]; decide)
              have T_55 : (z_50 : Int64).toInt = (p1 : Int32).toInt := by rw [ez_50, Int32.toInt_toInt64]
              have hId_54 : yMI S d_54 h0 := by rw [ed_54]; exact yMI.w11 hId_46 hSh hm_h0 hk_h0 (yBp.up (yMI.bp_ hId_46) (fun p hp e => by have e_ : (z_49 : Int32).toInt.toNat = 12 * p + 1 := e; refine ⟨?_, ?_⟩ <;> omega) (fun p hp e => by have e_ : (z_49 : Int32).toInt.toNat = 12 * p + 2 := e; refine ⟨?_, ?_⟩ <;> omega) (fun p hp e => by have e_ : (z_49 : Int32).toInt.toNat = 12 * p + 6 := e; refine ⟨?_, ?_⟩ <;> omega))
              have hE0d_54 : (d_54.1 h0 0).toInt = (d_46.1 h0 0).toInt := congrArg Int32.toInt ((yK.ag (F := []) yK.rf (show yAg S [41] d_46 d_54 from by rw [ed_54]; exact yAg.e yAg.rf (by rw [hky_36]; decide)) (by rw [hk_h0]; decide)) 0 (by decide))
              have hE1d_54 : (d_54.1 h0 1).toInt = (d_46.1 h0 1).toInt := congrArg Int32.toInt ((yK.ag (F := []) yK.rf (show yAg S [41] d_46 d_54 from by rw [ed_54]; exact yAg.e yAg.rf (by rw [hky_36]; decide)) (by rw [hk_h0]; decide)) 1 (by decide))
              have hE2d_54 : (d_54.1 h0 2).toInt = (d_46.1 h0 2).toInt := congrArg Int32.toInt ((yK.ag (F := []) yK.rf (show yAg S [41] d_46 d_54 from by rw [ed_54]; exact yAg.e yAg.rf (by rw [hky_36]; decide)) (by rw [hk_h0]; decide)) 2 (by decide))
              have hE3d_54 : (d_54.1 h0 3).toInt = (d_46.1 h0 3).toInt := congrArg Int32.toInt ((yK.ag (F := []) yK.rf (show yAg S [41] d_46 d_54 from by rw [ed_54]; exact yAg.e yAg.rf (by rw [hky_36]; decide)) (by rw [hk_h0]; decide)) 3 (by decide))
              have hE63d_54 : (d_54.1 h0 63).toInt = (d_46.1 h0 63).toInt := congrArg Int32.toInt ((yK.ag (F := []) yK.rf (show yAg S [41] d_46 d_54 from by rw [ed_54]; exact yAg.e yAg.rf (by rw [hky_36]; decide)) (by rw [hk_h0]; decide)) 63 (by decide))
              refine lv_aload_n hx hb dX9_port_112 rfl (lv_at hl 1 rfl) ?_
              refine yget (ci := 9) (k := 11) (v := .ref (S.2.2.1 h0 11)) (C := RX9) (T := TX9) (N := 67) C0 hK hP hm_h0 hk_h0 (by decide) rfl inlX9 (by decide) mW116 (fun _ h9 => h9) rfl dX9_port_113 ?_
              refine lv_bipush (v := 12) hx hb dX9_port_116 (by decide) ?_
              refine lv_iload_n hx hb dX9_port_118 rfl (lv_at hl 2 rfl) ?_
              refine lv_imul hx hb dX9_port_119 ?_
              refine lv_topi (fun z_56 ez_56 => ?_)
              refine lv_iconst (v := 2) hx hb dX9_port_120 (by decide) ?_
              refine lv_iadd hx hb dX9_port_121 ?_
              refine lv_topi (fun z_57 ez_57 => ?_)
              refine lv_iload_n hx hb dX9_port_122 rfl (lv_at hl 4 rfl) ?_
              refine lv_i2l hx hb dX9_port_123 rfl ?_
              refine lv_topl (fun z_58 ez_58 => ?_)
              have hCC_59 := yMI.c hId_54
              have T_61 : (z_56 : Int32).toInt = 12 * (p0 : Int32).toInt := tmul ez_56 (by decide +kernel : (12 : Int32).toInt = 12) (rfl : (p0 : Int32).toInt = (p0 : Int32).toInt) (by omega) (by omega)
              have T_60 : (z_57 : Int32).toInt = (z_56 : Int32).toInt + 2 := tadd ez_57 (rfl : (z_56 : Int32).toInt = (z_56 : Int32).toInt) (by decide +kernel : (2 : Int32).toInt = 2) (by omega) (by omega)
              refine yastJ C0 hK hP hD hS hmy_36 hky_36 (by decide) rfl 4 rfl (xinT 96 rfl (by omega) (by omega)) dX9_port_124 (fun H locs hP hD hS => ?_)
              obtain ⟨d_62, ed_62⟩ : ∃ z : yD, z = ye d_54 (S.2.2.1 h0 11) (z_57 : Int32).toNatClampNeg z_58 := ⟨_, rfl⟩
              rw [← ed_62] at hP hD
              have hgd_62 : yAg S [9, 41, 42, 43, 44, 45, 46, 47, 69] d d_62 := by rw [ed_62]; exact yAg.e hgd_54 (by rw [hky_36]; decide)
              have hsd_62 : yAg S [41] d_54 d_62 := by rw [ed_62]; exact yAg.e yAg.rf (by rw [hky_36]; decide)
              have hPod_62 : yPo S d_62 := by rw [ed_62]; exact hPod_54
              have hfd_62 : yK [1, 38] d d_62 h0 := yK.ag hfd_54 (show yAg S [41] d_54 d_62 from by rw [ed_62]; exact yAg.e yAg.rf (by rw [hky_36]; decide)) (by rw [hk_h0]; decide)
              have T_63 : (z_58 : Int64).toInt = (p2 : Int32).toInt := by rw [ez_58, Int32.toInt_toInt64]
              have hId_62 : yMI S d_62 h0 := by rw [ed_62]; exact yMI.w11 hId_54 hSh hm_h0 hk_h0 (yBp.up (yMI.bp_ hId_54) (fun p hp e => by have e_ : (z_57 : Int32).toInt.toNat = 12 * p + 1 := e; refine ⟨?_, ?_⟩ <;> omega) (fun p hp e => by have e_ : (z_57 : Int32).toInt.toNat = 12 * p + 2 := e; refine ⟨?_, ?_⟩ <;> omega) (fun p hp e => by have e_ : (z_57 : Int32).toInt.toNat = 12 * p + 6 := e; refine ⟨?_, ?_⟩ <;> omega))
              have hE0d_62 : (d_62.1 h0 0).toInt = (d_54.1 h0 0).toInt := congrArg Int32.toInt ((yK.ag (F := []) yK.rf (show yAg S [41] d_54 d_62 from by rw [ed_62]; exact yAg.e yAg.rf (by rw [hky_36]; decide)) (by rw [hk_h0]; decide)) 0 (by decide))
              have hE1d_62 : (d_62.1 h0 1).toInt = (d_54.1 h0 1).toInt := congrArg Int32.toInt ((yK.ag (F := []) yK.rf (show yAg S [41] d_54 d_62 from by rw [ed_62]; exact yAg.e yAg.rf (by rw [hky_36]; decide)) (by rw [hk_h0]; decide)) 1 (by decide))
              have hE2d_62 : (d_62.1 h0 2).toInt = (d_54.1 h0 2).toInt := congrArg Int32.toInt ((yK.ag (F := []) yK.rf (show yAg S [41] d_54 d_62 from by rw [ed_62]; exact yAg.e yAg.rf (by rw [hky_36]; decide)) (by rw [hk_h0]; decide)) 2 (by decide))
              have hE3d_62 : (d_62.1 h0 3).toInt = (d_54.1 h0 3).toInt := congrArg Int32.toInt ((yK.ag (F := []) yK.rf (show yAg S [41] d_54 d_62 from by rw [ed_62]; exact yAg.e yAg.rf (by rw [hky_36]; decide)) (by rw [hk_h0]; decide)) 3 (by decide))
              have hE63d_62 : (d_62.1 h0 63).toInt = (d_54.1 h0 63).toInt := congrArg Int32.toInt ((yK.ag (F := []) yK.rf (show yAg S [41] d_54 d_62 from by rw [ed_62]; exact yAg.e yAg.rf (by rw [hky_36]; decide)) (by rw [hk_h0]; decide)) 63 (by decide))
              refine lv_aload_n hx hb dX9_port_125 rfl (lv_at hl 1 rfl) ?_
              refine yget (ci := 9) (k := 11) (v := .ref (S.2.2.1 h0 11)) (C := RX9) (T := TX9) (N := 67) C0 hK hP hm_h0 hk_h0 (by decide) rfl inlX9 (by decide) mW116 (fun _ h9 => h9) rfl dX9_port_126 ?_
              refine lv_bipush (v := 12) hx hb dX9_port_129 (by decide) ?_
              refine lv_iload_n hx hb dX9_port_131 rfl (lv_at hl 2 rfl) ?_
              refine lv_imul hx hb dX9_port_132 ?_
              refine lv_topi (fun z_64 ez_64 => ?_)
              refine lv_iconst (v := 5) hx hb dX9_port_133 (by decide) ?_
              refine lv_iadd hx hb dX9_port_134 ?_
              refine lv_topi (fun z_65 ez_65 => ?_)
              refine lv_ldc2 (v := 1440) hx hb hown (htl (.constantLong RX9 187 (1440)) mW359) dX9_port_135 ?_
              have hCC_66 := yMI.c hId_62
              have T_68 : (z_64 : Int32).toInt = 12 * (p0 : Int32).toInt := tmul ez_64 (by decide +kernel : (12 : Int32).toInt = 12) (rfl : (p0 : Int32).toInt = (p0 : Int32).toInt) (by omega) (by omega)
              have T_67 : (z_65 : Int32).toInt = (z_64 : Int32).toInt + 5 := tadd ez_65 (rfl : (z_64 : Int32).toInt = (z_64 : Int32).toInt) (by decide +kernel : (5 : Int32).toInt = 5) (by omega) (by omega)
              refine yastJ C0 hK hP hD hS hmy_36 hky_36 (by decide) rfl 4 rfl (xinT 96 rfl (by omega) (by omega)) dX9_port_138 (fun H locs hP hD hS => ?_)
              obtain ⟨d_69, ed_69⟩ : ∃ z : yD, z = ye d_62 (S.2.2.1 h0 11) (z_65 : Int32).toNatClampNeg 1440 := ⟨_, rfl⟩
              rw [← ed_69] at hP hD
              have hgd_69 : yAg S [9, 41, 42, 43, 44, 45, 46, 47, 69] d d_69 := by rw [ed_69]; exact yAg.e hgd_62 (by rw [hky_36]; decide)
              have hsd_69 : yAg S [41] d_62 d_69 := by rw [ed_69]; exact yAg.e yAg.rf (by rw [hky_36]; decide)
              have hPod_69 : yPo S d_69 := by rw [ed_69]; exact hPod_62
              have hfd_69 : yK [1, 38] d d_69 h0 := yK.ag hfd_62 (show yAg S [41] d_62 d_69 from by rw [ed_69]; exact yAg.e yAg.rf (by rw [hky_36]; decide)) (by rw [hk_h0]; decide)
              have T_70 : (1440 : Int64).toInt = 1440 := by decide +kernel
              have hId_69 : yMI S d_69 h0 := by rw [ed_69]; exact yMI.w11 hId_62 hSh hm_h0 hk_h0 (yBp.up (yMI.bp_ hId_62) (fun p hp e => by have e_ : (z_65 : Int32).toInt.toNat = 12 * p + 1 := e; refine ⟨?_, ?_⟩ <;> omega) (fun p hp e => by have e_ : (z_65 : Int32).toInt.toNat = 12 * p + 2 := e; refine ⟨?_, ?_⟩ <;> omega) (fun p hp e => by have e_ : (z_65 : Int32).toInt.toNat = 12 * p + 6 := e; refine ⟨?_, ?_⟩ <;> omega))
              have hE0d_69 : (d_69.1 h0 0).toInt = (d_62.1 h0 0).toInt := congrArg Int32.toInt ((yK.ag (F := []) yK.rf (show yAg S [41] d_62 d_69 from by rw [ed_69]; exact yAg.e yAg.rf (by rw [hky_36]; decide)) (by rw [hk_h0]; decide)) 0 (by decide))
              have hE1d_69 : (d_69.1 h0 1).toInt = (d_62.1 h0 1).toInt := congrArg Int32.toInt ((yK.ag (F := []) yK.rf (show yAg S [41] d_62 d_69 from by rw [ed_69]; exact yAg.e yAg.rf (by rw [hky_36]; decide)) (by rw [hk_h0]; decide)) 1 (by decide))
              have hE2d_69 : (d_69.1 h0 2).toInt = (d_62.1 h0 2).toInt := congrArg Int32.toInt ((yK.ag (F := []) yK.rf (show yAg S [41] d_62 d_69 from by rw [ed_69]; exact yAg.e yAg.rf (by rw [hky_36]; decide)) (by rw [hk_h0]; decide)) 2 (by decide))
              have hE3d_69 : (d_69.1 h0 3).toInt = (d_62.1 h0 3).toInt := congrArg Int32.toInt ((yK.ag (F := []) yK.rf (show yAg S [41] d_62 d_69 from by rw [ed_69]; exact yAg.e yAg.rf (by rw [hky_36]; decide)) (by rw [hk_h0]; decide)) 3 (by decide))
              have hE63d_69 : (d_69.1 h0 63).toInt = (d_62.1 h0 63).toInt := congrArg Int32.toInt ((yK.ag (F := []) yK.rf (show yAg S [41] d_62 d_69 from by rw [ed_69]; exact yAg.e yAg.rf (by rw [hky_36]; decide)) (by rw [hk_h0]; decide)) 63 (by decide))
              refine lv_aload_n hx hb dX9_port_139 rfl (lv_at hl 1 rfl) ?_
              refine yget (ci := 9) (k := 11) (v := .ref (S.2.2.1 h0 11)) (C := RX9) (T := TX9) (N := 67) C0 hK hP hm_h0 hk_h0 (by decide) rfl inlX9 (by decide) mW116 (fun _ h9 => h9) rfl dX9_port_140 ?_
              refine lv_bipush (v := 12) hx hb dX9_port_143 (by decide) ?_
              refine lv_iload_n hx hb dX9_port_145 rfl (lv_at hl 2 rfl) ?_
              refine lv_imul hx hb dX9_port_146 ?_
              refine lv_topi (fun z_71 ez_71 => ?_)
              refine lv_bipush (v := 10) hx hb dX9_port_147 (by decide) ?_
              refine lv_iadd hx hb dX9_port_149 ?_
              refine lv_topi (fun z_72 ez_72 => ?_)
              refine lv_lconst (v := 1) hx hb dX9_port_150 (by decide) ?_
              refine lv_iload_n hx hb dX9_port_151 rfl (lv_at hl 2 rfl) ?_
              refine lv_lshl hx hb dX9_port_152 rfl ?_
              refine lv_topl (fun z_73 ez_73 => ?_)
              have hCC_74 := yMI.c hId_69
              have T_76 : (z_71 : Int32).toInt = 12 * (p0 : Int32).toInt := tmul ez_71 (by decide +kernel : (12 : Int32).toInt = 12) (rfl : (p0 : Int32).toInt = (p0 : Int32).toInt) (by omega) (by omega)
              have T_75 : (z_72 : Int32).toInt = (z_71 : Int32).toInt + 10 := tadd ez_72 (rfl : (z_71 : Int32).toInt = (z_71 : Int32).toInt) (by decide +kernel : (10 : Int32).toInt = 10) (by omega) (by omega)
              refine yastJ C0 hK hP hD hS hmy_36 hky_36 (by decide) rfl 4 rfl (xinT 96 rfl (by omega) (by omega)) dX9_port_153 (fun H locs hP hD hS => ?_)
              obtain ⟨d_77, ed_77⟩ : ∃ z : yD, z = ye d_69 (S.2.2.1 h0 11) (z_72 : Int32).toNatClampNeg z_73 := ⟨_, rfl⟩
              rw [← ed_77] at hP hD
              have hgd_77 : yAg S [9, 41, 42, 43, 44, 45, 46, 47, 69] d d_77 := by rw [ed_77]; exact yAg.e hgd_69 (by rw [hky_36]; decide)
              have hsd_77 : yAg S [41] d_69 d_77 := by rw [ed_77]; exact yAg.e yAg.rf (by rw [hky_36]; decide)
              have hPod_77 : yPo S d_77 := by rw [ed_77]; exact hPod_69
              have hfd_77 : yK [1, 38] d d_77 h0 := yK.ag hfd_69 (show yAg S [41] d_69 d_77 from by rw [ed_77]; exact yAg.e yAg.rf (by rw [hky_36]; decide)) (by rw [hk_h0]; decide)
              have hId_77 : yMI S d_77 h0 := by rw [ed_77]; exact yMI.w11 hId_69 hSh hm_h0 hk_h0 (yBp.up (yMI.bp_ hId_69) (fun p hp e => by have e_ : (z_72 : Int32).toInt.toNat = 12 * p + 1 := e; refine ⟨?_, ?_⟩ <;> omega) (fun p hp e => by have e_ : (z_72 : Int32).toInt.toNat = 12 * p + 2 := e; refine ⟨?_, ?_⟩ <;> omega) (fun p hp e => by have e_ : (z_72 : Int32).toInt.toNat = 12 * p + 6 := e; refine ⟨?_, ?_⟩ <;> omega))
              have hE0d_77 : (d_77.1 h0 0).toInt = (d_69.1 h0 0).toInt := congrArg Int32.toInt ((yK.ag (F := []) yK.rf (show yAg S [41] d_69 d_77 from by rw [ed_77]; exact yAg.e yAg.rf (by rw [hky_36]; decide)) (by rw [hk_h0]; decide)) 0 (by decide))
              have hE1d_77 : (d_77.1 h0 1).toInt = (d_69.1 h0 1).toInt := congrArg Int32.toInt ((yK.ag (F := []) yK.rf (show yAg S [41] d_69 d_77 from by rw [ed_77]; exact yAg.e yAg.rf (by rw [hky_36]; decide)) (by rw [hk_h0]; decide)) 1 (by decide))
              have hE2d_77 : (d_77.1 h0 2).toInt = (d_69.1 h0 2).toInt := congrArg Int32.toInt ((yK.ag (F := []) yK.rf (show yAg S [41] d_69 d_77 from by rw [ed_77]; exact yAg.e yAg.rf (by rw [hky_36]; decide)) (by rw [hk_h0]; decide)) 2 (by decide))
              have hE3d_77 : (d_77.1 h0 3).toInt = (d_69.1 h0 3).toInt := congrArg Int32.toInt ((yK.ag (F := []) yK.rf (show yAg S [41] d_69 d_77 from by rw [ed_77]; exact yAg.e yAg.rf (by rw [hky_36]; decide)) (by rw [hk_h0]; decide)) 3 (by decide))
              have hE63d_77 : (d_77.1 h0 63).toInt = (d_69.1 h0 63).toInt := congrArg Int32.toInt ((yK.ag (F := []) yK.rf (show yAg S [41] d_69 d_77 from by rw [ed_77]; exact yAg.e yAg.rf (by rw [hky_36]; decide)) (by rw [hk_h0]; decide)) 63 (by decide))
              refine lv_aload_n hx hb dX9_port_154 rfl (lv_at hl 1 rfl) ?_
              refine lv_iload_n hx hb dX9_port_155 rfl (lv_at hl 2 rfl) ?_
              refine yVwv (As := [.int p0]) (rest := []) C0 (g_X9_part l G S d_77 h0 p0 hSh hPod_77 hm_h0 hk_h0 hId_77 (by refine ⟨?_, ?_⟩ <;> omega)) ok_X9_part (mW365 : Cond.methodLink RX9 189 yX9_part ∈ wsT) ⟨Nat.le_of_ble_eq_true rfl, Nat.le_of_ble_eq_true rfl⟩ hP hD hS hA hK hN hm_h0 hk_h0 (by decide) rfl rfl rfl hl.1 rfl (Nat.le_of_ble_eq_true rfl) ⟨Nat.le_of_ble_eq_true rfl, Nat.le_of_ble_eq_true rfl⟩ dX9_port_156 (fun d_79 H locs hr_78 hP hD hS => ?_)
              obtain ⟨hgad_79, hpad_79, hfad_79, hxd_79⟩ := hr_78
              have hfd_79 : yK [1, 38] d d_79 h0 := yK.tr hfd_77 hfad_79 (by decide)
              have hE0d_79 : (d_79.1 h0 0).toInt = (d_77.1 h0 0).toInt := congrArg Int32.toInt (hfad_79 0 (by decide))
              have hE1d_79 : (d_79.1 h0 1).toInt = (d_77.1 h0 1).toInt := congrArg Int32.toInt (hfad_79 1 (by decide))
              have hE2d_79 : (d_79.1 h0 2).toInt = (d_77.1 h0 2).toInt := congrArg Int32.toInt (hfad_79 2 (by decide))
              have hE3d_79 : (d_79.1 h0 3).toInt = (d_77.1 h0 3).toInt := congrArg Int32.toInt (hfad_79 3 (by decide))
              have hE63d_79 : (d_79.1 h0 63).toInt = (d_77.1 h0 63).toInt := congrArg Int32.toInt (hfad_79 63 (by decide))
              have hId_79 : yMI S d_79 h0 := hxd_79.1
              have hgd_79 : yAg S [9, 41, 42, 43, 44, 45, 46, 47, 69] d d_79 := yAg.tr hgd_77 hgad_79 (by first | decide | exact fun _ h => h)
              have hPod_79 : yPo S d_79 := hpad_79 hPod_77
              refine lv_iconst (v := 0) hx hb dX9_port_159 (by decide) ?_
              refine lv_istore (lv' := [(5, .int 0), (0, .ref h0), (1, .int p0), (2, .int p1), (3, .int p2)]) hx hb dX9_port_160 hl (by decide) rfl (fun ls hl => ?_)
              have hCC_80 := yMI.c hId_79
              refine yloop (σ := Int32 × yD) (fun x => (2147483647 - (x.1 : Int32).toInt).toNat) 162 (fun x H locs ls => va_P G.1 xcl (yW G S x.2) H ∧ va_D A (yW G S x.2) ∧ va_S A s.heap H locs ∧ yAg S [9, 41, 42, 43, 44, 45, 46, 47, 69] d x.2 ∧ yPo S x.2 ∧ yK [1, 38] d x.2 h0 ∧ yMI S x.2 h0 ∧ yAg S [42, 43, 44] d_79 x.2 ∧ yK [] d_79 x.2 h0 ∧ (0 ≤ ((x.1) : Int32).toInt) ∧ lv_has ls 6 [(5, .int x.1), (0, .ref h0), (1, .int p0)]) (fun x H locs ls hI hnext_83 => ?_) (0, d_79) ⟨hP, hD, hS, hgd_79, hPod_79, hfd_79, hId_79, yAg.rf, yK.rf, (show (0 ≤ ((0) : Int32).toInt) from by have hl0_ : (0 : Int32).toInt = 0 := (by decide +kernel); have hq0_ : (0 : Int32).toInt = 0 := (by decide +kernel); omega), lv_sub hl [0, 1, 2] rfl⟩
              obtain ⟨v_81, d_82⟩ := x
              obtain ⟨hP, hD, hS, hgd_82, hPod_82, hfd_82, hId_82, hLJd_82, hKJd_82, hex_84, hl⟩ := hI
              have hId_82 : yMI S d_82 h0 := hId_82
              have hex_84 : (0 ≤ ((v_81) : Int32).toInt) := hex_84
              have hl : lv_has ls 6 [(5, .int v_81), (0, .ref h0), (1, .int p0)] := hl
              have hLJd_82 : yAg S [42, 43, 44] d_79 d_82 := hLJd_82
              have hKJd_82 : yK [] d_79 d_82 h0 := hKJd_82
              have hE0d_82 : (d_82.1 h0 0).toInt = (d_79.1 h0 0).toInt := congrArg Int32.toInt (hKJd_82 0 (by decide))
              have hE1d_82 : (d_82.1 h0 1).toInt = (d_79.1 h0 1).toInt := congrArg Int32.toInt (hKJd_82 1 (by decide))
              have hE2d_82 : (d_82.1 h0 2).toInt = (d_79.1 h0 2).toInt := congrArg Int32.toInt (hKJd_82 2 (by decide))
              have hE3d_82 : (d_82.1 h0 3).toInt = (d_79.1 h0 3).toInt := congrArg Int32.toInt (hKJd_82 3 (by decide))
              have hE63d_82 : (d_82.1 h0 63).toInt = (d_79.1 h0 63).toInt := congrArg Int32.toInt (hKJd_82 63 (by decide))
              refine lv_iload hx hb dX9_port_162 (lv_at hl 0 rfl) ?_
              refine lv_bipush (v := 90) hx hb dX9_port_164 (by decide) ?_
              refine lv_icmp_ge (tgt := 216) hx hb dX9_port_166 (by decide) (fun c_85 => ?_) (fun c_85 => ?_)
              · refine lv_iconst (v := 1) hx hb dX9_port_216 (by decide) ?_
                have hCC_86 := yMI.c hId_82
                have F_87 := fle (by decide +kernel : (90 : Int32).toInt = 90) (rfl : (v_81 : Int32).toInt = (v_81 : Int32).toInt) c_85
                obtain ⟨hv1_, hv2_, hv3_, hv4_⟩ := zPort hex_34 c_35 ed_46 ed_54 ed_62 ed_69 ed_77 (by omega) (by omega) (by omega) (by omega) (by omega)
                have hb_ : zPf S d_77 d_82 h0 (fun _ => False) := (zPf.tr (zPf.mono (E := fun _ => False) (hxd_79.2) (fun _ h => False.elim h)) (zPf.eq (hLJd_82 _ (by rw [(ySh.f9_11 hSh h0 hm_h0 hk_h0).2]; decide)).2.2.2.2))
                exact W.zret (v := 1) (ty := .boolean) hx hb hr rfl (fun t ht hW => ⟨⟨1, d_82, rfl, ⟨hgd_82, (fun _ => hPod_82), hfd_82, ⟨hId_82, Or.inr ⟨by have h0_ : (1 : Int32).toInt = 1 := (by decide +kernel); omega, by omega, (hb_ _ (by omega) id).trans hv1_, (hb_ _ (by omega) id).trans (hv2_.trans ez_58), (hb_ _ (by omega) id).trans hv3_, zPf.tr (zPf.tr (zPf.tr (zPf.eq (hsd_1 _ (by rw [(ySh.f9_11 hSh h0 hm_h0 hk_h0).2]; decide)).2.2.2.2) (zPf.eq (hgad_30 _ (by rw [(ySh.f9_11 hSh h0 hm_h0 hk_h0).2]; decide)).2.2.2.2)) hv4_) (zPf.mono hb_ (fun _ h => h.elim))⟩⟩⟩, by rw [ht]; exact hP, hD⟩, hS.F ht⟩) hS.2.2 dX9_port_217
              · refine lv_aload_n hx hb dX9_port_169 rfl (lv_at hl 1 rfl) ?_
                refine yget (ci := 9) (k := 12) (v := .ref (S.2.2.1 h0 12)) (C := RX9) (T := TX9) (N := 67) C0 hK hP hm_h0 hk_h0 (by decide) rfl inlX9 (by decide) mW118 (fun _ h9 => h9) rfl dX9_port_170 ?_
                obtain ⟨hmy_88, hky_88⟩ := ySh.f9_12 hSh _ hm_h0 hk_h0
                refine lv_bipush (v := 90) hx hb dX9_port_173 (by decide) ?_
                refine lv_iload_n hx hb dX9_port_175 rfl (lv_at hl 2 rfl) ?_
                refine lv_imul hx hb dX9_port_176 ?_
                refine lv_topi (fun z_89 ez_89 => ?_)
                refine lv_iload hx hb dX9_port_177 (lv_at hl 0 rfl) ?_
                refine lv_iadd hx hb dX9_port_179 ?_
                refine lv_topi (fun z_90 ez_90 => ?_)
                refine lv_sipush (v := 1440) hx hb dX9_port_180 (by decide) ?_
                have hCC_91 := yMI.c hId_82
                have F_92 := fnle (by decide +kernel : (90 : Int32).toInt = 90) (rfl : (v_81 : Int32).toInt = (v_81 : Int32).toInt) c_85
                have T_94 : (z_89 : Int32).toInt = 90 * (p0 : Int32).toInt := tmul ez_89 (by decide +kernel : (90 : Int32).toInt = 90) (rfl : (p0 : Int32).toInt = (p0 : Int32).toInt) (by omega) (by omega)
                have T_93 : (z_90 : Int32).toInt = (z_89 : Int32).toInt + (v_81 : Int32).toInt := tadd ez_90 (rfl : (z_89 : Int32).toInt = (z_89 : Int32).toInt) (rfl : (v_81 : Int32).toInt = (v_81 : Int32).toInt) (by omega) (by omega)
                refine yastS C0 hK hP hD hS hmy_88 hky_88 (by decide) rfl 2 rfl (xinT 720 rfl (by omega) (by omega)) dX9_port_183 (fun H locs hP hD hS => ?_)
                obtain ⟨d_95, ed_95⟩ : ∃ z : yD, z = ycs d_82 (S.2.2.1 h0 12) (upd (d_82.2.2.2.1 (S.2.2.1 h0 12)) (z_90 : Int32).toNatClampNeg (vp_nar .short 1440)) := ⟨_, rfl⟩
                rw [← ed_95] at hP hD
                have hgd_95 : yAg S [9, 41, 42, 43, 44, 45, 46, 47, 69] d d_95 := by rw [ed_95]; exact yAg.cs hgd_82 (by rw [hky_88]; decide)
                have hsd_95 : yAg S [42] d_82 d_95 := by rw [ed_95]; exact yAg.cs yAg.rf (by rw [hky_88]; decide)
                have hPod_95 : yPo S d_95 := by rw [ed_95]; exact hPod_82
                have hfd_95 : yK [1, 38] d d_95 h0 := yK.ag hfd_82 (show yAg S [42] d_82 d_95 from by rw [ed_95]; exact yAg.cs yAg.rf (by rw [hky_88]; decide)) (by rw [hk_h0]; decide)
                have hL0d_95 : yAg S [42, 43, 44] d_79 d_95 := by rw [ed_95]; exact yAg.cs hLJd_82 (by rw [hky_88]; decide)
                have hK0d_95 : yK [] d_79 d_95 h0 := yK.ag hKJd_82 (show yAg S [42] d_82 d_95 from by rw [ed_95]; exact yAg.cs yAg.rf (by rw [hky_88]; decide)) (by rw [hk_h0]; decide)
                have hId_95 : yMI S d_95 h0 := yMI.ag hId_82 hSh hm_h0 hk_h0 (show yAg S [42] d_82 d_95 from by rw [ed_95]; exact yAg.cs yAg.rf (by rw [hky_88]; decide)) (yK.ag (F := []) yK.rf (show yAg S [42] d_82 d_95 from by rw [ed_95]; exact yAg.cs yAg.rf (by rw [hky_88]; decide)) (by rw [hk_h0]; decide)) (by decide) (by decide)
                have hE0d_95 : (d_95.1 h0 0).toInt = (d_82.1 h0 0).toInt := congrArg Int32.toInt ((yK.ag (F := []) yK.rf (show yAg S [42] d_82 d_95 from by rw [ed_95]; exact yAg.cs yAg.rf (by rw [hky_88]; decide)) (by rw [hk_h0]; decide)) 0 (by decide))
                have hE1d_95 : (d_95.1 h0 1).toInt = (d_82.1 h0 1).toInt := congrArg Int32.toInt ((yK.ag (F := []) yK.rf (show yAg S [42] d_82 d_95 from by rw [ed_95]; exact yAg.cs yAg.rf (by rw [hky_88]; decide)) (by rw [hk_h0]; decide)) 1 (by decide))
                have hE2d_95 : (d_95.1 h0 2).toInt = (d_82.1 h0 2).toInt := congrArg Int32.toInt ((yK.ag (F := []) yK.rf (show yAg S [42] d_82 d_95 from by rw [ed_95]; exact yAg.cs yAg.rf (by rw [hky_88]; decide)) (by rw [hk_h0]; decide)) 2 (by decide))
                have hE3d_95 : (d_95.1 h0 3).toInt = (d_82.1 h0 3).toInt := congrArg Int32.toInt ((yK.ag (F := []) yK.rf (show yAg S [42] d_82 d_95 from by rw [ed_95]; exact yAg.cs yAg.rf (by rw [hky_88]; decide)) (by rw [hk_h0]; decide)) 3 (by decide))
                have hE63d_95 : (d_95.1 h0 63).toInt = (d_82.1 h0 63).toInt := congrArg Int32.toInt ((yK.ag (F := []) yK.rf (show yAg S [42] d_82 d_95 from by rw [ed_95]; exact yAg.cs yAg.rf (by rw [hky_88]; decide)) (by rw [hk_h0]; decide)) 63 (by decide))
                refine lv_aload_n hx hb dX9_port_184 rfl (lv_at hl 1 rfl) ?_
                refine yget (ci := 9) (k := 13) (v := .ref (S.2.2.1 h0 13)) (C := RX9) (T := TX9) (N := 67) C0 hK hP hm_h0 hk_h0 (by decide) rfl inlX9 (by decide) mW120 (fun _ h9 => h9) rfl dX9_port_185 ?_
                obtain ⟨hmy_96, hky_96⟩ := ySh.f9_13 hSh _ hm_h0 hk_h0
                refine lv_bipush (v := 90) hx hb dX9_port_188 (by decide) ?_
                refine lv_iload_n hx hb dX9_port_190 rfl (lv_at hl 2 rfl) ?_
                refine lv_imul hx hb dX9_port_191 ?_
                refine lv_topi (fun z_97 ez_97 => ?_)
                refine lv_iload hx hb dX9_port_192 (lv_at hl 0 rfl) ?_
                refine lv_iadd hx hb dX9_port_194 ?_
                refine lv_topi (fun z_98 ez_98 => ?_)
                refine lv_iconst (v := 0) hx hb dX9_port_195 (by decide) ?_
                have hCC_99 := yMI.c hId_95
                have T_101 : (z_97 : Int32).toInt = 90 * (p0 : Int32).toInt := tmul ez_97 (by decide +kernel : (90 : Int32).toInt = 90) (rfl : (p0 : Int32).toInt = (p0 : Int32).toInt) (by omega) (by omega)
                have T_100 : (z_98 : Int32).toInt = (z_97 : Int32).toInt + (v_81 : Int32).toInt := tadd ez_98 (rfl : (z_97 : Int32).toInt = (z_97 : Int32).toInt) (rfl : (v_81 : Int32).toInt = (v_81 : Int32).toInt) (by omega) (by omega)
                refine yastZ C0 hK hP hD hS hmy_96 hky_96 (by decide) rfl 3 rfl (xinT 720 rfl (by omega) (by omega)) dX9_port_196 (fun H locs hP hD hS => ?_)
                obtain ⟨d_102, ed_102⟩ : ∃ z : yD, z = ycs d_95 (S.2.2.1 h0 13) (upd (d_95.2.2.2.1 (S.2.2.1 h0 13)) (z_98 : Int32).toNatClampNeg (vp_nar .boolean 0)) := ⟨_, rfl⟩
                rw [← ed_102] at hP hD
                have hgd_102 : yAg S [9, 41, 42, 43, 44, 45, 46, 47, 69] d d_102 := by rw [ed_102]; exact yAg.cs hgd_95 (by rw [hky_96]; decide)
                have hsd_102 : yAg S [43] d_95 d_102 := by rw [ed_102]; exact yAg.cs yAg.rf (by rw [hky_96]; decide)
                have hPod_102 : yPo S d_102 := by rw [ed_102]; exact hPod_95
                have hfd_102 : yK [1, 38] d d_102 h0 := yK.ag hfd_95 (show yAg S [43] d_95 d_102 from by rw [ed_102]; exact yAg.cs yAg.rf (by rw [hky_96]; decide)) (by rw [hk_h0]; decide)
                have hL0d_102 : yAg S [42, 43, 44] d_79 d_102 := by rw [ed_102]; exact yAg.cs hL0d_95 (by rw [hky_96]; decide)
                have hK0d_102 : yK [] d_79 d_102 h0 := yK.ag hK0d_95 (show yAg S [43] d_95 d_102 from by rw [ed_102]; exact yAg.cs yAg.rf (by rw [hky_96]; decide)) (by rw [hk_h0]; decide)
                have hId_102 : yMI S d_102 h0 := yMI.ag hId_95 hSh hm_h0 hk_h0 (show yAg S [43] d_95 d_102 from by rw [ed_102]; exact yAg.cs yAg.rf (by rw [hky_96]; decide)) (yK.ag (F := []) yK.rf (show yAg S [43] d_95 d_102 from by rw [ed_102]; exact yAg.cs yAg.rf (by rw [hky_96]; decide)) (by rw [hk_h0]; decide)) (by decide) (by decide)
                have hE0d_102 : (d_102.1 h0 0).toInt = (d_95.1 h0 0).toInt := congrArg Int32.toInt ((yK.ag (F := []) yK.rf (show yAg S [43] d_95 d_102 from by rw [ed_102]; exact yAg.cs yAg.rf (by rw [hky_96]; decide)) (by rw [hk_h0]; decide)) 0 (by decide))
                have hE1d_102 : (d_102.1 h0 1).toInt = (d_95.1 h0 1).toInt := congrArg Int32.toInt ((yK.ag (F := []) yK.rf (show yAg S [43] d_95 d_102 from by rw [ed_102]; exact yAg.cs yAg.rf (by rw [hky_96]; decide)) (by rw [hk_h0]; decide)) 1 (by decide))
                have hE2d_102 : (d_102.1 h0 2).toInt = (d_95.1 h0 2).toInt := congrArg Int32.toInt ((yK.ag (F := []) yK.rf (show yAg S [43] d_95 d_102 from by rw [ed_102]; exact yAg.cs yAg.rf (by rw [hky_96]; decide)) (by rw [hk_h0]; decide)) 2 (by decide))
                have hE3d_102 : (d_102.1 h0 3).toInt = (d_95.1 h0 3).toInt := congrArg Int32.toInt ((yK.ag (F := []) yK.rf (show yAg S [43] d_95 d_102 from by rw [ed_102]; exact yAg.cs yAg.rf (by rw [hky_96]; decide)) (by rw [hk_h0]; decide)) 3 (by decide))
                have hE63d_102 : (d_102.1 h0 63).toInt = (d_95.1 h0 63).toInt := congrArg Int32.toInt ((yK.ag (F := []) yK.rf (show yAg S [43] d_95 d_102 from by rw [ed_102]; exact yAg.cs yAg.rf (by rw [hky_96]; decide)) (by rw [hk_h0]; decide)) 63 (by decide))
                refine lv_aload_n hx hb dX9_port_197 rfl (lv_at hl 1 rfl) ?_
                refine yget (ci := 9) (k := 14) (v := .ref (S.2.2.1 h0 14)) (C := RX9) (T := TX9) (N := 67) C0 hK hP hm_h0 hk_h0 (by decide) rfl inlX9 (by decide) mW121 (fun _ h9 => h9) rfl dX9_port_198 ?_
                obtain ⟨hmy_103, hky_103⟩ := ySh.f9_14 hSh _ hm_h0 hk_h0
                refine lv_bipush (v := 90) hx hb dX9_port_201 (by decide) ?_
                refine lv_iload_n hx hb dX9_port_203 rfl (lv_at hl 2 rfl) ?_
                refine lv_imul hx hb dX9_port_204 ?_
                refine lv_topi (fun z_104 ez_104 => ?_)
                refine lv_iload hx hb dX9_port_205 (lv_at hl 0 rfl) ?_
                refine lv_iadd hx hb dX9_port_207 ?_
                refine lv_topi (fun z_105 ez_105 => ?_)
                refine lv_iconst (v := 0) hx hb dX9_port_208 (by decide) ?_
                have hCC_106 := yMI.c hId_102
                have T_108 : (z_104 : Int32).toInt = 90 * (p0 : Int32).toInt := tmul ez_104 (by decide +kernel : (90 : Int32).toInt = 90) (rfl : (p0 : Int32).toInt = (p0 : Int32).toInt) (by omega) (by omega)
                have T_107 : (z_105 : Int32).toInt = (z_104 : Int32).toInt + (v_81 : Int32).toInt := tadd ez_105 (rfl : (z_104 : Int32).toInt = (z_104 : Int32).toInt) (rfl : (v_81 : Int32).toInt = (v_81 : Int32).toInt) (by omega) (by omega)
                refine yastZ C0 hK hP hD hS hmy_103 hky_103 (by decide) rfl 3 rfl (xinT 720 rfl (by omega) (by omega)) dX9_port_209 (fun H locs hP hD hS => ?_)
                obtain ⟨d_109, ed_109⟩ : ∃ z : yD, z = ycs d_102 (S.2.2.1 h0 14) (upd (d_102.2.2.2.1 (S.2.2.1 h0 14)) (z_105 : Int32).toNatClampNeg (vp_nar .boolean 0)) := ⟨_, rfl⟩
                rw [← ed_109] at hP hD
                have hgd_109 : yAg S [9, 41, 42, 43, 44, 45, 46, 47, 69] d d_109 := by rw [ed_109]; exact yAg.cs hgd_102 (by rw [hky_103]; decide)
                have hsd_109 : yAg S [44] d_102 d_109 := by rw [ed_109]; exact yAg.cs yAg.rf (by rw [hky_103]; decide)
                have hPod_109 : yPo S d_109 := by rw [ed_109]; exact hPod_102
                have hfd_109 : yK [1, 38] d d_109 h0 := yK.ag hfd_102 (show yAg S [44] d_102 d_109 from by rw [ed_109]; exact yAg.cs yAg.rf (by rw [hky_103]; decide)) (by rw [hk_h0]; decide)
                have hL0d_109 : yAg S [42, 43, 44] d_79 d_109 := by rw [ed_109]; exact yAg.cs hL0d_102 (by rw [hky_103]; decide)
                have hK0d_109 : yK [] d_79 d_109 h0 := yK.ag hK0d_102 (show yAg S [44] d_102 d_109 from by rw [ed_109]; exact yAg.cs yAg.rf (by rw [hky_103]; decide)) (by rw [hk_h0]; decide)
                have hId_109 : yMI S d_109 h0 := by rw [ed_109]; exact yMI.w14 hId_102 hSh hm_h0 hk_h0 (yBz.up (yMI.z_ hId_102) (Or.inl rfl))
                have hE0d_109 : (d_109.1 h0 0).toInt = (d_102.1 h0 0).toInt := congrArg Int32.toInt ((yK.ag (F := []) yK.rf (show yAg S [44] d_102 d_109 from by rw [ed_109]; exact yAg.cs yAg.rf (by rw [hky_103]; decide)) (by rw [hk_h0]; decide)) 0 (by decide))
                have hE1d_109 : (d_109.1 h0 1).toInt = (d_102.1 h0 1).toInt := congrArg Int32.toInt ((yK.ag (F := []) yK.rf (show yAg S [44] d_102 d_109 from by rw [ed_109]; exact yAg.cs yAg.rf (by rw [hky_103]; decide)) (by rw [hk_h0]; decide)) 1 (by decide))
                have hE2d_109 : (d_109.1 h0 2).toInt = (d_102.1 h0 2).toInt := congrArg Int32.toInt ((yK.ag (F := []) yK.rf (show yAg S [44] d_102 d_109 from by rw [ed_109]; exact yAg.cs yAg.rf (by rw [hky_103]; decide)) (by rw [hk_h0]; decide)) 2 (by decide))
                have hE3d_109 : (d_109.1 h0 3).toInt = (d_102.1 h0 3).toInt := congrArg Int32.toInt ((yK.ag (F := []) yK.rf (show yAg S [44] d_102 d_109 from by rw [ed_109]; exact yAg.cs yAg.rf (by rw [hky_103]; decide)) (by rw [hk_h0]; decide)) 3 (by decide))
                have hE63d_109 : (d_109.1 h0 63).toInt = (d_102.1 h0 63).toInt := congrArg Int32.toInt ((yK.ag (F := []) yK.rf (show yAg S [44] d_102 d_109 from by rw [ed_109]; exact yAg.cs yAg.rf (by rw [hky_103]; decide)) (by rw [hk_h0]; decide)) 63 (by decide))
                refine lv_iinc (v := v_81 + 1) (lv' := [(5, .int (v_81 + 1)), (0, .ref h0), (1, .int p0)]) hx hb dX9_port_210 hl (k := 0) rfl rfl (by decide) rfl (fun ls hl => ?_)
                refine lv_goto (tgt := 162) hx hb dX9_port_213 (by decide) ?_
                have hCC_111 := yMI.c hId_109
                have T_112 : ((v_81 + 1) : Int32).toInt = (v_81 : Int32).toInt + 1 := tadd rfl (rfl : (v_81 : Int32).toInt = (v_81 : Int32).toInt) (by decide +kernel : (1 : Int32).toInt = 1) (by omega) (by omega)
                exact hnext_83 (v_81 + 1, d_109) _ _ ls (xup c_85) ⟨hP, hD, hS, hgd_109, hPod_109, hfd_109, hId_109, hL0d_109, hK0d_109, (show (0 ≤ (((v_81 + 1)) : Int32).toInt) from by have hq0_ : (0 : Int32).toInt = 0 := (by decide +kernel); omega), lv_sub hl [0, 1, 2] rfl⟩
            · refine lv_aload_n hx hb dX9_port_70 rfl (lv_at hl 1 rfl) ?_
              refine yget (ci := 9) (k := 11) (v := .ref (S.2.2.1 h0 11)) (C := RX9) (T := TX9) (N := 67) C0 hK hP hm_h0 hk_h0 (by decide) rfl inlX9 (by decide) mW116 (fun _ h9 => h9) rfl dX9_port_71 ?_
              obtain ⟨hmy_113, hky_113⟩ := ySh.f9_11 hSh _ hm_h0 hk_h0
              refine lv_bipush (v := 12) hx hb dX9_port_74 (by decide) ?_
              refine lv_iload_n hx hb dX9_port_76 rfl (lv_at hl 2 rfl) ?_
              refine lv_imul hx hb dX9_port_77 ?_
              refine lv_topi (fun z_114 ez_114 => ?_)
              refine lv_iload hx hb dX9_port_78 (lv_at hl 0 rfl) ?_
              refine lv_iadd hx hb dX9_port_80 ?_
              refine lv_topi (fun z_115 ez_115 => ?_)
              refine lv_lconst (v := 0) hx hb dX9_port_81 (by decide) ?_
              have hCC_116 := yMI.c hId_32
              have F_117 := fnlt (rfl : (p0 : Int32).toInt = (p0 : Int32).toInt) (by decide +kernel : (0 : Int32).toInt = 0) c_2
              have F_118 := fnle (by decide +kernel : (8 : Int32).toInt = 8) (rfl : (p0 : Int32).toInt = (p0 : Int32).toInt) c_9
              have F_119 := fnlt (rfl : (p2 : Int32).toInt = (p2 : Int32).toInt) (by decide +kernel : (1 : Int32).toInt = 1) c_17
              have F_120 := fle (rfl : (p2 : Int32).toInt = (p2 : Int32).toInt) (by decide +kernel : (90 : Int32).toInt = 90) c_26
              have F_121 := feq (rfl : (r_27 : Int32).toInt = (r_27 : Int32).toInt) (by decide +kernel : (0 : Int32).toInt = 0) c_28
              have F_122 := fnle (by decide +kernel : (12 : Int32).toInt = 12) (rfl : (v_31 : Int32).toInt = (v_31 : Int32).toInt) c_35
              have T_124 : (z_114 : Int32).toInt = 12 * (p0 : Int32).toInt := tmul ez_114 (by decide +kernel : (12 : Int32).toInt = 12) (rfl : (p0 : Int32).toInt = (p0 : Int32).toInt) (by omega) (by omega)
              have T_123 : (z_115 : Int32).toInt = (z_114 : Int32).toInt + (v_31 : Int32).toInt := tadd ez_115 (rfl : (z_114 : Int32).toInt = (z_114 : Int32).toInt) (rfl : (v_31 : Int32).toInt = (v_31 : Int32).toInt) (by omega) (by omega)
              refine yastJ C0 hK hP hD hS hmy_113 hky_113 (by decide) rfl 4 rfl (xinT 96 rfl (by omega) (by omega)) dX9_port_82 (fun H locs hP hD hS => ?_)
              obtain ⟨d_125, ed_125⟩ : ∃ z : yD, z = ye d_32 (S.2.2.1 h0 11) (z_115 : Int32).toNatClampNeg 0 := ⟨_, rfl⟩
              rw [← ed_125] at hP hD
              have hgd_125 : yAg S [9, 41, 42, 43, 44, 45, 46, 47, 69] d d_125 := by rw [ed_125]; exact yAg.e hgd_32 (by rw [hky_113]; decide)
              have hsd_125 : yAg S [41] d_32 d_125 := by rw [ed_125]; exact yAg.e yAg.rf (by rw [hky_113]; decide)
              have hPod_125 : yPo S d_125 := by rw [ed_125]; exact hPod_32
              have hfd_125 : yK [1, 38] d d_125 h0 := yK.ag hfd_32 (show yAg S [41] d_32 d_125 from by rw [ed_125]; exact yAg.e yAg.rf (by rw [hky_113]; decide)) (by rw [hk_h0]; decide)
              have hL0d_125 : yAg S [41] d_30 d_125 := by rw [ed_125]; exact yAg.e hLJd_32 (by rw [hky_113]; decide)
              have hK0d_125 : yK [] d_30 d_125 h0 := yK.ag hKJd_32 (show yAg S [41] d_32 d_125 from by rw [ed_125]; exact yAg.e yAg.rf (by rw [hky_113]; decide)) (by rw [hk_h0]; decide)
              have T_126 : (0 : Int64).toInt = 0 := by decide +kernel
              have hId_125 : yMI S d_125 h0 := by rw [ed_125]; exact yMI.w11 hId_32 hSh hm_h0 hk_h0 (yBp.up (yMI.bp_ hId_32) (fun p hp e => by have e_ : (z_115 : Int32).toInt.toNat = 12 * p + 1 := e; refine ⟨?_, ?_⟩ <;> omega) (fun p hp e => by have e_ : (z_115 : Int32).toInt.toNat = 12 * p + 2 := e; refine ⟨?_, ?_⟩ <;> omega) (fun p hp e => by have e_ : (z_115 : Int32).toInt.toNat = 12 * p + 6 := e; refine ⟨?_, ?_⟩ <;> omega))
              have hE0d_125 : (d_125.1 h0 0).toInt = (d_32.1 h0 0).toInt := congrArg Int32.toInt ((yK.ag (F := []) yK.rf (show yAg S [41] d_32 d_125 from by rw [ed_125]; exact yAg.e yAg.rf (by rw [hky_113]; decide)) (by rw [hk_h0]; decide)) 0 (by decide))
              have hE1d_125 : (d_125.1 h0 1).toInt = (d_32.1 h0 1).toInt := congrArg Int32.toInt ((yK.ag (F := []) yK.rf (show yAg S [41] d_32 d_125 from by rw [ed_125]; exact yAg.e yAg.rf (by rw [hky_113]; decide)) (by rw [hk_h0]; decide)) 1 (by decide))
              have hE2d_125 : (d_125.1 h0 2).toInt = (d_32.1 h0 2).toInt := congrArg Int32.toInt ((yK.ag (F := []) yK.rf (show yAg S [41] d_32 d_125 from by rw [ed_125]; exact yAg.e yAg.rf (by rw [hky_113]; decide)) (by rw [hk_h0]; decide)) 2 (by decide))
              have hE3d_125 : (d_125.1 h0 3).toInt = (d_32.1 h0 3).toInt := congrArg Int32.toInt ((yK.ag (F := []) yK.rf (show yAg S [41] d_32 d_125 from by rw [ed_125]; exact yAg.e yAg.rf (by rw [hky_113]; decide)) (by rw [hk_h0]; decide)) 3 (by decide))
              have hE63d_125 : (d_125.1 h0 63).toInt = (d_32.1 h0 63).toInt := congrArg Int32.toInt ((yK.ag (F := []) yK.rf (show yAg S [41] d_32 d_125 from by rw [ed_125]; exact yAg.e yAg.rf (by rw [hky_113]; decide)) (by rw [hk_h0]; decide)) 63 (by decide))
              refine lv_iinc (v := v_31 + 1) (lv' := [(5, .int (v_31 + 1)), (0, .ref h0), (1, .int p0), (2, .int p1), (3, .int p2)]) hx hb dX9_port_83 hl (k := 0) rfl rfl (by decide) rfl (fun ls hl => ?_)
              refine lv_goto (tgt := 63) hx hb dX9_port_86 (by decide) ?_
              have hCC_128 := yMI.c hId_125
              exact hnext_33 (v_31 + 1, d_125) _ _ ls (xup c_35) ⟨hP, hD, hS, hgd_125, hPod_125, hfd_125, hId_125, hL0d_125, hK0d_125, (zPz.step hex_34 c_35 (by omega) ed_125), lv_sub hl [0, 1, 2, 3, 4] rfl⟩
          · refine lv_aload_n hx hb dX9_port_42 rfl (lv_at hl 1 rfl) ?_
            refine lv_iload hx hb dX9_port_43 (lv_at hl 0 rfl) ?_
            have F_129 := fnlt (rfl : (p0 : Int32).toInt = (p0 : Int32).toInt) (by decide +kernel : (0 : Int32).toInt = 0) c_2
            have F_130 := fnle (by decide +kernel : (8 : Int32).toInt = 8) (rfl : (p0 : Int32).toInt = (p0 : Int32).toInt) c_9
            have F_131 := fnlt (rfl : (p2 : Int32).toInt = (p2 : Int32).toInt) (by decide +kernel : (1 : Int32).toInt = 1) c_17
            have F_132 := fle (rfl : (p2 : Int32).toInt = (p2 : Int32).toInt) (by decide +kernel : (90 : Int32).toInt = 90) c_26
            have F_133 := fne (rfl : (r_27 : Int32).toInt = (r_27 : Int32).toInt) (by decide +kernel : (0 : Int32).toInt = 0) c_28
            refine yVwi (As := [.int r_27]) (rest := []) C0 (g_X9_no l G S d_1 h0 r_27 hSh hPod_1 hm_h0 hk_h0 (by refine ⟨?_, ?_⟩ <;> omega)) ok_X9_no (mW177 : Cond.methodLink RX9 168 yX9_no ∈ wsT) ⟨Nat.le_of_ble_eq_true rfl, Nat.le_of_ble_eq_true rfl⟩ hP hD hS hA hK hN hm_h0 hk_h0 (by decide) rfl rfl rfl hl.1 rfl (Nat.le_of_ble_eq_true rfl) ⟨Nat.le_of_ble_eq_true rfl, Nat.le_of_ble_eq_true rfl⟩ dX9_port_45 (fun r_134 d_135 H locs hr_134 hP hD hS => ?_)
            obtain ⟨hgad_135, hpad_135, hfad_135, hxd_135⟩ := hr_134
            have hfd_135 : yK [1, 38] d d_135 h0 := yK.tr hfd_1 hfad_135 (by decide)
            have hE0d_135 : (d_135.1 h0 0).toInt = (d_1.1 h0 0).toInt := congrArg Int32.toInt (hfad_135 0 (by decide))
            have hE1d_135 : (d_135.1 h0 1).toInt = (d_1.1 h0 1).toInt := congrArg Int32.toInt (hfad_135 1 (by decide))
            have hE2d_135 : (d_135.1 h0 2).toInt = (d_1.1 h0 2).toInt := congrArg Int32.toInt (hfad_135 2 (by decide))
            have hE3d_135 : (d_135.1 h0 3).toInt = (d_1.1 h0 3).toInt := congrArg Int32.toInt (hfad_135 3 (by decide))
            have hE63d_135 : (d_135.1 h0 63).toInt = (d_1.1 h0 63).toInt := congrArg Int32.toInt (hfad_135 63 (by decide))
            have hId_135 : yMI S d_135 h0 := yMI.ag hId_1 hSh hm_h0 hk_h0 hgad_135 hfad_135 (by decide) (by decide)
            have hgd_135 : yAg S [9, 41, 42, 43, 44, 45, 46, 47, 69] d d_135 := yAg.tr hgd_1 hgad_135 (by first | decide | exact fun _ h => h)
            have hPod_135 : yPo S d_135 := hpad_135 hPod_1
            refine lv_pop hx hb dX9_port_48 rfl ?_
            refine lv_iconst (v := 0) hx hb dX9_port_49 (by decide) ?_
            have hCC_136 := yMI.c hId_135
            exact W.zret (v := 0) (ty := .boolean) hx hb hr rfl (fun t ht hW => ⟨⟨0, d_135, rfl, ⟨hgd_135, (fun _ => hPod_135), hfd_135, ⟨hId_135, Or.inl ⟨by have h0_ : (0 : Int32).toInt = 0 := (by decide +kernel); omega, by omega, (zPf.tr (zPf.eq (hsd_1 _ (by rw [(ySh.f9_11 hSh h0 hm_h0 hk_h0).2]; decide)).2.2.2.2) (zPf.eq (hgad_135 _ (by rw [(ySh.f9_11 hSh h0 hm_h0 hk_h0).2]; decide)).2.2.2.2))⟩⟩⟩, by rw [ht]; exact hP, hD⟩, hS.F ht⟩) hS.2.2 dX9_port_50
        · refine lv_iconst (v := 1) hx hb dX9_port_26 (by decide) ?_
          refine lv_goto (tgt := 35) hx hb dX9_port_27 (by decide) ?_
          refine lv_istore (lv' := [(4, .int 1), (0, .ref h0), (1, .int p0), (2, .int p1), (3, .int p2)]) hx hb dX9_port_35 hl (by decide) rfl (fun ls hl => ?_)
          refine lv_iload hx hb dX9_port_37 (lv_at hl 0 rfl) ?_
          refine lv_if_eq (tgt := 51) hx hb dX9_port_39 (by decide) (fun c_137 => absurd c_137 (by decide +kernel)) (fun c_137 => ?_)
          refine lv_aload_n hx hb dX9_port_42 rfl (lv_at hl 1 rfl) ?_
          refine lv_iload hx hb dX9_port_43 (lv_at hl 0 rfl) ?_
          refine yVwi (As := [.int 1]) (rest := []) C0 (g_X9_no l G S d_1 h0 1 hSh hPod_1 hm_h0 hk_h0 (by decide +kernel)) ok_X9_no (mW177 : Cond.methodLink RX9 168 yX9_no ∈ wsT) ⟨Nat.le_of_ble_eq_true rfl, Nat.le_of_ble_eq_true rfl⟩ hP hD hS hA hK hN hm_h0 hk_h0 (by decide) rfl rfl rfl hl.1 rfl (Nat.le_of_ble_eq_true rfl) ⟨Nat.le_of_ble_eq_true rfl, Nat.le_of_ble_eq_true rfl⟩ dX9_port_45 (fun r_138 d_139 H locs hr_138 hP hD hS => ?_)
          obtain ⟨hgad_139, hpad_139, hfad_139, hxd_139⟩ := hr_138
          have hfd_139 : yK [1, 38] d d_139 h0 := yK.tr hfd_1 hfad_139 (by decide)
          have hE0d_139 : (d_139.1 h0 0).toInt = (d_1.1 h0 0).toInt := congrArg Int32.toInt (hfad_139 0 (by decide))
          have hE1d_139 : (d_139.1 h0 1).toInt = (d_1.1 h0 1).toInt := congrArg Int32.toInt (hfad_139 1 (by decide))
          have hE2d_139 : (d_139.1 h0 2).toInt = (d_1.1 h0 2).toInt := congrArg Int32.toInt (hfad_139 2 (by decide))
          have hE3d_139 : (d_139.1 h0 3).toInt = (d_1.1 h0 3).toInt := congrArg Int32.toInt (hfad_139 3 (by decide))
          have hE63d_139 : (d_139.1 h0 63).toInt = (d_1.1 h0 63).toInt := congrArg Int32.toInt (hfad_139 63 (by decide))
          have hId_139 : yMI S d_139 h0 := yMI.ag hId_1 hSh hm_h0 hk_h0 hgad_139 hfad_139 (by decide) (by decide)
          have hgd_139 : yAg S [9, 41, 42, 43, 44, 45, 46, 47, 69] d d_139 := yAg.tr hgd_1 hgad_139 (by first | decide | exact fun _ h => h)
          have hPod_139 : yPo S d_139 := hpad_139 hPod_1
          refine lv_pop hx hb dX9_port_48 rfl ?_
          refine lv_iconst (v := 0) hx hb dX9_port_49 (by decide) ?_
          have hCC_140 := yMI.c hId_139
          have F_141 := fnlt (rfl : (p0 : Int32).toInt = (p0 : Int32).toInt) (by decide +kernel : (0 : Int32).toInt = 0) c_2
          have F_142 := fnle (by decide +kernel : (8 : Int32).toInt = 8) (rfl : (p0 : Int32).toInt = (p0 : Int32).toInt) c_9
          have F_143 := fnlt (rfl : (p2 : Int32).toInt = (p2 : Int32).toInt) (by decide +kernel : (1 : Int32).toInt = 1) c_17
          have F_144 := fnle (rfl : (p2 : Int32).toInt = (p2 : Int32).toInt) (by decide +kernel : (90 : Int32).toInt = 90) c_26
          have F_145 := fne (by decide +kernel : (1 : Int32).toInt = 1) (by decide +kernel : (0 : Int32).toInt = 0) c_137
          exact W.zret (v := 0) (ty := .boolean) hx hb hr rfl (fun t ht hW => ⟨⟨0, d_139, rfl, ⟨hgd_139, (fun _ => hPod_139), hfd_139, ⟨hId_139, Or.inl ⟨by have h0_ : (0 : Int32).toInt = 0 := (by decide +kernel); omega, by omega, (zPf.tr (zPf.eq (hsd_1 _ (by rw [(ySh.f9_11 hSh h0 hm_h0 hk_h0).2]; decide)).2.2.2.2) (zPf.eq (hgad_139 _ (by rw [(ySh.f9_11 hSh h0 hm_h0 hk_h0).2]; decide)).2.2.2.2))⟩⟩⟩, by rw [ht]; exact hP, hD⟩, hS.F ht⟩) hS.2.2 dX9_port_50
