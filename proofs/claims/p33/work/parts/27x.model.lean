theorem dX9_term_0 : decode cX9_term 0 = .ok (.aload_n 0, 1) := by decide +kernel
theorem dX9_term_1 : decode cX9_term 1 = .ok (.iconst 0, 1) := by decide +kernel
theorem dX9_term_2 : decode cX9_term 2 = .ok (.putfield 147, 3) := by decide +kernel
theorem dX9_term_5 : decode cX9_term 5 = .ok (.aload_n 0, 1) := by decide +kernel
theorem dX9_term_6 : decode cX9_term 6 = .ok (.iload_n 1, 1) := by decide +kernel
theorem dX9_term_7 : decode cX9_term 7 = .ok (.iload_n 2, 1) := by decide +kernel
theorem dX9_term_8 : decode cX9_term 8 = .ok (.invokevirtual 171, 3) := by decide +kernel
theorem dX9_term_11 : decode cX9_term 11 = .ok (.istore 7, 2) := by decide +kernel
theorem dX9_term_13 : decode cX9_term 13 = .ok (.iload_n 3, 1) := by decide +kernel
theorem dX9_term_14 : decode cX9_term 14 = .ok (.ifCond .lt 19, 3) := by decide +kernel
theorem dX9_term_17 : decode cX9_term 17 = .ok (.iload_n 3, 1) := by decide +kernel
theorem dX9_term_18 : decode cX9_term 18 = .ok (.iconst 4, 1) := by decide +kernel
theorem dX9_term_19 : decode cX9_term 19 = .ok (.if_icmp .gt 14, 3) := by decide +kernel
theorem dX9_term_22 : decode cX9_term 22 = .ok (.iload 4, 2) := by decide +kernel
theorem dX9_term_24 : decode cX9_term 24 = .ok (.ifCond .lt 9, 3) := by decide +kernel
theorem dX9_term_27 : decode cX9_term 27 = .ok (.iload 4, 2) := by decide +kernel
theorem dX9_term_29 : decode cX9_term 29 = .ok (.iconst 4, 1) := by decide +kernel
theorem dX9_term_30 : decode cX9_term 30 = .ok (.if_icmp .le 7, 3) := by decide +kernel
theorem dX9_term_33 : decode cX9_term 33 = .ok (.iconst 1, 1) := by decide +kernel
theorem dX9_term_34 : decode cX9_term 34 = .ok (.goto 4, 3) := by decide +kernel
theorem dX9_term_37 : decode cX9_term 37 = .ok (.iconst 0, 1) := by decide +kernel
theorem dX9_term_38 : decode cX9_term 38 = .ok (.istore 8, 2) := by decide +kernel
theorem dX9_term_40 : decode cX9_term 40 = .ok (.iload 4, 2) := by decide +kernel
theorem dX9_term_42 : decode cX9_term 42 = .ok (.iconst 1, 1) := by decide +kernel
theorem dX9_term_43 : decode cX9_term 43 = .ok (.if_icmp .ne 41, 3) := by decide +kernel
theorem dX9_term_46 : decode cX9_term 46 = .ok (.iload 8, 2) := by decide +kernel
theorem dX9_term_48 : decode cX9_term 48 = .ok (.ifCond .ne 29, 3) := by decide +kernel
theorem dX9_term_51 : decode cX9_term 51 = .ok (.iload 5, 2) := by decide +kernel
theorem dX9_term_53 : decode cX9_term 53 = .ok (.ifCond .lt 24, 3) := by decide +kernel
theorem dX9_term_56 : decode cX9_term 56 = .ok (.iload 5, 2) := by decide +kernel
theorem dX9_term_58 : decode cX9_term 58 = .ok (.sipush 1440, 3) := by decide +kernel
theorem dX9_term_61 : decode cX9_term 61 = .ok (.if_icmp .gt 16, 3) := by decide +kernel
theorem dX9_term_64 : decode cX9_term 64 = .ok (.iload 6, 2) := by decide +kernel
theorem dX9_term_66 : decode cX9_term 66 = .ok (.ifCond .lt 11, 3) := by decide +kernel
theorem dX9_term_69 : decode cX9_term 69 = .ok (.iload 6, 2) := by decide +kernel
theorem dX9_term_71 : decode cX9_term 71 = .ok (.sipush 1440, 3) := by decide +kernel
theorem dX9_term_74 : decode cX9_term 74 = .ok (.if_icmp .le 7, 3) := by decide +kernel
theorem dX9_term_77 : decode cX9_term 77 = .ok (.iconst 1, 1) := by decide +kernel
theorem dX9_term_78 : decode cX9_term 78 = .ok (.goto 4, 3) := by decide +kernel
theorem dX9_term_81 : decode cX9_term 81 = .ok (.iconst 0, 1) := by decide +kernel
theorem dX9_term_82 : decode cX9_term 82 = .ok (.istore 8, 2) := by decide +kernel
theorem dX9_term_84 : decode cX9_term 84 = .ok (.iload 4, 2) := by decide +kernel
theorem dX9_term_86 : decode cX9_term 86 = .ok (.iconst 3, 1) := by decide +kernel
theorem dX9_term_87 : decode cX9_term 87 = .ok (.if_icmp .ne 26, 3) := by decide +kernel
theorem dX9_term_90 : decode cX9_term 90 = .ok (.iload 8, 2) := by decide +kernel
theorem dX9_term_92 : decode cX9_term 92 = .ok (.ifCond .ne 14, 3) := by decide +kernel
theorem dX9_term_95 : decode cX9_term 95 = .ok (.iload 5, 2) := by decide +kernel
theorem dX9_term_97 : decode cX9_term 97 = .ok (.ifCond .lt 9, 3) := by decide +kernel
theorem dX9_term_100 : decode cX9_term 100 = .ok (.iload 5, 2) := by decide +kernel
theorem dX9_term_102 : decode cX9_term 102 = .ok (.iconst 4, 1) := by decide +kernel
theorem dX9_term_103 : decode cX9_term 103 = .ok (.if_icmp .le 7, 3) := by decide +kernel
theorem dX9_term_106 : decode cX9_term 106 = .ok (.iconst 1, 1) := by decide +kernel
theorem dX9_term_107 : decode cX9_term 107 = .ok (.goto 4, 3) := by decide +kernel
theorem dX9_term_110 : decode cX9_term 110 = .ok (.iconst 0, 1) := by decide +kernel
theorem dX9_term_111 : decode cX9_term 111 = .ok (.istore 8, 2) := by decide +kernel
theorem dX9_term_113 : decode cX9_term 113 = .ok (.iload 4, 2) := by decide +kernel
theorem dX9_term_115 : decode cX9_term 115 = .ok (.iconst 4, 1) := by decide +kernel
theorem dX9_term_116 : decode cX9_term 116 = .ok (.if_icmp .ne 39, 3) := by decide +kernel
theorem dX9_term_119 : decode cX9_term 119 = .ok (.iload 8, 2) := by decide +kernel
theorem dX9_term_121 : decode cX9_term 121 = .ok (.ifCond .ne 27, 3) := by decide +kernel
theorem dX9_term_124 : decode cX9_term 124 = .ok (.iload 5, 2) := by decide +kernel
theorem dX9_term_126 : decode cX9_term 126 = .ok (.ifCond .lt 22, 3) := by decide +kernel
theorem dX9_term_129 : decode cX9_term 129 = .ok (.iload 5, 2) := by decide +kernel
theorem dX9_term_131 : decode cX9_term 131 = .ok (.ldc 174, 2) := by decide +kernel
theorem dX9_term_133 : decode cX9_term 133 = .ok (.if_icmp .gt 15, 3) := by decide +kernel
theorem dX9_term_136 : decode cX9_term 136 = .ok (.iload 6, 2) := by decide +kernel
theorem dX9_term_138 : decode cX9_term 138 = .ok (.ifCond .lt 10, 3) := by decide +kernel
theorem dX9_term_141 : decode cX9_term 141 = .ok (.iload 6, 2) := by decide +kernel
theorem dX9_term_143 : decode cX9_term 143 = .ok (.ldc 174, 2) := by decide +kernel
theorem dX9_term_145 : decode cX9_term 145 = .ok (.if_icmp .le 7, 3) := by decide +kernel
theorem dX9_term_148 : decode cX9_term 148 = .ok (.iconst 1, 1) := by decide +kernel
theorem dX9_term_149 : decode cX9_term 149 = .ok (.goto 4, 3) := by decide +kernel
theorem dX9_term_152 : decode cX9_term 152 = .ok (.iconst 0, 1) := by decide +kernel
theorem dX9_term_153 : decode cX9_term 153 = .ok (.istore 8, 2) := by decide +kernel
theorem dX9_term_155 : decode cX9_term 155 = .ok (.iload 8, 2) := by decide +kernel
theorem dX9_term_157 : decode cX9_term 157 = .ok (.ifCond .eq 6, 3) := by decide +kernel
theorem dX9_term_160 : decode cX9_term 160 = .ok (.iconst 1, 1) := by decide +kernel
theorem dX9_term_161 : decode cX9_term 161 = .ok (.istore 7, 2) := by decide +kernel
theorem dX9_term_163 : decode cX9_term 163 = .ok (.iload 7, 2) := by decide +kernel
theorem dX9_term_165 : decode cX9_term 165 = .ok (.ifCond .eq 12, 3) := by decide +kernel
theorem dX9_term_168 : decode cX9_term 168 = .ok (.aload_n 0, 1) := by decide +kernel
theorem dX9_term_169 : decode cX9_term 169 = .ok (.iload 7, 2) := by decide +kernel
theorem dX9_term_171 : decode cX9_term 171 = .ok (.invokevirtual 168, 3) := by decide +kernel
theorem dX9_term_174 : decode cX9_term 174 = .ok (.pop, 1) := by decide +kernel
theorem dX9_term_175 : decode cX9_term 175 = .ok (.iconst 0, 1) := by decide +kernel
theorem dX9_term_176 : decode cX9_term 176 = .ok (.ireturn, 1) := by decide +kernel
theorem dX9_term_177 : decode cX9_term 177 = .ok (.bipush 60, 2) := by decide +kernel
theorem dX9_term_179 : decode cX9_term 179 = .ok (.iload_n 1, 1) := by decide +kernel
theorem dX9_term_180 : decode cX9_term 180 = .ok (.imul, 1) := by decide +kernel
theorem dX9_term_181 : decode cX9_term 181 = .ok (.iload_n 2, 1) := by decide +kernel
theorem dX9_term_182 : decode cX9_term 182 = .ok (.iadd, 1) := by decide +kernel
theorem dX9_term_183 : decode cX9_term 183 = .ok (.istore 9, 2) := by decide +kernel
theorem dX9_term_185 : decode cX9_term 185 = .ok (.aload_n 0, 1) := by decide +kernel
theorem dX9_term_186 : decode cX9_term 186 = .ok (.getfield 13, 3) := by decide +kernel
theorem dX9_term_189 : decode cX9_term 189 = .ok (.iload 9, 2) := by decide +kernel
theorem dX9_term_191 : decode cX9_term 191 = .ok (.iconst 2, 1) := by decide +kernel
theorem dX9_term_192 : decode cX9_term 192 = .ok (.bastore, 1) := by decide +kernel
theorem dX9_term_193 : decode cX9_term 193 = .ok (.aload_n 0, 1) := by decide +kernel
theorem dX9_term_194 : decode cX9_term 194 = .ok (.getfield 17, 3) := by decide +kernel
theorem dX9_term_197 : decode cX9_term 197 = .ok (.iload 9, 2) := by decide +kernel
theorem dX9_term_199 : decode cX9_term 199 = .ok (.iload_n 3, 1) := by decide +kernel
theorem dX9_term_200 : decode cX9_term 200 = .ok (.i2b, 1) := by decide +kernel
theorem dX9_term_201 : decode cX9_term 201 = .ok (.bastore, 1) := by decide +kernel
theorem dX9_term_202 : decode cX9_term 202 = .ok (.aload_n 0, 1) := by decide +kernel
theorem dX9_term_203 : decode cX9_term 203 = .ok (.getfield 20, 3) := by decide +kernel
theorem dX9_term_206 : decode cX9_term 206 = .ok (.iload 9, 2) := by decide +kernel
theorem dX9_term_208 : decode cX9_term 208 = .ok (.iload 4, 2) := by decide +kernel
theorem dX9_term_210 : decode cX9_term 210 = .ok (.i2b, 1) := by decide +kernel
theorem dX9_term_211 : decode cX9_term 211 = .ok (.bastore, 1) := by decide +kernel
theorem dX9_term_212 : decode cX9_term 212 = .ok (.aload_n 0, 1) := by decide +kernel
theorem dX9_term_213 : decode cX9_term 213 = .ok (.getfield 23, 3) := by decide +kernel
theorem dX9_term_216 : decode cX9_term 216 = .ok (.iload 9, 2) := by decide +kernel
theorem dX9_term_218 : decode cX9_term 218 = .ok (.iload 5, 2) := by decide +kernel
theorem dX9_term_220 : decode cX9_term 220 = .ok (.iastore, 1) := by decide +kernel
theorem dX9_term_221 : decode cX9_term 221 = .ok (.aload_n 0, 1) := by decide +kernel
theorem dX9_term_222 : decode cX9_term 222 = .ok (.getfield 27, 3) := by decide +kernel
theorem dX9_term_225 : decode cX9_term 225 = .ok (.iload 9, 2) := by decide +kernel
theorem dX9_term_227 : decode cX9_term 227 = .ok (.iload 6, 2) := by decide +kernel
theorem dX9_term_229 : decode cX9_term 229 = .ok (.iastore, 1) := by decide +kernel
theorem dX9_term_230 : decode cX9_term 230 = .ok (.aload_n 0, 1) := by decide +kernel
theorem dX9_term_231 : decode cX9_term 231 = .ok (.getfield 30, 3) := by decide +kernel
theorem dX9_term_234 : decode cX9_term 234 = .ok (.iload 9, 2) := by decide +kernel
theorem dX9_term_236 : decode cX9_term 236 = .ok (.iconst 0, 1) := by decide +kernel
theorem dX9_term_237 : decode cX9_term 237 = .ok (.bastore, 1) := by decide +kernel
theorem dX9_term_238 : decode cX9_term 238 = .ok (.aload_n 0, 1) := by decide +kernel
theorem dX9_term_239 : decode cX9_term 239 = .ok (.getfield 33, 3) := by decide +kernel
theorem dX9_term_242 : decode cX9_term 242 = .ok (.iload 9, 2) := by decide +kernel
theorem dX9_term_244 : decode cX9_term 244 = .ok (.iconst 0, 1) := by decide +kernel
theorem dX9_term_245 : decode cX9_term 245 = .ok (.iastore, 1) := by decide +kernel
theorem dX9_term_246 : decode cX9_term 246 = .ok (.iconst 1, 1) := by decide +kernel
theorem dX9_term_247 : decode cX9_term 247 = .ok (.ireturn, 1) := by decide +kernel
set_option maxHeartbeats 4000000 in
set_option maxRecDepth 100000 in
theorem g_X9_term (l : Launch) (G : xG) (S : yS) (d : yD) (h0 : Nat) (p0 : Int32) (p1 : Int32) (p2 : Int32) (p3 : Int32) (p4 : Int32) (p5 : Int32) (hSh : ySh S) (hPo : yPo S d) (hm_h0 : h0 ∈ S.1) (hk_h0 : S.2.1 h0 = 9) (hI : yMI S d h0) : xWi l G yX9_term cX9_term 10 (some .boolean) 2 43 0 0 [.ref h0, .int p0, .int p1, .int p2, .int p3, .int p4, .int p5] (yW G S d) (fun r (u : yD) => yAg S [9, 34, 35, 36, 37, 38, 39, 40, 69] d u ∧ (yPo S d → yPo S u) ∧ yK [38] d u h0 ∧ (yMI S u h0 ∧ ((r.toInt = 0 ∧ ¬ (((0 ≤ p0.toInt ∧ p0.toInt ≤ 39 ∧ p0.toInt < (d.1 h0 0).toInt) ∧ 0 ≤ p1.toInt ∧ p1.toInt ≤ 59) ∧ (0 ≤ p2.toInt ∧ p2.toInt ≤ 4 ∧ 0 ≤ p3.toInt ∧ p3.toInt ≤ 4 ∧ (p3.toInt = 1 → 0 ≤ p4.toInt ∧ p4.toInt ≤ 1440 ∧ 0 ≤ p5.toInt ∧ p5.toInt ≤ 1440) ∧ (p3.toInt = 3 → 0 ≤ p4.toInt ∧ p4.toInt ≤ 4) ∧ (p3.toInt = 4 → 0 ≤ p4.toInt ∧ p4.toInt ≤ 129600 ∧ 0 ≤ p5.toInt ∧ p5.toInt ≤ 129600))) ∧ zTr S u h0 (fun s => d.2.2.2.1 (S.2.2.1 h0 s))) ∨ (r.toInt = 1 ∧ (((0 ≤ p0.toInt ∧ p0.toInt ≤ 39 ∧ p0.toInt < (d.1 h0 0).toInt) ∧ 0 ≤ p1.toInt ∧ p1.toInt ≤ 59) ∧ (0 ≤ p2.toInt ∧ p2.toInt ≤ 4 ∧ 0 ≤ p3.toInt ∧ p3.toInt ≤ 4 ∧ (p3.toInt = 1 → 0 ≤ p4.toInt ∧ p4.toInt ≤ 1440 ∧ 0 ≤ p5.toInt ∧ p5.toInt ≤ 1440) ∧ (p3.toInt = 3 → 0 ≤ p4.toInt ∧ p4.toInt ≤ 4) ∧ (p3.toInt = 4 → 0 ≤ p4.toInt ∧ p4.toInt ≤ 129600 ∧ 0 ≤ p5.toInt ∧ p5.toInt ≤ 129600))) ∧ zTr S u h0 (fun s => upd (d.2.2.2.1 (S.2.2.1 h0 s)) (60 * p0.toInt.toNat + p1.toInt.toNat) (([(vp_nar .byte 2), (vp_nar .byte p2.toInt8.toInt32), (vp_nar .byte p3.toInt8.toInt32), p4, p5, (vp_nar .byte 0), 0] : List Int32).getD (s - 4) 0)))))) (fun u => yW G S u) := by
  intro sz
  refine xstart (by decide) (Nat.le_of_ble_eq_true rfl) (fun p e s m args below meth c ls C0 hr hlocks hin hsz hP hK hD hN hl => ?_)
  obtain ⟨hx, hb, hml, hown, htl⟩ := id C0
  subst hsz
  have hD := hD.self (sz := s.heap.size)
  generalize hAe : va_A (yW G S d) s.heap.size = A at hD ⊢
  have hA : ∀ q : Nat, s.heap.size ≤ q → A q := fun q h => by rw [← hAe]; exact Or.inr h
  have hS : va_S A s.heap s.heap [] := va_S.rf
  have hg0 : yAg S [9, 34, 35, 36, 37, 38, 39, 40, 69] d d := yAg.rf
  have hl : lv_has ls 10 [(0, .ref h0), (1, .int p0), (2, .int p1), (3, .int p2), (4, .int p3), (5, .int p4), (6, .int p5)] := hl
  refine lv_aload_n hx hb dX9_term_0 rfl (lv_at hl 0 rfl) ?_
  refine lv_iconst (v := 0) hx hb dX9_term_1 (by decide) ?_
  refine yputI (ci := 9) (k := 38) (ty := .int) (C := RX9) (T := TX9) (N := 67) C0 hK hP hD hS hm_h0 hk_h0 (by decide) rfl inlX9 tyX9 tyX9_ok nmX9 (by decide) mW175 (fun _ h9 => h9) rfl (by decide +kernel) rfl rfl (Nat.le_of_ble_eq_true rfl) ysi_9_38 dX9_term_2 (fun H locs hP hD hS => ?_)
  obtain ⟨d_1, ed_1⟩ : ∃ z : yD, z = yi d h0 38 0 := ⟨_, rfl⟩
  rw [← ed_1] at hP hD
  have hgd_1 : yAg S [9, 34, 35, 36, 37, 38, 39, 40, 69] d d_1 := by rw [ed_1]; exact yAg.i hg0 (by rw [hk_h0]; decide)
  have hsd_1 : yAg S [9] d d_1 := by rw [ed_1]; exact yAg.i yAg.rf (by rw [hk_h0]; decide)
  have hPod_1 : yPo S d_1 := by rw [ed_1]; exact yPo.i hPo hk_h0 (Or.inl rfl)
  have hfd_1 : yK [38] d d_1 h0 := by rw [ed_1]; exact yK.i yK.rf (by decide)
  have hId_1 : yMI S d_1 h0 := yMI.ag hI hSh hm_h0 hk_h0 (show yAg S [9] d d_1 from by rw [ed_1]; exact yAg.i yAg.rf (by rw [hk_h0]; decide)) (show yK [38] d d_1 h0 from by rw [ed_1]; exact yK.i yK.rf (by decide)) (by decide) (by decide)
  have hE0d_1 : (d_1.1 h0 0).toInt = (d.1 h0 0).toInt := congrArg Int32.toInt ((show yK [38] d d_1 h0 from by rw [ed_1]; exact yK.i yK.rf (by decide)) 0 (by decide))
  have hE1d_1 : (d_1.1 h0 1).toInt = (d.1 h0 1).toInt := congrArg Int32.toInt ((show yK [38] d d_1 h0 from by rw [ed_1]; exact yK.i yK.rf (by decide)) 1 (by decide))
  have hE2d_1 : (d_1.1 h0 2).toInt = (d.1 h0 2).toInt := congrArg Int32.toInt ((show yK [38] d d_1 h0 from by rw [ed_1]; exact yK.i yK.rf (by decide)) 2 (by decide))
  have hE3d_1 : (d_1.1 h0 3).toInt = (d.1 h0 3).toInt := congrArg Int32.toInt ((show yK [38] d d_1 h0 from by rw [ed_1]; exact yK.i yK.rf (by decide)) 3 (by decide))
  have hE63d_1 : (d_1.1 h0 63).toInt = (d.1 h0 63).toInt := congrArg Int32.toInt ((show yK [38] d d_1 h0 from by rw [ed_1]; exact yK.i yK.rf (by decide)) 63 (by decide))
  refine lv_aload_n hx hb dX9_term_5 rfl (lv_at hl 0 rfl) ?_
  refine lv_iload_n hx hb dX9_term_6 rfl (lv_at hl 1 rfl) ?_
  refine lv_iload_n hx hb dX9_term_7 rfl (lv_at hl 2 rfl) ?_
  refine yVri (As := [.int p0, .int p1]) (rest := []) C0 (g_X9_placeWhy l G S d_1 h0 p0 p1 hSh hm_h0 hk_h0) ok_X9_placeWhy (mW222 : Cond.methodLink RX9 171 yX9_placeWhy ∈ wsT) ⟨Nat.le_of_ble_eq_true rfl, Nat.le_of_ble_eq_true rfl⟩ hP hD hK hN hm_h0 hk_h0 (by decide) rfl rfl rfl hl.1 rfl (Nat.le_of_ble_eq_true rfl) ⟨Nat.le_of_ble_eq_true rfl, Nat.le_of_ble_eq_true rfl⟩ dX9_term_8 (fun r_2 hr_2 => ?_)
  refine lv_istore (lv' := [(7, .int r_2), (0, .ref h0), (1, .int p0), (2, .int p1), (3, .int p2), (4, .int p3), (5, .int p4), (6, .int p5)]) hx hb dX9_term_11 hl (by decide) rfl (fun ls hl => ?_)
  refine lv_iload_n hx hb dX9_term_13 rfl (lv_at hl 4 rfl) ?_
  refine lv_if_lt (tgt := 33) hx hb dX9_term_14 (by decide) (fun c_3 => ?_) (fun c_3 => ?_)
  · refine lv_iconst (v := 1) hx hb dX9_term_33 (by decide) ?_
    refine lv_goto (tgt := 38) hx hb dX9_term_34 (by decide) ?_
    refine lv_istore (lv' := [(8, .int 1), (7, .int r_2), (0, .ref h0), (1, .int p0), (2, .int p1), (3, .int p2), (4, .int p3), (5, .int p4), (6, .int p5)]) hx hb dX9_term_38 hl (by decide) rfl (fun ls hl => ?_)
    refine lv_iload hx hb dX9_term_40 (lv_at hl 6 rfl) ?_
    refine lv_iconst (v := 1) hx hb dX9_term_42 (by decide) ?_
    refine lv_icmp_ne (tgt := 84) hx hb dX9_term_43 (by decide) (fun c_4 => ?_) (fun c_4 => ?_)
    · refine lv_iload hx hb dX9_term_84 (lv_at hl 6 rfl) ?_
      refine lv_iconst (v := 3) hx hb dX9_term_86 (by decide) ?_
      refine lv_icmp_ne (tgt := 113) hx hb dX9_term_87 (by decide) (fun c_5 => ?_) (fun c_5 => ?_)
      · refine lv_iload hx hb dX9_term_113 (lv_at hl 6 rfl) ?_
        refine lv_iconst (v := 4) hx hb dX9_term_115 (by decide) ?_
        refine lv_icmp_ne (tgt := 155) hx hb dX9_term_116 (by decide) (fun c_6 => ?_) (fun c_6 => ?_)
        · refine lv_iload hx hb dX9_term_155 (lv_at hl 0 rfl) ?_
          refine lv_if_eq (tgt := 163) hx hb dX9_term_157 (by decide) (fun c_7 => absurd c_7 (by decide +kernel)) (fun c_7 => ?_)
          refine lv_iconst (v := 1) hx hb dX9_term_160 (by decide) ?_
          refine lv_istore (lv' := [(7, .int 1), (8, .int 1), (0, .ref h0), (1, .int p0), (2, .int p1), (3, .int p2), (4, .int p3), (5, .int p4), (6, .int p5)]) hx hb dX9_term_161 hl (by decide) rfl (fun ls hl => ?_)
          refine lv_iload hx hb dX9_term_163 (lv_at hl 0 rfl) ?_
          refine lv_if_eq (tgt := 177) hx hb dX9_term_165 (by decide) (fun c_8 => absurd c_8 (by decide +kernel)) (fun c_8 => ?_)
          refine lv_aload_n hx hb dX9_term_168 rfl (lv_at hl 2 rfl) ?_
          refine lv_iload hx hb dX9_term_169 (lv_at hl 0 rfl) ?_
          refine yVwi (As := [.int 1]) (rest := []) C0 (g_X9_no l G S d_1 h0 1 hSh hPod_1 hm_h0 hk_h0 (by decide +kernel)) ok_X9_no (mW177 : Cond.methodLink RX9 168 yX9_no ∈ wsT) ⟨Nat.le_of_ble_eq_true rfl, Nat.le_of_ble_eq_true rfl⟩ hP hD hS hA hK hN hm_h0 hk_h0 (by decide) rfl rfl rfl hl.1 rfl (Nat.le_of_ble_eq_true rfl) ⟨Nat.le_of_ble_eq_true rfl, Nat.le_of_ble_eq_true rfl⟩ dX9_term_171 (fun r_9 d_10 H locs hr_9 hP hD hS => ?_)
          obtain ⟨hgad_10, hpad_10, hfad_10, hxd_10⟩ := hr_9
          have hfd_10 : yK [38] d d_10 h0 := yK.tr hfd_1 hfad_10 (by decide)
          have hE0d_10 : (d_10.1 h0 0).toInt = (d_1.1 h0 0).toInt := congrArg Int32.toInt (hfad_10 0 (by decide))
          have hE1d_10 : (d_10.1 h0 1).toInt = (d_1.1 h0 1).toInt := congrArg Int32.toInt (hfad_10 1 (by decide))
          have hE2d_10 : (d_10.1 h0 2).toInt = (d_1.1 h0 2).toInt := congrArg Int32.toInt (hfad_10 2 (by decide))
          have hE3d_10 : (d_10.1 h0 3).toInt = (d_1.1 h0 3).toInt := congrArg Int32.toInt (hfad_10 3 (by decide))
          have hE63d_10 : (d_10.1 h0 63).toInt = (d_1.1 h0 63).toInt := congrArg Int32.toInt (hfad_10 63 (by decide))
          have hId_10 : yMI S d_10 h0 := yMI.ag hId_1 hSh hm_h0 hk_h0 hgad_10 hfad_10 (by decide) (by decide)
          have hgd_10 : yAg S [9, 34, 35, 36, 37, 38, 39, 40, 69] d d_10 := yAg.tr hgd_1 hgad_10 (by first | decide | exact fun _ h => h)
          have hPod_10 : yPo S d_10 := hpad_10 hPod_1
          refine lv_pop hx hb dX9_term_174 rfl ?_
          refine lv_iconst (v := 0) hx hb dX9_term_175 (by decide) ?_
          have hCC_11 := yMI.c hId_10
          have F_12 := flt (rfl : (p2 : Int32).toInt = (p2 : Int32).toInt) (by decide +kernel : (0 : Int32).toInt = 0) c_3
          have F_13 := fne (rfl : (p3 : Int32).toInt = (p3 : Int32).toInt) (by decide +kernel : (1 : Int32).toInt = 1) c_4
          have F_14 := fne (rfl : (p3 : Int32).toInt = (p3 : Int32).toInt) (by decide +kernel : (3 : Int32).toInt = 3) c_5
          have F_15 := fne (rfl : (p3 : Int32).toInt = (p3 : Int32).toInt) (by decide +kernel : (4 : Int32).toInt = 4) c_6
          have F_16 := fne (by decide +kernel : (1 : Int32).toInt = 1) (by decide +kernel : (0 : Int32).toInt = 0) c_7
          have F_17 := fne (by decide +kernel : (1 : Int32).toInt = 1) (by decide +kernel : (0 : Int32).toInt = 0) c_8
          exact W.zret (v := 0) (ty := .boolean) hx hb hr rfl (fun t ht hW => ⟨⟨0, d_10, rfl, ⟨hgd_10, (fun _ => hPod_10), hfd_10, ⟨hId_10, Or.inl ⟨by have h0_ : (0 : Int32).toInt = 0 := (by decide +kernel); omega, by omega, (zTr.ag (zTr.ag zTr.rf hSh hm_h0 hk_h0 hsd_1 (by decide)) hSh hm_h0 hk_h0 hgad_10 (by decide))⟩⟩⟩, by rw [ht]; exact hP, hD⟩, hS.F ht⟩) hS.2.2 dX9_term_176
        · refine lv_iload hx hb dX9_term_119 (lv_at hl 0 rfl) ?_
          refine lv_if_ne (tgt := 148) hx hb dX9_term_121 (by decide) (fun c_18 => ?_) (fun c_18 => absurd c_18 (by decide +kernel))
          refine lv_iconst (v := 1) hx hb dX9_term_148 (by decide) ?_
          refine lv_goto (tgt := 153) hx hb dX9_term_149 (by decide) ?_
          refine lv_istore (lv' := [(8, .int 1), (7, .int r_2), (0, .ref h0), (1, .int p0), (2, .int p1), (3, .int p2), (4, .int p3), (5, .int p4), (6, .int p5)]) hx hb dX9_term_153 hl (by decide) rfl (fun ls hl => ?_)
          refine lv_iload hx hb dX9_term_155 (lv_at hl 0 rfl) ?_
          refine lv_if_eq (tgt := 163) hx hb dX9_term_157 (by decide) (fun c_19 => absurd c_19 (by decide +kernel)) (fun c_19 => ?_)
          refine lv_iconst (v := 1) hx hb dX9_term_160 (by decide) ?_
          refine lv_istore (lv' := [(7, .int 1), (8, .int 1), (0, .ref h0), (1, .int p0), (2, .int p1), (3, .int p2), (4, .int p3), (5, .int p4), (6, .int p5)]) hx hb dX9_term_161 hl (by decide) rfl (fun ls hl => ?_)
          refine lv_iload hx hb dX9_term_163 (lv_at hl 0 rfl) ?_
          refine lv_if_eq (tgt := 177) hx hb dX9_term_165 (by decide) (fun c_20 => absurd c_20 (by decide +kernel)) (fun c_20 => ?_)
          refine lv_aload_n hx hb dX9_term_168 rfl (lv_at hl 2 rfl) ?_
          refine lv_iload hx hb dX9_term_169 (lv_at hl 0 rfl) ?_
          refine yVwi (As := [.int 1]) (rest := []) C0 (g_X9_no l G S d_1 h0 1 hSh hPod_1 hm_h0 hk_h0 (by decide +kernel)) ok_X9_no (mW177 : Cond.methodLink RX9 168 yX9_no ∈ wsT) ⟨Nat.le_of_ble_eq_true rfl, Nat.le_of_ble_eq_true rfl⟩ hP hD hS hA hK hN hm_h0 hk_h0 (by decide) rfl rfl rfl hl.1 rfl (Nat.le_of_ble_eq_true rfl) ⟨Nat.le_of_ble_eq_true rfl, Nat.le_of_ble_eq_true rfl⟩ dX9_term_171 (fun r_21 d_22 H locs hr_21 hP hD hS => ?_)
          obtain ⟨hgad_22, hpad_22, hfad_22, hxd_22⟩ := hr_21
          have hfd_22 : yK [38] d d_22 h0 := yK.tr hfd_1 hfad_22 (by decide)
          have hE0d_22 : (d_22.1 h0 0).toInt = (d_1.1 h0 0).toInt := congrArg Int32.toInt (hfad_22 0 (by decide))
          have hE1d_22 : (d_22.1 h0 1).toInt = (d_1.1 h0 1).toInt := congrArg Int32.toInt (hfad_22 1 (by decide))
          have hE2d_22 : (d_22.1 h0 2).toInt = (d_1.1 h0 2).toInt := congrArg Int32.toInt (hfad_22 2 (by decide))
          have hE3d_22 : (d_22.1 h0 3).toInt = (d_1.1 h0 3).toInt := congrArg Int32.toInt (hfad_22 3 (by decide))
          have hE63d_22 : (d_22.1 h0 63).toInt = (d_1.1 h0 63).toInt := congrArg Int32.toInt (hfad_22 63 (by decide))
          have hId_22 : yMI S d_22 h0 := yMI.ag hId_1 hSh hm_h0 hk_h0 hgad_22 hfad_22 (by decide) (by decide)
          have hgd_22 : yAg S [9, 34, 35, 36, 37, 38, 39, 40, 69] d d_22 := yAg.tr hgd_1 hgad_22 (by first | decide | exact fun _ h => h)
          have hPod_22 : yPo S d_22 := hpad_22 hPod_1
          refine lv_pop hx hb dX9_term_174 rfl ?_
          refine lv_iconst (v := 0) hx hb dX9_term_175 (by decide) ?_
          have hCC_23 := yMI.c hId_22
          have F_24 := flt (rfl : (p2 : Int32).toInt = (p2 : Int32).toInt) (by decide +kernel : (0 : Int32).toInt = 0) c_3
          have F_25 := fne (rfl : (p3 : Int32).toInt = (p3 : Int32).toInt) (by decide +kernel : (1 : Int32).toInt = 1) c_4
          have F_26 := fne (rfl : (p3 : Int32).toInt = (p3 : Int32).toInt) (by decide +kernel : (3 : Int32).toInt = 3) c_5
          have F_27 := feq (rfl : (p3 : Int32).toInt = (p3 : Int32).toInt) (by decide +kernel : (4 : Int32).toInt = 4) c_6
          have F_28 := fne (by decide +kernel : (1 : Int32).toInt = 1) (by decide +kernel : (0 : Int32).toInt = 0) c_18
          have F_29 := fne (by decide +kernel : (1 : Int32).toInt = 1) (by decide +kernel : (0 : Int32).toInt = 0) c_19
          have F_30 := fne (by decide +kernel : (1 : Int32).toInt = 1) (by decide +kernel : (0 : Int32).toInt = 0) c_20
          exact W.zret (v := 0) (ty := .boolean) hx hb hr rfl (fun t ht hW => ⟨⟨0, d_22, rfl, ⟨hgd_22, (fun _ => hPod_22), hfd_22, ⟨hId_22, Or.inl ⟨by have h0_ : (0 : Int32).toInt = 0 := (by decide +kernel); omega, by omega, (zTr.ag (zTr.ag zTr.rf hSh hm_h0 hk_h0 hsd_1 (by decide)) hSh hm_h0 hk_h0 hgad_22 (by decide))⟩⟩⟩, by rw [ht]; exact hP, hD⟩, hS.F ht⟩) hS.2.2 dX9_term_176
      · refine lv_iload hx hb dX9_term_90 (lv_at hl 0 rfl) ?_
        refine lv_if_ne (tgt := 106) hx hb dX9_term_92 (by decide) (fun c_31 => ?_) (fun c_31 => absurd c_31 (by decide +kernel))
        refine lv_iconst (v := 1) hx hb dX9_term_106 (by decide) ?_
        refine lv_goto (tgt := 111) hx hb dX9_term_107 (by decide) ?_
        refine lv_istore (lv' := [(8, .int 1), (7, .int r_2), (0, .ref h0), (1, .int p0), (2, .int p1), (3, .int p2), (4, .int p3), (5, .int p4), (6, .int p5)]) hx hb dX9_term_111 hl (by decide) rfl (fun ls hl => ?_)
        refine lv_iload hx hb dX9_term_113 (lv_at hl 6 rfl) ?_
        refine lv_iconst (v := 4) hx hb dX9_term_115 (by decide) ?_
        refine lv_icmp_ne (tgt := 155) hx hb dX9_term_116 (by decide) (fun c_32 => ?_) (fun c_32 => ?_)
        · refine lv_iload hx hb dX9_term_155 (lv_at hl 0 rfl) ?_
          refine lv_if_eq (tgt := 163) hx hb dX9_term_157 (by decide) (fun c_33 => absurd c_33 (by decide +kernel)) (fun c_33 => ?_)
          refine lv_iconst (v := 1) hx hb dX9_term_160 (by decide) ?_
          refine lv_istore (lv' := [(7, .int 1), (8, .int 1), (0, .ref h0), (1, .int p0), (2, .int p1), (3, .int p2), (4, .int p3), (5, .int p4), (6, .int p5)]) hx hb dX9_term_161 hl (by decide) rfl (fun ls hl => ?_)
          refine lv_iload hx hb dX9_term_163 (lv_at hl 0 rfl) ?_
          refine lv_if_eq (tgt := 177) hx hb dX9_term_165 (by decide) (fun c_34 => absurd c_34 (by decide +kernel)) (fun c_34 => ?_)
          refine lv_aload_n hx hb dX9_term_168 rfl (lv_at hl 2 rfl) ?_
          refine lv_iload hx hb dX9_term_169 (lv_at hl 0 rfl) ?_
          refine yVwi (As := [.int 1]) (rest := []) C0 (g_X9_no l G S d_1 h0 1 hSh hPod_1 hm_h0 hk_h0 (by decide +kernel)) ok_X9_no (mW177 : Cond.methodLink RX9 168 yX9_no ∈ wsT) ⟨Nat.le_of_ble_eq_true rfl, Nat.le_of_ble_eq_true rfl⟩ hP hD hS hA hK hN hm_h0 hk_h0 (by decide) rfl rfl rfl hl.1 rfl (Nat.le_of_ble_eq_true rfl) ⟨Nat.le_of_ble_eq_true rfl, Nat.le_of_ble_eq_true rfl⟩ dX9_term_171 (fun r_35 d_36 H locs hr_35 hP hD hS => ?_)
          obtain ⟨hgad_36, hpad_36, hfad_36, hxd_36⟩ := hr_35
          have hfd_36 : yK [38] d d_36 h0 := yK.tr hfd_1 hfad_36 (by decide)
          have hE0d_36 : (d_36.1 h0 0).toInt = (d_1.1 h0 0).toInt := congrArg Int32.toInt (hfad_36 0 (by decide))
          have hE1d_36 : (d_36.1 h0 1).toInt = (d_1.1 h0 1).toInt := congrArg Int32.toInt (hfad_36 1 (by decide))
          have hE2d_36 : (d_36.1 h0 2).toInt = (d_1.1 h0 2).toInt := congrArg Int32.toInt (hfad_36 2 (by decide))
          have hE3d_36 : (d_36.1 h0 3).toInt = (d_1.1 h0 3).toInt := congrArg Int32.toInt (hfad_36 3 (by decide))
          have hE63d_36 : (d_36.1 h0 63).toInt = (d_1.1 h0 63).toInt := congrArg Int32.toInt (hfad_36 63 (by decide))
          have hId_36 : yMI S d_36 h0 := yMI.ag hId_1 hSh hm_h0 hk_h0 hgad_36 hfad_36 (by decide) (by decide)
          have hgd_36 : yAg S [9, 34, 35, 36, 37, 38, 39, 40, 69] d d_36 := yAg.tr hgd_1 hgad_36 (by first | decide | exact fun _ h => h)
          have hPod_36 : yPo S d_36 := hpad_36 hPod_1
          refine lv_pop hx hb dX9_term_174 rfl ?_
          refine lv_iconst (v := 0) hx hb dX9_term_175 (by decide) ?_
          have hCC_37 := yMI.c hId_36
          have F_38 := flt (rfl : (p2 : Int32).toInt = (p2 : Int32).toInt) (by decide +kernel : (0 : Int32).toInt = 0) c_3
          have F_39 := fne (rfl : (p3 : Int32).toInt = (p3 : Int32).toInt) (by decide +kernel : (1 : Int32).toInt = 1) c_4
          have F_40 := feq (rfl : (p3 : Int32).toInt = (p3 : Int32).toInt) (by decide +kernel : (3 : Int32).toInt = 3) c_5
          have F_41 := fne (by decide +kernel : (1 : Int32).toInt = 1) (by decide +kernel : (0 : Int32).toInt = 0) c_31
          have F_42 := fne (rfl : (p3 : Int32).toInt = (p3 : Int32).toInt) (by decide +kernel : (4 : Int32).toInt = 4) c_32
          have F_43 := fne (by decide +kernel : (1 : Int32).toInt = 1) (by decide +kernel : (0 : Int32).toInt = 0) c_33
          have F_44 := fne (by decide +kernel : (1 : Int32).toInt = 1) (by decide +kernel : (0 : Int32).toInt = 0) c_34
          exact W.zret (v := 0) (ty := .boolean) hx hb hr rfl (fun t ht hW => ⟨⟨0, d_36, rfl, ⟨hgd_36, (fun _ => hPod_36), hfd_36, ⟨hId_36, Or.inl ⟨by have h0_ : (0 : Int32).toInt = 0 := (by decide +kernel); omega, by omega, (zTr.ag (zTr.ag zTr.rf hSh hm_h0 hk_h0 hsd_1 (by decide)) hSh hm_h0 hk_h0 hgad_36 (by decide))⟩⟩⟩, by rw [ht]; exact hP, hD⟩, hS.F ht⟩) hS.2.2 dX9_term_176
        · refine lv_iload hx hb dX9_term_119 (lv_at hl 0 rfl) ?_
          refine lv_if_ne (tgt := 148) hx hb dX9_term_121 (by decide) (fun c_45 => ?_) (fun c_45 => absurd c_45 (by decide +kernel))
          refine lv_iconst (v := 1) hx hb dX9_term_148 (by decide) ?_
          refine lv_goto (tgt := 153) hx hb dX9_term_149 (by decide) ?_
          refine lv_istore (lv' := [(8, .int 1), (7, .int r_2), (0, .ref h0), (1, .int p0), (2, .int p1), (3, .int p2), (4, .int p3), (5, .int p4), (6, .int p5)]) hx hb dX9_term_153 hl (by decide) rfl (fun ls hl => ?_)
          refine lv_iload hx hb dX9_term_155 (lv_at hl 0 rfl) ?_
          refine lv_if_eq (tgt := 163) hx hb dX9_term_157 (by decide) (fun c_46 => absurd c_46 (by decide +kernel)) (fun c_46 => ?_)
          refine lv_iconst (v := 1) hx hb dX9_term_160 (by decide) ?_
          refine lv_istore (lv' := [(7, .int 1), (8, .int 1), (0, .ref h0), (1, .int p0), (2, .int p1), (3, .int p2), (4, .int p3), (5, .int p4), (6, .int p5)]) hx hb dX9_term_161 hl (by decide) rfl (fun ls hl => ?_)
          refine lv_iload hx hb dX9_term_163 (lv_at hl 0 rfl) ?_
          refine lv_if_eq (tgt := 177) hx hb dX9_term_165 (by decide) (fun c_47 => absurd c_47 (by decide +kernel)) (fun c_47 => ?_)
          refine lv_aload_n hx hb dX9_term_168 rfl (lv_at hl 2 rfl) ?_
          refine lv_iload hx hb dX9_term_169 (lv_at hl 0 rfl) ?_
          refine yVwi (As := [.int 1]) (rest := []) C0 (g_X9_no l G S d_1 h0 1 hSh hPod_1 hm_h0 hk_h0 (by decide +kernel)) ok_X9_no (mW177 : Cond.methodLink RX9 168 yX9_no ∈ wsT) ⟨Nat.le_of_ble_eq_true rfl, Nat.le_of_ble_eq_true rfl⟩ hP hD hS hA hK hN hm_h0 hk_h0 (by decide) rfl rfl rfl hl.1 rfl (Nat.le_of_ble_eq_true rfl) ⟨Nat.le_of_ble_eq_true rfl, Nat.le_of_ble_eq_true rfl⟩ dX9_term_171 (fun r_48 d_49 H locs hr_48 hP hD hS => ?_)
          obtain ⟨hgad_49, hpad_49, hfad_49, hxd_49⟩ := hr_48
          have hfd_49 : yK [38] d d_49 h0 := yK.tr hfd_1 hfad_49 (by decide)
          have hE0d_49 : (d_49.1 h0 0).toInt = (d_1.1 h0 0).toInt := congrArg Int32.toInt (hfad_49 0 (by decide))
          have hE1d_49 : (d_49.1 h0 1).toInt = (d_1.1 h0 1).toInt := congrArg Int32.toInt (hfad_49 1 (by decide))
          have hE2d_49 : (d_49.1 h0 2).toInt = (d_1.1 h0 2).toInt := congrArg Int32.toInt (hfad_49 2 (by decide))
          have hE3d_49 : (d_49.1 h0 3).toInt = (d_1.1 h0 3).toInt := congrArg Int32.toInt (hfad_49 3 (by decide))
          have hE63d_49 : (d_49.1 h0 63).toInt = (d_1.1 h0 63).toInt := congrArg Int32.toInt (hfad_49 63 (by decide))
          have hId_49 : yMI S d_49 h0 := yMI.ag hId_1 hSh hm_h0 hk_h0 hgad_49 hfad_49 (by decide) (by decide)
          have hgd_49 : yAg S [9, 34, 35, 36, 37, 38, 39, 40, 69] d d_49 := yAg.tr hgd_1 hgad_49 (by first | decide | exact fun _ h => h)
          have hPod_49 : yPo S d_49 := hpad_49 hPod_1
          refine lv_pop hx hb dX9_term_174 rfl ?_
          refine lv_iconst (v := 0) hx hb dX9_term_175 (by decide) ?_
          have hCC_50 := yMI.c hId_49
          have F_51 := flt (rfl : (p2 : Int32).toInt = (p2 : Int32).toInt) (by decide +kernel : (0 : Int32).toInt = 0) c_3
          have F_52 := fne (rfl : (p3 : Int32).toInt = (p3 : Int32).toInt) (by decide +kernel : (1 : Int32).toInt = 1) c_4
          have F_53 := feq (rfl : (p3 : Int32).toInt = (p3 : Int32).toInt) (by decide +kernel : (3 : Int32).toInt = 3) c_5
          have F_54 := fne (by decide +kernel : (1 : Int32).toInt = 1) (by decide +kernel : (0 : Int32).toInt = 0) c_31
          have F_55 := feq (rfl : (p3 : Int32).toInt = (p3 : Int32).toInt) (by decide +kernel : (4 : Int32).toInt = 4) c_32
          have F_56 := fne (by decide +kernel : (1 : Int32).toInt = 1) (by decide +kernel : (0 : Int32).toInt = 0) c_45
          have F_57 := fne (by decide +kernel : (1 : Int32).toInt = 1) (by decide +kernel : (0 : Int32).toInt = 0) c_46
          have F_58 := fne (by decide +kernel : (1 : Int32).toInt = 1) (by decide +kernel : (0 : Int32).toInt = 0) c_47
          exact W.zret (v := 0) (ty := .boolean) hx hb hr rfl (fun t ht hW => ⟨⟨0, d_49, rfl, ⟨hgd_49, (fun _ => hPod_49), hfd_49, ⟨hId_49, Or.inl ⟨by have h0_ : (0 : Int32).toInt = 0 := (by decide +kernel); omega, by omega, (zTr.ag (zTr.ag zTr.rf hSh hm_h0 hk_h0 hsd_1 (by decide)) hSh hm_h0 hk_h0 hgad_49 (by decide))⟩⟩⟩, by rw [ht]; exact hP, hD⟩, hS.F ht⟩) hS.2.2 dX9_term_176
    · refine lv_iload hx hb dX9_term_46 (lv_at hl 0 rfl) ?_
      refine lv_if_ne (tgt := 77) hx hb dX9_term_48 (by decide) (fun c_59 => ?_) (fun c_59 => absurd c_59 (by decide +kernel))
      refine lv_iconst (v := 1) hx hb dX9_term_77 (by decide) ?_
      refine lv_goto (tgt := 82) hx hb dX9_term_78 (by decide) ?_
      refine lv_istore (lv' := [(8, .int 1), (7, .int r_2), (0, .ref h0), (1, .int p0), (2, .int p1), (3, .int p2), (4, .int p3), (5, .int p4), (6, .int p5)]) hx hb dX9_term_82 hl (by decide) rfl (fun ls hl => ?_)
      refine lv_iload hx hb dX9_term_84 (lv_at hl 6 rfl) ?_
      refine lv_iconst (v := 3) hx hb dX9_term_86 (by decide) ?_
      refine lv_icmp_ne (tgt := 113) hx hb dX9_term_87 (by decide) (fun c_60 => ?_) (fun c_60 => ?_)
      · refine lv_iload hx hb dX9_term_113 (lv_at hl 6 rfl) ?_
        refine lv_iconst (v := 4) hx hb dX9_term_115 (by decide) ?_
        refine lv_icmp_ne (tgt := 155) hx hb dX9_term_116 (by decide) (fun c_61 => ?_) (fun c_61 => ?_)
        · refine lv_iload hx hb dX9_term_155 (lv_at hl 0 rfl) ?_
          refine lv_if_eq (tgt := 163) hx hb dX9_term_157 (by decide) (fun c_62 => absurd c_62 (by decide +kernel)) (fun c_62 => ?_)
          refine lv_iconst (v := 1) hx hb dX9_term_160 (by decide) ?_
          refine lv_istore (lv' := [(7, .int 1), (8, .int 1), (0, .ref h0), (1, .int p0), (2, .int p1), (3, .int p2), (4, .int p3), (5, .int p4), (6, .int p5)]) hx hb dX9_term_161 hl (by decide) rfl (fun ls hl => ?_)
          refine lv_iload hx hb dX9_term_163 (lv_at hl 0 rfl) ?_
          refine lv_if_eq (tgt := 177) hx hb dX9_term_165 (by decide) (fun c_63 => absurd c_63 (by decide +kernel)) (fun c_63 => ?_)
          refine lv_aload_n hx hb dX9_term_168 rfl (lv_at hl 2 rfl) ?_
          refine lv_iload hx hb dX9_term_169 (lv_at hl 0 rfl) ?_
          refine yVwi (As := [.int 1]) (rest := []) C0 (g_X9_no l G S d_1 h0 1 hSh hPod_1 hm_h0 hk_h0 (by decide +kernel)) ok_X9_no (mW177 : Cond.methodLink RX9 168 yX9_no ∈ wsT) ⟨Nat.le_of_ble_eq_true rfl, Nat.le_of_ble_eq_true rfl⟩ hP hD hS hA hK hN hm_h0 hk_h0 (by decide) rfl rfl rfl hl.1 rfl (Nat.le_of_ble_eq_true rfl) ⟨Nat.le_of_ble_eq_true rfl, Nat.le_of_ble_eq_true rfl⟩ dX9_term_171 (fun r_64 d_65 H locs hr_64 hP hD hS => ?_)
          obtain ⟨hgad_65, hpad_65, hfad_65, hxd_65⟩ := hr_64
          have hfd_65 : yK [38] d d_65 h0 := yK.tr hfd_1 hfad_65 (by decide)
          have hE0d_65 : (d_65.1 h0 0).toInt = (d_1.1 h0 0).toInt := congrArg Int32.toInt (hfad_65 0 (by decide))
          have hE1d_65 : (d_65.1 h0 1).toInt = (d_1.1 h0 1).toInt := congrArg Int32.toInt (hfad_65 1 (by decide))
          have hE2d_65 : (d_65.1 h0 2).toInt = (d_1.1 h0 2).toInt := congrArg Int32.toInt (hfad_65 2 (by decide))
          have hE3d_65 : (d_65.1 h0 3).toInt = (d_1.1 h0 3).toInt := congrArg Int32.toInt (hfad_65 3 (by decide))
          have hE63d_65 : (d_65.1 h0 63).toInt = (d_1.1 h0 63).toInt := congrArg Int32.toInt (hfad_65 63 (by decide))
          have hId_65 : yMI S d_65 h0 := yMI.ag hId_1 hSh hm_h0 hk_h0 hgad_65 hfad_65 (by decide) (by decide)
          have hgd_65 : yAg S [9, 34, 35, 36, 37, 38, 39, 40, 69] d d_65 := yAg.tr hgd_1 hgad_65 (by first | decide | exact fun _ h => h)
          have hPod_65 : yPo S d_65 := hpad_65 hPod_1
          refine lv_pop hx hb dX9_term_174 rfl ?_
          refine lv_iconst (v := 0) hx hb dX9_term_175 (by decide) ?_
          have hCC_66 := yMI.c hId_65
          have F_67 := flt (rfl : (p2 : Int32).toInt = (p2 : Int32).toInt) (by decide +kernel : (0 : Int32).toInt = 0) c_3
          have F_68 := feq (rfl : (p3 : Int32).toInt = (p3 : Int32).toInt) (by decide +kernel : (1 : Int32).toInt = 1) c_4
          have F_69 := fne (by decide +kernel : (1 : Int32).toInt = 1) (by decide +kernel : (0 : Int32).toInt = 0) c_59
          have F_70 := fne (rfl : (p3 : Int32).toInt = (p3 : Int32).toInt) (by decide +kernel : (3 : Int32).toInt = 3) c_60
          have F_71 := fne (rfl : (p3 : Int32).toInt = (p3 : Int32).toInt) (by decide +kernel : (4 : Int32).toInt = 4) c_61
          have F_72 := fne (by decide +kernel : (1 : Int32).toInt = 1) (by decide +kernel : (0 : Int32).toInt = 0) c_62
          have F_73 := fne (by decide +kernel : (1 : Int32).toInt = 1) (by decide +kernel : (0 : Int32).toInt = 0) c_63
          exact W.zret (v := 0) (ty := .boolean) hx hb hr rfl (fun t ht hW => ⟨⟨0, d_65, rfl, ⟨hgd_65, (fun _ => hPod_65), hfd_65, ⟨hId_65, Or.inl ⟨by have h0_ : (0 : Int32).toInt = 0 := (by decide +kernel); omega, by omega, (zTr.ag (zTr.ag zTr.rf hSh hm_h0 hk_h0 hsd_1 (by decide)) hSh hm_h0 hk_h0 hgad_65 (by decide))⟩⟩⟩, by rw [ht]; exact hP, hD⟩, hS.F ht⟩) hS.2.2 dX9_term_176
        · refine lv_iload hx hb dX9_term_119 (lv_at hl 0 rfl) ?_
          refine lv_if_ne (tgt := 148) hx hb dX9_term_121 (by decide) (fun c_74 => ?_) (fun c_74 => absurd c_74 (by decide +kernel))
          refine lv_iconst (v := 1) hx hb dX9_term_148 (by decide) ?_
          refine lv_goto (tgt := 153) hx hb dX9_term_149 (by decide) ?_
          refine lv_istore (lv' := [(8, .int 1), (7, .int r_2), (0, .ref h0), (1, .int p0), (2, .int p1), (3, .int p2), (4, .int p3), (5, .int p4), (6, .int p5)]) hx hb dX9_term_153 hl (by decide) rfl (fun ls hl => ?_)
          refine lv_iload hx hb dX9_term_155 (lv_at hl 0 rfl) ?_
          refine lv_if_eq (tgt := 163) hx hb dX9_term_157 (by decide) (fun c_75 => absurd c_75 (by decide +kernel)) (fun c_75 => ?_)
          refine lv_iconst (v := 1) hx hb dX9_term_160 (by decide) ?_
          refine lv_istore (lv' := [(7, .int 1), (8, .int 1), (0, .ref h0), (1, .int p0), (2, .int p1), (3, .int p2), (4, .int p3), (5, .int p4), (6, .int p5)]) hx hb dX9_term_161 hl (by decide) rfl (fun ls hl => ?_)
          refine lv_iload hx hb dX9_term_163 (lv_at hl 0 rfl) ?_
          refine lv_if_eq (tgt := 177) hx hb dX9_term_165 (by decide) (fun c_76 => absurd c_76 (by decide +kernel)) (fun c_76 => ?_)
          refine lv_aload_n hx hb dX9_term_168 rfl (lv_at hl 2 rfl) ?_
          refine lv_iload hx hb dX9_term_169 (lv_at hl 0 rfl) ?_
          refine yVwi (As := [.int 1]) (rest := []) C0 (g_X9_no l G S d_1 h0 1 hSh hPod_1 hm_h0 hk_h0 (by decide +kernel)) ok_X9_no (mW177 : Cond.methodLink RX9 168 yX9_no ∈ wsT) ⟨Nat.le_of_ble_eq_true rfl, Nat.le_of_ble_eq_true rfl⟩ hP hD hS hA hK hN hm_h0 hk_h0 (by decide) rfl rfl rfl hl.1 rfl (Nat.le_of_ble_eq_true rfl) ⟨Nat.le_of_ble_eq_true rfl, Nat.le_of_ble_eq_true rfl⟩ dX9_term_171 (fun r_77 d_78 H locs hr_77 hP hD hS => ?_)
          obtain ⟨hgad_78, hpad_78, hfad_78, hxd_78⟩ := hr_77
          have hfd_78 : yK [38] d d_78 h0 := yK.tr hfd_1 hfad_78 (by decide)
          have hE0d_78 : (d_78.1 h0 0).toInt = (d_1.1 h0 0).toInt := congrArg Int32.toInt (hfad_78 0 (by decide))
          have hE1d_78 : (d_78.1 h0 1).toInt = (d_1.1 h0 1).toInt := congrArg Int32.toInt (hfad_78 1 (by decide))
          have hE2d_78 : (d_78.1 h0 2).toInt = (d_1.1 h0 2).toInt := congrArg Int32.toInt (hfad_78 2 (by decide))
          have hE3d_78 : (d_78.1 h0 3).toInt = (d_1.1 h0 3).toInt := congrArg Int32.toInt (hfad_78 3 (by decide))
          have hE63d_78 : (d_78.1 h0 63).toInt = (d_1.1 h0 63).toInt := congrArg Int32.toInt (hfad_78 63 (by decide))
          have hId_78 : yMI S d_78 h0 := yMI.ag hId_1 hSh hm_h0 hk_h0 hgad_78 hfad_78 (by decide) (by decide)
          have hgd_78 : yAg S [9, 34, 35, 36, 37, 38, 39, 40, 69] d d_78 := yAg.tr hgd_1 hgad_78 (by first | decide | exact fun _ h => h)
          have hPod_78 : yPo S d_78 := hpad_78 hPod_1
          refine lv_pop hx hb dX9_term_174 rfl ?_
          refine lv_iconst (v := 0) hx hb dX9_term_175 (by decide) ?_
          have hCC_79 := yMI.c hId_78
          have F_80 := flt (rfl : (p2 : Int32).toInt = (p2 : Int32).toInt) (by decide +kernel : (0 : Int32).toInt = 0) c_3
          have F_81 := feq (rfl : (p3 : Int32).toInt = (p3 : Int32).toInt) (by decide +kernel : (1 : Int32).toInt = 1) c_4
          have F_82 := fne (by decide +kernel : (1 : Int32).toInt = 1) (by decide +kernel : (0 : Int32).toInt = 0) c_59
          have F_83 := fne (rfl : (p3 : Int32).toInt = (p3 : Int32).toInt) (by decide +kernel : (3 : Int32).toInt = 3) c_60
          have F_84 := feq (rfl : (p3 : Int32).toInt = (p3 : Int32).toInt) (by decide +kernel : (4 : Int32).toInt = 4) c_61
          have F_85 := fne (by decide +kernel : (1 : Int32).toInt = 1) (by decide +kernel : (0 : Int32).toInt = 0) c_74
          have F_86 := fne (by decide +kernel : (1 : Int32).toInt = 1) (by decide +kernel : (0 : Int32).toInt = 0) c_75
          have F_87 := fne (by decide +kernel : (1 : Int32).toInt = 1) (by decide +kernel : (0 : Int32).toInt = 0) c_76
          exact W.zret (v := 0) (ty := .boolean) hx hb hr rfl (fun t ht hW => ⟨⟨0, d_78, rfl, ⟨hgd_78, (fun _ => hPod_78), hfd_78, ⟨hId_78, Or.inl ⟨by have h0_ : (0 : Int32).toInt = 0 := (by decide +kernel); omega, by omega, (zTr.ag (zTr.ag zTr.rf hSh hm_h0 hk_h0 hsd_1 (by decide)) hSh hm_h0 hk_h0 hgad_78 (by decide))⟩⟩⟩, by rw [ht]; exact hP, hD⟩, hS.F ht⟩) hS.2.2 dX9_term_176
      · refine lv_iload hx hb dX9_term_90 (lv_at hl 0 rfl) ?_
        refine lv_if_ne (tgt := 106) hx hb dX9_term_92 (by decide) (fun c_88 => ?_) (fun c_88 => absurd c_88 (by decide +kernel))
        refine lv_iconst (v := 1) hx hb dX9_term_106 (by decide) ?_
        refine lv_goto (tgt := 111) hx hb dX9_term_107 (by decide) ?_
        refine lv_istore (lv' := [(8, .int 1), (7, .int r_2), (0, .ref h0), (1, .int p0), (2, .int p1), (3, .int p2), (4, .int p3), (5, .int p4), (6, .int p5)]) hx hb dX9_term_111 hl (by decide) rfl (fun ls hl => ?_)
        refine lv_iload hx hb dX9_term_113 (lv_at hl 6 rfl) ?_
        refine lv_iconst (v := 4) hx hb dX9_term_115 (by decide) ?_
        refine lv_icmp_ne (tgt := 155) hx hb dX9_term_116 (by decide) (fun c_89 => ?_) (fun c_89 => ?_)
        · refine lv_iload hx hb dX9_term_155 (lv_at hl 0 rfl) ?_
          refine lv_if_eq (tgt := 163) hx hb dX9_term_157 (by decide) (fun c_90 => absurd c_90 (by decide +kernel)) (fun c_90 => ?_)
          refine lv_iconst (v := 1) hx hb dX9_term_160 (by decide) ?_
          refine lv_istore (lv' := [(7, .int 1), (8, .int 1), (0, .ref h0), (1, .int p0), (2, .int p1), (3, .int p2), (4, .int p3), (5, .int p4), (6, .int p5)]) hx hb dX9_term_161 hl (by decide) rfl (fun ls hl => ?_)
          refine lv_iload hx hb dX9_term_163 (lv_at hl 0 rfl) ?_
          refine lv_if_eq (tgt := 177) hx hb dX9_term_165 (by decide) (fun c_91 => absurd c_91 (by decide +kernel)) (fun c_91 => ?_)
          refine lv_aload_n hx hb dX9_term_168 rfl (lv_at hl 2 rfl) ?_
          refine lv_iload hx hb dX9_term_169 (lv_at hl 0 rfl) ?_
          refine yVwi (As := [.int 1]) (rest := []) C0 (g_X9_no l G S d_1 h0 1 hSh hPod_1 hm_h0 hk_h0 (by decide +kernel)) ok_X9_no (mW177 : Cond.methodLink RX9 168 yX9_no ∈ wsT) ⟨Nat.le_of_ble_eq_true rfl, Nat.le_of_ble_eq_true rfl⟩ hP hD hS hA hK hN hm_h0 hk_h0 (by decide) rfl rfl rfl hl.1 rfl (Nat.le_of_ble_eq_true rfl) ⟨Nat.le_of_ble_eq_true rfl, Nat.le_of_ble_eq_true rfl⟩ dX9_term_171 (fun r_92 d_93 H locs hr_92 hP hD hS => ?_)
          obtain ⟨hgad_93, hpad_93, hfad_93, hxd_93⟩ := hr_92
          have hfd_93 : yK [38] d d_93 h0 := yK.tr hfd_1 hfad_93 (by decide)
          have hE0d_93 : (d_93.1 h0 0).toInt = (d_1.1 h0 0).toInt := congrArg Int32.toInt (hfad_93 0 (by decide))
          have hE1d_93 : (d_93.1 h0 1).toInt = (d_1.1 h0 1).toInt := congrArg Int32.toInt (hfad_93 1 (by decide))
          have hE2d_93 : (d_93.1 h0 2).toInt = (d_1.1 h0 2).toInt := congrArg Int32.toInt (hfad_93 2 (by decide))
          have hE3d_93 : (d_93.1 h0 3).toInt = (d_1.1 h0 3).toInt := congrArg Int32.toInt (hfad_93 3 (by decide))
          have hE63d_93 : (d_93.1 h0 63).toInt = (d_1.1 h0 63).toInt := congrArg Int32.toInt (hfad_93 63 (by decide))
          have hId_93 : yMI S d_93 h0 := yMI.ag hId_1 hSh hm_h0 hk_h0 hgad_93 hfad_93 (by decide) (by decide)
          have hgd_93 : yAg S [9, 34, 35, 36, 37, 38, 39, 40, 69] d d_93 := yAg.tr hgd_1 hgad_93 (by first | decide | exact fun _ h => h)
          have hPod_93 : yPo S d_93 := hpad_93 hPod_1
          refine lv_pop hx hb dX9_term_174 rfl ?_
          refine lv_iconst (v := 0) hx hb dX9_term_175 (by decide) ?_
          have hCC_94 := yMI.c hId_93
          have F_95 := flt (rfl : (p2 : Int32).toInt = (p2 : Int32).toInt) (by decide +kernel : (0 : Int32).toInt = 0) c_3
          have F_96 := feq (rfl : (p3 : Int32).toInt = (p3 : Int32).toInt) (by decide +kernel : (1 : Int32).toInt = 1) c_4
          have F_97 := fne (by decide +kernel : (1 : Int32).toInt = 1) (by decide +kernel : (0 : Int32).toInt = 0) c_59
          have F_98 := feq (rfl : (p3 : Int32).toInt = (p3 : Int32).toInt) (by decide +kernel : (3 : Int32).toInt = 3) c_60
          have F_99 := fne (by decide +kernel : (1 : Int32).toInt = 1) (by decide +kernel : (0 : Int32).toInt = 0) c_88
          have F_100 := fne (rfl : (p3 : Int32).toInt = (p3 : Int32).toInt) (by decide +kernel : (4 : Int32).toInt = 4) c_89
          have F_101 := fne (by decide +kernel : (1 : Int32).toInt = 1) (by decide +kernel : (0 : Int32).toInt = 0) c_90
          have F_102 := fne (by decide +kernel : (1 : Int32).toInt = 1) (by decide +kernel : (0 : Int32).toInt = 0) c_91
          exact W.zret (v := 0) (ty := .boolean) hx hb hr rfl (fun t ht hW => ⟨⟨0, d_93, rfl, ⟨hgd_93, (fun _ => hPod_93), hfd_93, ⟨hId_93, Or.inl ⟨by have h0_ : (0 : Int32).toInt = 0 := (by decide +kernel); omega, by omega, (zTr.ag (zTr.ag zTr.rf hSh hm_h0 hk_h0 hsd_1 (by decide)) hSh hm_h0 hk_h0 hgad_93 (by decide))⟩⟩⟩, by rw [ht]; exact hP, hD⟩, hS.F ht⟩) hS.2.2 dX9_term_176
        · refine lv_iload hx hb dX9_term_119 (lv_at hl 0 rfl) ?_
          refine lv_if_ne (tgt := 148) hx hb dX9_term_121 (by decide) (fun c_103 => ?_) (fun c_103 => absurd c_103 (by decide +kernel))
          refine lv_iconst (v := 1) hx hb dX9_term_148 (by decide) ?_
          refine lv_goto (tgt := 153) hx hb dX9_term_149 (by decide) ?_
          refine lv_istore (lv' := [(8, .int 1), (7, .int r_2), (0, .ref h0), (1, .int p0), (2, .int p1), (3, .int p2), (4, .int p3), (5, .int p4), (6, .int p5)]) hx hb dX9_term_153 hl (by decide) rfl (fun ls hl => ?_)
          refine lv_iload hx hb dX9_term_155 (lv_at hl 0 rfl) ?_
          refine lv_if_eq (tgt := 163) hx hb dX9_term_157 (by decide) (fun c_104 => absurd c_104 (by decide +kernel)) (fun c_104 => ?_)
          refine lv_iconst (v := 1) hx hb dX9_term_160 (by decide) ?_
          refine lv_istore (lv' := [(7, .int 1), (8, .int 1), (0, .ref h0), (1, .int p0), (2, .int p1), (3, .int p2), (4, .int p3), (5, .int p4), (6, .int p5)]) hx hb dX9_term_161 hl (by decide) rfl (fun ls hl => ?_)
          refine lv_iload hx hb dX9_term_163 (lv_at hl 0 rfl) ?_
          refine lv_if_eq (tgt := 177) hx hb dX9_term_165 (by decide) (fun c_105 => absurd c_105 (by decide +kernel)) (fun c_105 => ?_)
          refine lv_aload_n hx hb dX9_term_168 rfl (lv_at hl 2 rfl) ?_
          refine lv_iload hx hb dX9_term_169 (lv_at hl 0 rfl) ?_
          refine yVwi (As := [.int 1]) (rest := []) C0 (g_X9_no l G S d_1 h0 1 hSh hPod_1 hm_h0 hk_h0 (by decide +kernel)) ok_X9_no (mW177 : Cond.methodLink RX9 168 yX9_no ∈ wsT) ⟨Nat.le_of_ble_eq_true rfl, Nat.le_of_ble_eq_true rfl⟩ hP hD hS hA hK hN hm_h0 hk_h0 (by decide) rfl rfl rfl hl.1 rfl (Nat.le_of_ble_eq_true rfl) ⟨Nat.le_of_ble_eq_true rfl, Nat.le_of_ble_eq_true rfl⟩ dX9_term_171 (fun r_106 d_107 H locs hr_106 hP hD hS => ?_)
          obtain ⟨hgad_107, hpad_107, hfad_107, hxd_107⟩ := hr_106
          have hfd_107 : yK [38] d d_107 h0 := yK.tr hfd_1 hfad_107 (by decide)
          have hE0d_107 : (d_107.1 h0 0).toInt = (d_1.1 h0 0).toInt := congrArg Int32.toInt (hfad_107 0 (by decide))
          have hE1d_107 : (d_107.1 h0 1).toInt = (d_1.1 h0 1).toInt := congrArg Int32.toInt (hfad_107 1 (by decide))
          have hE2d_107 : (d_107.1 h0 2).toInt = (d_1.1 h0 2).toInt := congrArg Int32.toInt (hfad_107 2 (by decide))
          have hE3d_107 : (d_107.1 h0 3).toInt = (d_1.1 h0 3).toInt := congrArg Int32.toInt (hfad_107 3 (by decide))
          have hE63d_107 : (d_107.1 h0 63).toInt = (d_1.1 h0 63).toInt := congrArg Int32.toInt (hfad_107 63 (by decide))
          have hId_107 : yMI S d_107 h0 := yMI.ag hId_1 hSh hm_h0 hk_h0 hgad_107 hfad_107 (by decide) (by decide)
          have hgd_107 : yAg S [9, 34, 35, 36, 37, 38, 39, 40, 69] d d_107 := yAg.tr hgd_1 hgad_107 (by first | decide | exact fun _ h => h)
          have hPod_107 : yPo S d_107 := hpad_107 hPod_1
          refine lv_pop hx hb dX9_term_174 rfl ?_
          refine lv_iconst (v := 0) hx hb dX9_term_175 (by decide) ?_
          have hCC_108 := yMI.c hId_107
          have F_109 := flt (rfl : (p2 : Int32).toInt = (p2 : Int32).toInt) (by decide +kernel : (0 : Int32).toInt = 0) c_3
          have F_110 := feq (rfl : (p3 : Int32).toInt = (p3 : Int32).toInt) (by decide +kernel : (1 : Int32).toInt = 1) c_4
          have F_111 := fne (by decide +kernel : (1 : Int32).toInt = 1) (by decide +kernel : (0 : Int32).toInt = 0) c_59
          have F_112 := feq (rfl : (p3 : Int32).toInt = (p3 : Int32).toInt) (by decide +kernel : (3 : Int32).toInt = 3) c_60
          have F_113 := fne (by decide +kernel : (1 : Int32).toInt = 1) (by decide +kernel : (0 : Int32).toInt = 0) c_88
          have F_114 := feq (rfl : (p3 : Int32).toInt = (p3 : Int32).toInt) (by decide +kernel : (4 : Int32).toInt = 4) c_89
          have F_115 := fne (by decide +kernel : (1 : Int32).toInt = 1) (by decide +kernel : (0 : Int32).toInt = 0) c_103
          have F_116 := fne (by decide +kernel : (1 : Int32).toInt = 1) (by decide +kernel : (0 : Int32).toInt = 0) c_104
          have F_117 := fne (by decide +kernel : (1 : Int32).toInt = 1) (by decide +kernel : (0 : Int32).toInt = 0) c_105
          exact W.zret (v := 0) (ty := .boolean) hx hb hr rfl (fun t ht hW => ⟨⟨0, d_107, rfl, ⟨hgd_107, (fun _ => hPod_107), hfd_107, ⟨hId_107, Or.inl ⟨by have h0_ : (0 : Int32).toInt = 0 := (by decide +kernel); omega, by omega, (zTr.ag (zTr.ag zTr.rf hSh hm_h0 hk_h0 hsd_1 (by decide)) hSh hm_h0 hk_h0 hgad_107 (by decide))⟩⟩⟩, by rw [ht]; exact hP, hD⟩, hS.F ht⟩) hS.2.2 dX9_term_176
  · refine lv_iload_n hx hb dX9_term_17 rfl (lv_at hl 4 rfl) ?_
    refine lv_iconst (v := 4) hx hb dX9_term_18 (by decide) ?_
    refine lv_icmp_gt (tgt := 33) hx hb dX9_term_19 (by decide) (fun c_118 => ?_) (fun c_118 => ?_)
    · refine lv_iconst (v := 1) hx hb dX9_term_33 (by decide) ?_
      refine lv_goto (tgt := 38) hx hb dX9_term_34 (by decide) ?_
      refine lv_istore (lv' := [(8, .int 1), (7, .int r_2), (0, .ref h0), (1, .int p0), (2, .int p1), (3, .int p2), (4, .int p3), (5, .int p4), (6, .int p5)]) hx hb dX9_term_38 hl (by decide) rfl (fun ls hl => ?_)
      refine lv_iload hx hb dX9_term_40 (lv_at hl 6 rfl) ?_
      refine lv_iconst (v := 1) hx hb dX9_term_42 (by decide) ?_
      refine lv_icmp_ne (tgt := 84) hx hb dX9_term_43 (by decide) (fun c_119 => ?_) (fun c_119 => ?_)
      · refine lv_iload hx hb dX9_term_84 (lv_at hl 6 rfl) ?_
        refine lv_iconst (v := 3) hx hb dX9_term_86 (by decide) ?_
        refine lv_icmp_ne (tgt := 113) hx hb dX9_term_87 (by decide) (fun c_120 => ?_) (fun c_120 => ?_)
        · refine lv_iload hx hb dX9_term_113 (lv_at hl 6 rfl) ?_
          refine lv_iconst (v := 4) hx hb dX9_term_115 (by decide) ?_
          refine lv_icmp_ne (tgt := 155) hx hb dX9_term_116 (by decide) (fun c_121 => ?_) (fun c_121 => ?_)
          · refine lv_iload hx hb dX9_term_155 (lv_at hl 0 rfl) ?_
            refine lv_if_eq (tgt := 163) hx hb dX9_term_157 (by decide) (fun c_122 => absurd c_122 (by decide +kernel)) (fun c_122 => ?_)
            refine lv_iconst (v := 1) hx hb dX9_term_160 (by decide) ?_
            refine lv_istore (lv' := [(7, .int 1), (8, .int 1), (0, .ref h0), (1, .int p0), (2, .int p1), (3, .int p2), (4, .int p3), (5, .int p4), (6, .int p5)]) hx hb dX9_term_161 hl (by decide) rfl (fun ls hl => ?_)
            refine lv_iload hx hb dX9_term_163 (lv_at hl 0 rfl) ?_
            refine lv_if_eq (tgt := 177) hx hb dX9_term_165 (by decide) (fun c_123 => absurd c_123 (by decide +kernel)) (fun c_123 => ?_)
            refine lv_aload_n hx hb dX9_term_168 rfl (lv_at hl 2 rfl) ?_
            refine lv_iload hx hb dX9_term_169 (lv_at hl 0 rfl) ?_
            refine yVwi (As := [.int 1]) (rest := []) C0 (g_X9_no l G S d_1 h0 1 hSh hPod_1 hm_h0 hk_h0 (by decide +kernel)) ok_X9_no (mW177 : Cond.methodLink RX9 168 yX9_no ∈ wsT) ⟨Nat.le_of_ble_eq_true rfl, Nat.le_of_ble_eq_true rfl⟩ hP hD hS hA hK hN hm_h0 hk_h0 (by decide) rfl rfl rfl hl.1 rfl (Nat.le_of_ble_eq_true rfl) ⟨Nat.le_of_ble_eq_true rfl, Nat.le_of_ble_eq_true rfl⟩ dX9_term_171 (fun r_124 d_125 H locs hr_124 hP hD hS => ?_)
            obtain ⟨hgad_125, hpad_125, hfad_125, hxd_125⟩ := hr_124
            have hfd_125 : yK [38] d d_125 h0 := yK.tr hfd_1 hfad_125 (by decide)
            have hE0d_125 : (d_125.1 h0 0).toInt = (d_1.1 h0 0).toInt := congrArg Int32.toInt (hfad_125 0 (by decide))
            have hE1d_125 : (d_125.1 h0 1).toInt = (d_1.1 h0 1).toInt := congrArg Int32.toInt (hfad_125 1 (by decide))
            have hE2d_125 : (d_125.1 h0 2).toInt = (d_1.1 h0 2).toInt := congrArg Int32.toInt (hfad_125 2 (by decide))
            have hE3d_125 : (d_125.1 h0 3).toInt = (d_1.1 h0 3).toInt := congrArg Int32.toInt (hfad_125 3 (by decide))
            have hE63d_125 : (d_125.1 h0 63).toInt = (d_1.1 h0 63).toInt := congrArg Int32.toInt (hfad_125 63 (by decide))
            have hId_125 : yMI S d_125 h0 := yMI.ag hId_1 hSh hm_h0 hk_h0 hgad_125 hfad_125 (by decide) (by decide)
            have hgd_125 : yAg S [9, 34, 35, 36, 37, 38, 39, 40, 69] d d_125 := yAg.tr hgd_1 hgad_125 (by first | decide | exact fun _ h => h)
            have hPod_125 : yPo S d_125 := hpad_125 hPod_1
            refine lv_pop hx hb dX9_term_174 rfl ?_
            refine lv_iconst (v := 0) hx hb dX9_term_175 (by decide) ?_
            have hCC_126 := yMI.c hId_125
            have F_127 := fnlt (rfl : (p2 : Int32).toInt = (p2 : Int32).toInt) (by decide +kernel : (0 : Int32).toInt = 0) c_3
            have F_128 := flt (by decide +kernel : (4 : Int32).toInt = 4) (rfl : (p2 : Int32).toInt = (p2 : Int32).toInt) c_118
            have F_129 := fne (rfl : (p3 : Int32).toInt = (p3 : Int32).toInt) (by decide +kernel : (1 : Int32).toInt = 1) c_119
            have F_130 := fne (rfl : (p3 : Int32).toInt = (p3 : Int32).toInt) (by decide +kernel : (3 : Int32).toInt = 3) c_120
            have F_131 := fne (rfl : (p3 : Int32).toInt = (p3 : Int32).toInt) (by decide +kernel : (4 : Int32).toInt = 4) c_121
            have F_132 := fne (by decide +kernel : (1 : Int32).toInt = 1) (by decide +kernel : (0 : Int32).toInt = 0) c_122
            have F_133 := fne (by decide +kernel : (1 : Int32).toInt = 1) (by decide +kernel : (0 : Int32).toInt = 0) c_123
            exact W.zret (v := 0) (ty := .boolean) hx hb hr rfl (fun t ht hW => ⟨⟨0, d_125, rfl, ⟨hgd_125, (fun _ => hPod_125), hfd_125, ⟨hId_125, Or.inl ⟨by have h0_ : (0 : Int32).toInt = 0 := (by decide +kernel); omega, by omega, (zTr.ag (zTr.ag zTr.rf hSh hm_h0 hk_h0 hsd_1 (by decide)) hSh hm_h0 hk_h0 hgad_125 (by decide))⟩⟩⟩, by rw [ht]; exact hP, hD⟩, hS.F ht⟩) hS.2.2 dX9_term_176
          · refine lv_iload hx hb dX9_term_119 (lv_at hl 0 rfl) ?_
            refine lv_if_ne (tgt := 148) hx hb dX9_term_121 (by decide) (fun c_134 => ?_) (fun c_134 => absurd c_134 (by decide +kernel))
            refine lv_iconst (v := 1) hx hb dX9_term_148 (by decide) ?_
            refine lv_goto (tgt := 153) hx hb dX9_term_149 (by decide) ?_
            refine lv_istore (lv' := [(8, .int 1), (7, .int r_2), (0, .ref h0), (1, .int p0), (2, .int p1), (3, .int p2), (4, .int p3), (5, .int p4), (6, .int p5)]) hx hb dX9_term_153 hl (by decide) rfl (fun ls hl => ?_)
            refine lv_iload hx hb dX9_term_155 (lv_at hl 0 rfl) ?_
            refine lv_if_eq (tgt := 163) hx hb dX9_term_157 (by decide) (fun c_135 => absurd c_135 (by decide +kernel)) (fun c_135 => ?_)
            refine lv_iconst (v := 1) hx hb dX9_term_160 (by decide) ?_
            refine lv_istore (lv' := [(7, .int 1), (8, .int 1), (0, .ref h0), (1, .int p0), (2, .int p1), (3, .int p2), (4, .int p3), (5, .int p4), (6, .int p5)]) hx hb dX9_term_161 hl (by decide) rfl (fun ls hl => ?_)
            refine lv_iload hx hb dX9_term_163 (lv_at hl 0 rfl) ?_
            refine lv_if_eq (tgt := 177) hx hb dX9_term_165 (by decide) (fun c_136 => absurd c_136 (by decide +kernel)) (fun c_136 => ?_)
            refine lv_aload_n hx hb dX9_term_168 rfl (lv_at hl 2 rfl) ?_
            refine lv_iload hx hb dX9_term_169 (lv_at hl 0 rfl) ?_
            refine yVwi (As := [.int 1]) (rest := []) C0 (g_X9_no l G S d_1 h0 1 hSh hPod_1 hm_h0 hk_h0 (by decide +kernel)) ok_X9_no (mW177 : Cond.methodLink RX9 168 yX9_no ∈ wsT) ⟨Nat.le_of_ble_eq_true rfl, Nat.le_of_ble_eq_true rfl⟩ hP hD hS hA hK hN hm_h0 hk_h0 (by decide) rfl rfl rfl hl.1 rfl (Nat.le_of_ble_eq_true rfl) ⟨Nat.le_of_ble_eq_true rfl, Nat.le_of_ble_eq_true rfl⟩ dX9_term_171 (fun r_137 d_138 H locs hr_137 hP hD hS => ?_)
            obtain ⟨hgad_138, hpad_138, hfad_138, hxd_138⟩ := hr_137
            have hfd_138 : yK [38] d d_138 h0 := yK.tr hfd_1 hfad_138 (by decide)
            have hE0d_138 : (d_138.1 h0 0).toInt = (d_1.1 h0 0).toInt := congrArg Int32.toInt (hfad_138 0 (by decide))
            have hE1d_138 : (d_138.1 h0 1).toInt = (d_1.1 h0 1).toInt := congrArg Int32.toInt (hfad_138 1 (by decide))
            have hE2d_138 : (d_138.1 h0 2).toInt = (d_1.1 h0 2).toInt := congrArg Int32.toInt (hfad_138 2 (by decide))
            have hE3d_138 : (d_138.1 h0 3).toInt = (d_1.1 h0 3).toInt := congrArg Int32.toInt (hfad_138 3 (by decide))
            have hE63d_138 : (d_138.1 h0 63).toInt = (d_1.1 h0 63).toInt := congrArg Int32.toInt (hfad_138 63 (by decide))
            have hId_138 : yMI S d_138 h0 := yMI.ag hId_1 hSh hm_h0 hk_h0 hgad_138 hfad_138 (by decide) (by decide)
            have hgd_138 : yAg S [9, 34, 35, 36, 37, 38, 39, 40, 69] d d_138 := yAg.tr hgd_1 hgad_138 (by first | decide | exact fun _ h => h)
            have hPod_138 : yPo S d_138 := hpad_138 hPod_1
            refine lv_pop hx hb dX9_term_174 rfl ?_
            refine lv_iconst (v := 0) hx hb dX9_term_175 (by decide) ?_
            have hCC_139 := yMI.c hId_138
            have F_140 := fnlt (rfl : (p2 : Int32).toInt = (p2 : Int32).toInt) (by decide +kernel : (0 : Int32).toInt = 0) c_3
            have F_141 := flt (by decide +kernel : (4 : Int32).toInt = 4) (rfl : (p2 : Int32).toInt = (p2 : Int32).toInt) c_118
            have F_142 := fne (rfl : (p3 : Int32).toInt = (p3 : Int32).toInt) (by decide +kernel : (1 : Int32).toInt = 1) c_119
            have F_143 := fne (rfl : (p3 : Int32).toInt = (p3 : Int32).toInt) (by decide +kernel : (3 : Int32).toInt = 3) c_120
            have F_144 := feq (rfl : (p3 : Int32).toInt = (p3 : Int32).toInt) (by decide +kernel : (4 : Int32).toInt = 4) c_121
            have F_145 := fne (by decide +kernel : (1 : Int32).toInt = 1) (by decide +kernel : (0 : Int32).toInt = 0) c_134
            have F_146 := fne (by decide +kernel : (1 : Int32).toInt = 1) (by decide +kernel : (0 : Int32).toInt = 0) c_135
            have F_147 := fne (by decide +kernel : (1 : Int32).toInt = 1) (by decide +kernel : (0 : Int32).toInt = 0) c_136
            exact W.zret (v := 0) (ty := .boolean) hx hb hr rfl (fun t ht hW => ⟨⟨0, d_138, rfl, ⟨hgd_138, (fun _ => hPod_138), hfd_138, ⟨hId_138, Or.inl ⟨by have h0_ : (0 : Int32).toInt = 0 := (by decide +kernel); omega, by omega, (zTr.ag (zTr.ag zTr.rf hSh hm_h0 hk_h0 hsd_1 (by decide)) hSh hm_h0 hk_h0 hgad_138 (by decide))⟩⟩⟩, by rw [ht]; exact hP, hD⟩, hS.F ht⟩) hS.2.2 dX9_term_176
        · refine lv_iload hx hb dX9_term_90 (lv_at hl 0 rfl) ?_
          refine lv_if_ne (tgt := 106) hx hb dX9_term_92 (by decide) (fun c_148 => ?_) (fun c_148 => absurd c_148 (by decide +kernel))
          refine lv_iconst (v := 1) hx hb dX9_term_106 (by decide) ?_
          refine lv_goto (tgt := 111) hx hb dX9_term_107 (by decide) ?_
          refine lv_istore (lv' := [(8, .int 1), (7, .int r_2), (0, .ref h0), (1, .int p0), (2, .int p1), (3, .int p2), (4, .int p3), (5, .int p4), (6, .int p5)]) hx hb dX9_term_111 hl (by decide) rfl (fun ls hl => ?_)
          refine lv_iload hx hb dX9_term_113 (lv_at hl 6 rfl) ?_
          refine lv_iconst (v := 4) hx hb dX9_term_115 (by decide) ?_
          refine lv_icmp_ne (tgt := 155) hx hb dX9_term_116 (by decide) (fun c_149 => ?_) (fun c_149 => ?_)
          · refine lv_iload hx hb dX9_term_155 (lv_at hl 0 rfl) ?_
            refine lv_if_eq (tgt := 163) hx hb dX9_term_157 (by decide) (fun c_150 => absurd c_150 (by decide +kernel)) (fun c_150 => ?_)
            refine lv_iconst (v := 1) hx hb dX9_term_160 (by decide) ?_
            refine lv_istore (lv' := [(7, .int 1), (8, .int 1), (0, .ref h0), (1, .int p0), (2, .int p1), (3, .int p2), (4, .int p3), (5, .int p4), (6, .int p5)]) hx hb dX9_term_161 hl (by decide) rfl (fun ls hl => ?_)
            refine lv_iload hx hb dX9_term_163 (lv_at hl 0 rfl) ?_
            refine lv_if_eq (tgt := 177) hx hb dX9_term_165 (by decide) (fun c_151 => absurd c_151 (by decide +kernel)) (fun c_151 => ?_)
            refine lv_aload_n hx hb dX9_term_168 rfl (lv_at hl 2 rfl) ?_
            refine lv_iload hx hb dX9_term_169 (lv_at hl 0 rfl) ?_
            refine yVwi (As := [.int 1]) (rest := []) C0 (g_X9_no l G S d_1 h0 1 hSh hPod_1 hm_h0 hk_h0 (by decide +kernel)) ok_X9_no (mW177 : Cond.methodLink RX9 168 yX9_no ∈ wsT) ⟨Nat.le_of_ble_eq_true rfl, Nat.le_of_ble_eq_true rfl⟩ hP hD hS hA hK hN hm_h0 hk_h0 (by decide) rfl rfl rfl hl.1 rfl (Nat.le_of_ble_eq_true rfl) ⟨Nat.le_of_ble_eq_true rfl, Nat.le_of_ble_eq_true rfl⟩ dX9_term_171 (fun r_152 d_153 H locs hr_152 hP hD hS => ?_)
            obtain ⟨hgad_153, hpad_153, hfad_153, hxd_153⟩ := hr_152
            have hfd_153 : yK [38] d d_153 h0 := yK.tr hfd_1 hfad_153 (by decide)
            have hE0d_153 : (d_153.1 h0 0).toInt = (d_1.1 h0 0).toInt := congrArg Int32.toInt (hfad_153 0 (by decide))
            have hE1d_153 : (d_153.1 h0 1).toInt = (d_1.1 h0 1).toInt := congrArg Int32.toInt (hfad_153 1 (by decide))
            have hE2d_153 : (d_153.1 h0 2).toInt = (d_1.1 h0 2).toInt := congrArg Int32.toInt (hfad_153 2 (by decide))
            have hE3d_153 : (d_153.1 h0 3).toInt = (d_1.1 h0 3).toInt := congrArg Int32.toInt (hfad_153 3 (by decide))
            have hE63d_153 : (d_153.1 h0 63).toInt = (d_1.1 h0 63).toInt := congrArg Int32.toInt (hfad_153 63 (by decide))
            have hId_153 : yMI S d_153 h0 := yMI.ag hId_1 hSh hm_h0 hk_h0 hgad_153 hfad_153 (by decide) (by decide)
            have hgd_153 : yAg S [9, 34, 35, 36, 37, 38, 39, 40, 69] d d_153 := yAg.tr hgd_1 hgad_153 (by first | decide | exact fun _ h => h)
            have hPod_153 : yPo S d_153 := hpad_153 hPod_1
            refine lv_pop hx hb dX9_term_174 rfl ?_
            refine lv_iconst (v := 0) hx hb dX9_term_175 (by decide) ?_
            have hCC_154 := yMI.c hId_153
            have F_155 := fnlt (rfl : (p2 : Int32).toInt = (p2 : Int32).toInt) (by decide +kernel : (0 : Int32).toInt = 0) c_3
            have F_156 := flt (by decide +kernel : (4 : Int32).toInt = 4) (rfl : (p2 : Int32).toInt = (p2 : Int32).toInt) c_118
            have F_157 := fne (rfl : (p3 : Int32).toInt = (p3 : Int32).toInt) (by decide +kernel : (1 : Int32).toInt = 1) c_119
            have F_158 := feq (rfl : (p3 : Int32).toInt = (p3 : Int32).toInt) (by decide +kernel : (3 : Int32).toInt = 3) c_120
            have F_159 := fne (by decide +kernel : (1 : Int32).toInt = 1) (by decide +kernel : (0 : Int32).toInt = 0) c_148
            have F_160 := fne (rfl : (p3 : Int32).toInt = (p3 : Int32).toInt) (by decide +kernel : (4 : Int32).toInt = 4) c_149
            have F_161 := fne (by decide +kernel : (1 : Int32).toInt = 1) (by decide +kernel : (0 : Int32).toInt = 0) c_150
            have F_162 := fne (by decide +kernel : (1 : Int32).toInt = 1) (by decide +kernel : (0 : Int32).toInt = 0) c_151
            exact W.zret (v := 0) (ty := .boolean) hx hb hr rfl (fun t ht hW => ⟨⟨0, d_153, rfl, ⟨hgd_153, (fun _ => hPod_153), hfd_153, ⟨hId_153, Or.inl ⟨by have h0_ : (0 : Int32).toInt = 0 := (by decide +kernel); omega, by omega, (zTr.ag (zTr.ag zTr.rf hSh hm_h0 hk_h0 hsd_1 (by decide)) hSh hm_h0 hk_h0 hgad_153 (by decide))⟩⟩⟩, by rw [ht]; exact hP, hD⟩, hS.F ht⟩) hS.2.2 dX9_term_176
          · refine lv_iload hx hb dX9_term_119 (lv_at hl 0 rfl) ?_
            refine lv_if_ne (tgt := 148) hx hb dX9_term_121 (by decide) (fun c_163 => ?_) (fun c_163 => absurd c_163 (by decide +kernel))
            refine lv_iconst (v := 1) hx hb dX9_term_148 (by decide) ?_
            refine lv_goto (tgt := 153) hx hb dX9_term_149 (by decide) ?_
            refine lv_istore (lv' := [(8, .int 1), (7, .int r_2), (0, .ref h0), (1, .int p0), (2, .int p1), (3, .int p2), (4, .int p3), (5, .int p4), (6, .int p5)]) hx hb dX9_term_153 hl (by decide) rfl (fun ls hl => ?_)
            refine lv_iload hx hb dX9_term_155 (lv_at hl 0 rfl) ?_
            refine lv_if_eq (tgt := 163) hx hb dX9_term_157 (by decide) (fun c_164 => absurd c_164 (by decide +kernel)) (fun c_164 => ?_)
            refine lv_iconst (v := 1) hx hb dX9_term_160 (by decide) ?_
            refine lv_istore (lv' := [(7, .int 1), (8, .int 1), (0, .ref h0), (1, .int p0), (2, .int p1), (3, .int p2), (4, .int p3), (5, .int p4), (6, .int p5)]) hx hb dX9_term_161 hl (by decide) rfl (fun ls hl => ?_)
            refine lv_iload hx hb dX9_term_163 (lv_at hl 0 rfl) ?_
            refine lv_if_eq (tgt := 177) hx hb dX9_term_165 (by decide) (fun c_165 => absurd c_165 (by decide +kernel)) (fun c_165 => ?_)
            refine lv_aload_n hx hb dX9_term_168 rfl (lv_at hl 2 rfl) ?_
            refine lv_iload hx hb dX9_term_169 (lv_at hl 0 rfl) ?_
            refine yVwi (As := [.int 1]) (rest := []) C0 (g_X9_no l G S d_1 h0 1 hSh hPod_1 hm_h0 hk_h0 (by decide +kernel)) ok_X9_no (mW177 : Cond.methodLink RX9 168 yX9_no ∈ wsT) ⟨Nat.le_of_ble_eq_true rfl, Nat.le_of_ble_eq_true rfl⟩ hP hD hS hA hK hN hm_h0 hk_h0 (by decide) rfl rfl rfl hl.1 rfl (Nat.le_of_ble_eq_true rfl) ⟨Nat.le_of_ble_eq_true rfl, Nat.le_of_ble_eq_true rfl⟩ dX9_term_171 (fun r_166 d_167 H locs hr_166 hP hD hS => ?_)
            obtain ⟨hgad_167, hpad_167, hfad_167, hxd_167⟩ := hr_166
            have hfd_167 : yK [38] d d_167 h0 := yK.tr hfd_1 hfad_167 (by decide)
            have hE0d_167 : (d_167.1 h0 0).toInt = (d_1.1 h0 0).toInt := congrArg Int32.toInt (hfad_167 0 (by decide))
            have hE1d_167 : (d_167.1 h0 1).toInt = (d_1.1 h0 1).toInt := congrArg Int32.toInt (hfad_167 1 (by decide))
            have hE2d_167 : (d_167.1 h0 2).toInt = (d_1.1 h0 2).toInt := congrArg Int32.toInt (hfad_167 2 (by decide))
            have hE3d_167 : (d_167.1 h0 3).toInt = (d_1.1 h0 3).toInt := congrArg Int32.toInt (hfad_167 3 (by decide))
            have hE63d_167 : (d_167.1 h0 63).toInt = (d_1.1 h0 63).toInt := congrArg Int32.toInt (hfad_167 63 (by decide))
            have hId_167 : yMI S d_167 h0 := yMI.ag hId_1 hSh hm_h0 hk_h0 hgad_167 hfad_167 (by decide) (by decide)
            have hgd_167 : yAg S [9, 34, 35, 36, 37, 38, 39, 40, 69] d d_167 := yAg.tr hgd_1 hgad_167 (by first | decide | exact fun _ h => h)
            have hPod_167 : yPo S d_167 := hpad_167 hPod_1
            refine lv_pop hx hb dX9_term_174 rfl ?_
            refine lv_iconst (v := 0) hx hb dX9_term_175 (by decide) ?_
            have hCC_168 := yMI.c hId_167
            have F_169 := fnlt (rfl : (p2 : Int32).toInt = (p2 : Int32).toInt) (by decide +kernel : (0 : Int32).toInt = 0) c_3
            have F_170 := flt (by decide +kernel : (4 : Int32).toInt = 4) (rfl : (p2 : Int32).toInt = (p2 : Int32).toInt) c_118
            have F_171 := fne (rfl : (p3 : Int32).toInt = (p3 : Int32).toInt) (by decide +kernel : (1 : Int32).toInt = 1) c_119
            have F_172 := feq (rfl : (p3 : Int32).toInt = (p3 : Int32).toInt) (by decide +kernel : (3 : Int32).toInt = 3) c_120
            have F_173 := fne (by decide +kernel : (1 : Int32).toInt = 1) (by decide +kernel : (0 : Int32).toInt = 0) c_148
            have F_174 := feq (rfl : (p3 : Int32).toInt = (p3 : Int32).toInt) (by decide +kernel : (4 : Int32).toInt = 4) c_149
            have F_175 := fne (by decide +kernel : (1 : Int32).toInt = 1) (by decide +kernel : (0 : Int32).toInt = 0) c_163
            have F_176 := fne (by decide +kernel : (1 : Int32).toInt = 1) (by decide +kernel : (0 : Int32).toInt = 0) c_164
            have F_177 := fne (by decide +kernel : (1 : Int32).toInt = 1) (by decide +kernel : (0 : Int32).toInt = 0) c_165
            exact W.zret (v := 0) (ty := .boolean) hx hb hr rfl (fun t ht hW => ⟨⟨0, d_167, rfl, ⟨hgd_167, (fun _ => hPod_167), hfd_167, ⟨hId_167, Or.inl ⟨by have h0_ : (0 : Int32).toInt = 0 := (by decide +kernel); omega, by omega, (zTr.ag (zTr.ag zTr.rf hSh hm_h0 hk_h0 hsd_1 (by decide)) hSh hm_h0 hk_h0 hgad_167 (by decide))⟩⟩⟩, by rw [ht]; exact hP, hD⟩, hS.F ht⟩) hS.2.2 dX9_term_176
      · refine lv_iload hx hb dX9_term_46 (lv_at hl 0 rfl) ?_
        refine lv_if_ne (tgt := 77) hx hb dX9_term_48 (by decide) (fun c_178 => ?_) (fun c_178 => absurd c_178 (by decide +kernel))
        refine lv_iconst (v := 1) hx hb dX9_term_77 (by decide) ?_
        refine lv_goto (tgt := 82) hx hb dX9_term_78 (by decide) ?_
        refine lv_istore (lv' := [(8, .int 1), (7, .int r_2), (0, .ref h0), (1, .int p0), (2, .int p1), (3, .int p2), (4, .int p3), (5, .int p4), (6, .int p5)]) hx hb dX9_term_82 hl (by decide) rfl (fun ls hl => ?_)
        refine lv_iload hx hb dX9_term_84 (lv_at hl 6 rfl) ?_
        refine lv_iconst (v := 3) hx hb dX9_term_86 (by decide) ?_
        refine lv_icmp_ne (tgt := 113) hx hb dX9_term_87 (by decide) (fun c_179 => ?_) (fun c_179 => ?_)
        · refine lv_iload hx hb dX9_term_113 (lv_at hl 6 rfl) ?_
          refine lv_iconst (v := 4) hx hb dX9_term_115 (by decide) ?_
          refine lv_icmp_ne (tgt := 155) hx hb dX9_term_116 (by decide) (fun c_180 => ?_) (fun c_180 => ?_)
          · refine lv_iload hx hb dX9_term_155 (lv_at hl 0 rfl) ?_
            refine lv_if_eq (tgt := 163) hx hb dX9_term_157 (by decide) (fun c_181 => absurd c_181 (by decide +kernel)) (fun c_181 => ?_)
            refine lv_iconst (v := 1) hx hb dX9_term_160 (by decide) ?_
            refine lv_istore (lv' := [(7, .int 1), (8, .int 1), (0, .ref h0), (1, .int p0), (2, .int p1), (3, .int p2), (4, .int p3), (5, .int p4), (6, .int p5)]) hx hb dX9_term_161 hl (by decide) rfl (fun ls hl => ?_)
            refine lv_iload hx hb dX9_term_163 (lv_at hl 0 rfl) ?_
            refine lv_if_eq (tgt := 177) hx hb dX9_term_165 (by decide) (fun c_182 => absurd c_182 (by decide +kernel)) (fun c_182 => ?_)
            refine lv_aload_n hx hb dX9_term_168 rfl (lv_at hl 2 rfl) ?_
            refine lv_iload hx hb dX9_term_169 (lv_at hl 0 rfl) ?_
            refine yVwi (As := [.int 1]) (rest := []) C0 (g_X9_no l G S d_1 h0 1 hSh hPod_1 hm_h0 hk_h0 (by decide +kernel)) ok_X9_no (mW177 : Cond.methodLink RX9 168 yX9_no ∈ wsT) ⟨Nat.le_of_ble_eq_true rfl, Nat.le_of_ble_eq_true rfl⟩ hP hD hS hA hK hN hm_h0 hk_h0 (by decide) rfl rfl rfl hl.1 rfl (Nat.le_of_ble_eq_true rfl) ⟨Nat.le_of_ble_eq_true rfl, Nat.le_of_ble_eq_true rfl⟩ dX9_term_171 (fun r_183 d_184 H locs hr_183 hP hD hS => ?_)
            obtain ⟨hgad_184, hpad_184, hfad_184, hxd_184⟩ := hr_183
            have hfd_184 : yK [38] d d_184 h0 := yK.tr hfd_1 hfad_184 (by decide)
            have hE0d_184 : (d_184.1 h0 0).toInt = (d_1.1 h0 0).toInt := congrArg Int32.toInt (hfad_184 0 (by decide))
            have hE1d_184 : (d_184.1 h0 1).toInt = (d_1.1 h0 1).toInt := congrArg Int32.toInt (hfad_184 1 (by decide))
            have hE2d_184 : (d_184.1 h0 2).toInt = (d_1.1 h0 2).toInt := congrArg Int32.toInt (hfad_184 2 (by decide))
            have hE3d_184 : (d_184.1 h0 3).toInt = (d_1.1 h0 3).toInt := congrArg Int32.toInt (hfad_184 3 (by decide))
            have hE63d_184 : (d_184.1 h0 63).toInt = (d_1.1 h0 63).toInt := congrArg Int32.toInt (hfad_184 63 (by decide))
            have hId_184 : yMI S d_184 h0 := yMI.ag hId_1 hSh hm_h0 hk_h0 hgad_184 hfad_184 (by decide) (by decide)
            have hgd_184 : yAg S [9, 34, 35, 36, 37, 38, 39, 40, 69] d d_184 := yAg.tr hgd_1 hgad_184 (by first | decide | exact fun _ h => h)
            have hPod_184 : yPo S d_184 := hpad_184 hPod_1
            refine lv_pop hx hb dX9_term_174 rfl ?_
            refine lv_iconst (v := 0) hx hb dX9_term_175 (by decide) ?_
            have hCC_185 := yMI.c hId_184
            have F_186 := fnlt (rfl : (p2 : Int32).toInt = (p2 : Int32).toInt) (by decide +kernel : (0 : Int32).toInt = 0) c_3
            have F_187 := flt (by decide +kernel : (4 : Int32).toInt = 4) (rfl : (p2 : Int32).toInt = (p2 : Int32).toInt) c_118
            have F_188 := feq (rfl : (p3 : Int32).toInt = (p3 : Int32).toInt) (by decide +kernel : (1 : Int32).toInt = 1) c_119
            have F_189 := fne (by decide +kernel : (1 : Int32).toInt = 1) (by decide +kernel : (0 : Int32).toInt = 0) c_178
            have F_190 := fne (rfl : (p3 : Int32).toInt = (p3 : Int32).toInt) (by decide +kernel : (3 : Int32).toInt = 3) c_179
            have F_191 := fne (rfl : (p3 : Int32).toInt = (p3 : Int32).toInt) (by decide +kernel : (4 : Int32).toInt = 4) c_180
            have F_192 := fne (by decide +kernel : (1 : Int32).toInt = 1) (by decide +kernel : (0 : Int32).toInt = 0) c_181
            have F_193 := fne (by decide +kernel : (1 : Int32).toInt = 1) (by decide +kernel : (0 : Int32).toInt = 0) c_182
            exact W.zret (v := 0) (ty := .boolean) hx hb hr rfl (fun t ht hW => ⟨⟨0, d_184, rfl, ⟨hgd_184, (fun _ => hPod_184), hfd_184, ⟨hId_184, Or.inl ⟨by have h0_ : (0 : Int32).toInt = 0 := (by decide +kernel); omega, by omega, (zTr.ag (zTr.ag zTr.rf hSh hm_h0 hk_h0 hsd_1 (by decide)) hSh hm_h0 hk_h0 hgad_184 (by decide))⟩⟩⟩, by rw [ht]; exact hP, hD⟩, hS.F ht⟩) hS.2.2 dX9_term_176
          · refine lv_iload hx hb dX9_term_119 (lv_at hl 0 rfl) ?_
            refine lv_if_ne (tgt := 148) hx hb dX9_term_121 (by decide) (fun c_194 => ?_) (fun c_194 => absurd c_194 (by decide +kernel))
            refine lv_iconst (v := 1) hx hb dX9_term_148 (by decide) ?_
            refine lv_goto (tgt := 153) hx hb dX9_term_149 (by decide) ?_
            refine lv_istore (lv' := [(8, .int 1), (7, .int r_2), (0, .ref h0), (1, .int p0), (2, .int p1), (3, .int p2), (4, .int p3), (5, .int p4), (6, .int p5)]) hx hb dX9_term_153 hl (by decide) rfl (fun ls hl => ?_)
            refine lv_iload hx hb dX9_term_155 (lv_at hl 0 rfl) ?_
            refine lv_if_eq (tgt := 163) hx hb dX9_term_157 (by decide) (fun c_195 => absurd c_195 (by decide +kernel)) (fun c_195 => ?_)
            refine lv_iconst (v := 1) hx hb dX9_term_160 (by decide) ?_
            refine lv_istore (lv' := [(7, .int 1), (8, .int 1), (0, .ref h0), (1, .int p0), (2, .int p1), (3, .int p2), (4, .int p3), (5, .int p4), (6, .int p5)]) hx hb dX9_term_161 hl (by decide) rfl (fun ls hl => ?_)
            refine lv_iload hx hb dX9_term_163 (lv_at hl 0 rfl) ?_
            refine lv_if_eq (tgt := 177) hx hb dX9_term_165 (by decide) (fun c_196 => absurd c_196 (by decide +kernel)) (fun c_196 => ?_)
            refine lv_aload_n hx hb dX9_term_168 rfl (lv_at hl 2 rfl) ?_
            refine lv_iload hx hb dX9_term_169 (lv_at hl 0 rfl) ?_
            refine yVwi (As := [.int 1]) (rest := []) C0 (g_X9_no l G S d_1 h0 1 hSh hPod_1 hm_h0 hk_h0 (by decide +kernel)) ok_X9_no (mW177 : Cond.methodLink RX9 168 yX9_no ∈ wsT) ⟨Nat.le_of_ble_eq_true rfl, Nat.le_of_ble_eq_true rfl⟩ hP hD hS hA hK hN hm_h0 hk_h0 (by decide) rfl rfl rfl hl.1 rfl (Nat.le_of_ble_eq_true rfl) ⟨Nat.le_of_ble_eq_true rfl, Nat.le_of_ble_eq_true rfl⟩ dX9_term_171 (fun r_197 d_198 H locs hr_197 hP hD hS => ?_)
            obtain ⟨hgad_198, hpad_198, hfad_198, hxd_198⟩ := hr_197
            have hfd_198 : yK [38] d d_198 h0 := yK.tr hfd_1 hfad_198 (by decide)
            have hE0d_198 : (d_198.1 h0 0).toInt = (d_1.1 h0 0).toInt := congrArg Int32.toInt (hfad_198 0 (by decide))
            have hE1d_198 : (d_198.1 h0 1).toInt = (d_1.1 h0 1).toInt := congrArg Int32.toInt (hfad_198 1 (by decide))
            have hE2d_198 : (d_198.1 h0 2).toInt = (d_1.1 h0 2).toInt := congrArg Int32.toInt (hfad_198 2 (by decide))
            have hE3d_198 : (d_198.1 h0 3).toInt = (d_1.1 h0 3).toInt := congrArg Int32.toInt (hfad_198 3 (by decide))
            have hE63d_198 : (d_198.1 h0 63).toInt = (d_1.1 h0 63).toInt := congrArg Int32.toInt (hfad_198 63 (by decide))
            have hId_198 : yMI S d_198 h0 := yMI.ag hId_1 hSh hm_h0 hk_h0 hgad_198 hfad_198 (by decide) (by decide)
            have hgd_198 : yAg S [9, 34, 35, 36, 37, 38, 39, 40, 69] d d_198 := yAg.tr hgd_1 hgad_198 (by first | decide | exact fun _ h => h)
            have hPod_198 : yPo S d_198 := hpad_198 hPod_1
            refine lv_pop hx hb dX9_term_174 rfl ?_
            refine lv_iconst (v := 0) hx hb dX9_term_175 (by decide) ?_
            have hCC_199 := yMI.c hId_198
            have F_200 := fnlt (rfl : (p2 : Int32).toInt = (p2 : Int32).toInt) (by decide +kernel : (0 : Int32).toInt = 0) c_3
            have F_201 := flt (by decide +kernel : (4 : Int32).toInt = 4) (rfl : (p2 : Int32).toInt = (p2 : Int32).toInt) c_118
            have F_202 := feq (rfl : (p3 : Int32).toInt = (p3 : Int32).toInt) (by decide +kernel : (1 : Int32).toInt = 1) c_119
            have F_203 := fne (by decide +kernel : (1 : Int32).toInt = 1) (by decide +kernel : (0 : Int32).toInt = 0) c_178
            have F_204 := fne (rfl : (p3 : Int32).toInt = (p3 : Int32).toInt) (by decide +kernel : (3 : Int32).toInt = 3) c_179
            have F_205 := feq (rfl : (p3 : Int32).toInt = (p3 : Int32).toInt) (by decide +kernel : (4 : Int32).toInt = 4) c_180
            have F_206 := fne (by decide +kernel : (1 : Int32).toInt = 1) (by decide +kernel : (0 : Int32).toInt = 0) c_194
            have F_207 := fne (by decide +kernel : (1 : Int32).toInt = 1) (by decide +kernel : (0 : Int32).toInt = 0) c_195
            have F_208 := fne (by decide +kernel : (1 : Int32).toInt = 1) (by decide +kernel : (0 : Int32).toInt = 0) c_196
            exact W.zret (v := 0) (ty := .boolean) hx hb hr rfl (fun t ht hW => ⟨⟨0, d_198, rfl, ⟨hgd_198, (fun _ => hPod_198), hfd_198, ⟨hId_198, Or.inl ⟨by have h0_ : (0 : Int32).toInt = 0 := (by decide +kernel); omega, by omega, (zTr.ag (zTr.ag zTr.rf hSh hm_h0 hk_h0 hsd_1 (by decide)) hSh hm_h0 hk_h0 hgad_198 (by decide))⟩⟩⟩, by rw [ht]; exact hP, hD⟩, hS.F ht⟩) hS.2.2 dX9_term_176
        · refine lv_iload hx hb dX9_term_90 (lv_at hl 0 rfl) ?_
          refine lv_if_ne (tgt := 106) hx hb dX9_term_92 (by decide) (fun c_209 => ?_) (fun c_209 => absurd c_209 (by decide +kernel))
          refine lv_iconst (v := 1) hx hb dX9_term_106 (by decide) ?_
          refine lv_goto (tgt := 111) hx hb dX9_term_107 (by decide) ?_
          refine lv_istore (lv' := [(8, .int 1), (7, .int r_2), (0, .ref h0), (1, .int p0), (2, .int p1), (3, .int p2), (4, .int p3), (5, .int p4), (6, .int p5)]) hx hb dX9_term_111 hl (by decide) rfl (fun ls hl => ?_)
          refine lv_iload hx hb dX9_term_113 (lv_at hl 6 rfl) ?_
          refine lv_iconst (v := 4) hx hb dX9_term_115 (by decide) ?_
          refine lv_icmp_ne (tgt := 155) hx hb dX9_term_116 (by decide) (fun c_210 => ?_) (fun c_210 => ?_)
          · refine lv_iload hx hb dX9_term_155 (lv_at hl 0 rfl) ?_
            refine lv_if_eq (tgt := 163) hx hb dX9_term_157 (by decide) (fun c_211 => absurd c_211 (by decide +kernel)) (fun c_211 => ?_)
            refine lv_iconst (v := 1) hx hb dX9_term_160 (by decide) ?_
            refine lv_istore (lv' := [(7, .int 1), (8, .int 1), (0, .ref h0), (1, .int p0), (2, .int p1), (3, .int p2), (4, .int p3), (5, .int p4), (6, .int p5)]) hx hb dX9_term_161 hl (by decide) rfl (fun ls hl => ?_)
            refine lv_iload hx hb dX9_term_163 (lv_at hl 0 rfl) ?_
            refine lv_if_eq (tgt := 177) hx hb dX9_term_165 (by decide) (fun c_212 => absurd c_212 (by decide +kernel)) (fun c_212 => ?_)
            refine lv_aload_n hx hb dX9_term_168 rfl (lv_at hl 2 rfl) ?_
            refine lv_iload hx hb dX9_term_169 (lv_at hl 0 rfl) ?_
            refine yVwi (As := [.int 1]) (rest := []) C0 (g_X9_no l G S d_1 h0 1 hSh hPod_1 hm_h0 hk_h0 (by decide +kernel)) ok_X9_no (mW177 : Cond.methodLink RX9 168 yX9_no ∈ wsT) ⟨Nat.le_of_ble_eq_true rfl, Nat.le_of_ble_eq_true rfl⟩ hP hD hS hA hK hN hm_h0 hk_h0 (by decide) rfl rfl rfl hl.1 rfl (Nat.le_of_ble_eq_true rfl) ⟨Nat.le_of_ble_eq_true rfl, Nat.le_of_ble_eq_true rfl⟩ dX9_term_171 (fun r_213 d_214 H locs hr_213 hP hD hS => ?_)
            obtain ⟨hgad_214, hpad_214, hfad_214, hxd_214⟩ := hr_213
            have hfd_214 : yK [38] d d_214 h0 := yK.tr hfd_1 hfad_214 (by decide)
            have hE0d_214 : (d_214.1 h0 0).toInt = (d_1.1 h0 0).toInt := congrArg Int32.toInt (hfad_214 0 (by decide))
            have hE1d_214 : (d_214.1 h0 1).toInt = (d_1.1 h0 1).toInt := congrArg Int32.toInt (hfad_214 1 (by decide))
            have hE2d_214 : (d_214.1 h0 2).toInt = (d_1.1 h0 2).toInt := congrArg Int32.toInt (hfad_214 2 (by decide))
            have hE3d_214 : (d_214.1 h0 3).toInt = (d_1.1 h0 3).toInt := congrArg Int32.toInt (hfad_214 3 (by decide))
            have hE63d_214 : (d_214.1 h0 63).toInt = (d_1.1 h0 63).toInt := congrArg Int32.toInt (hfad_214 63 (by decide))
            have hId_214 : yMI S d_214 h0 := yMI.ag hId_1 hSh hm_h0 hk_h0 hgad_214 hfad_214 (by decide) (by decide)
            have hgd_214 : yAg S [9, 34, 35, 36, 37, 38, 39, 40, 69] d d_214 := yAg.tr hgd_1 hgad_214 (by first | decide | exact fun _ h => h)
            have hPod_214 : yPo S d_214 := hpad_214 hPod_1
            refine lv_pop hx hb dX9_term_174 rfl ?_
            refine lv_iconst (v := 0) hx hb dX9_term_175 (by decide) ?_
            have hCC_215 := yMI.c hId_214
            have F_216 := fnlt (rfl : (p2 : Int32).toInt = (p2 : Int32).toInt) (by decide +kernel : (0 : Int32).toInt = 0) c_3
            have F_217 := flt (by decide +kernel : (4 : Int32).toInt = 4) (rfl : (p2 : Int32).toInt = (p2 : Int32).toInt) c_118
            have F_218 := feq (rfl : (p3 : Int32).toInt = (p3 : Int32).toInt) (by decide +kernel : (1 : Int32).toInt = 1) c_119
            have F_219 := fne (by decide +kernel : (1 : Int32).toInt = 1) (by decide +kernel : (0 : Int32).toInt = 0) c_178
            have F_220 := feq (rfl : (p3 : Int32).toInt = (p3 : Int32).toInt) (by decide +kernel : (3 : Int32).toInt = 3) c_179
            have F_221 := fne (by decide +kernel : (1 : Int32).toInt = 1) (by decide +kernel : (0 : Int32).toInt = 0) c_209
            have F_222 := fne (rfl : (p3 : Int32).toInt = (p3 : Int32).toInt) (by decide +kernel : (4 : Int32).toInt = 4) c_210
            have F_223 := fne (by decide +kernel : (1 : Int32).toInt = 1) (by decide +kernel : (0 : Int32).toInt = 0) c_211
            have F_224 := fne (by decide +kernel : (1 : Int32).toInt = 1) (by decide +kernel : (0 : Int32).toInt = 0) c_212
            exact W.zret (v := 0) (ty := .boolean) hx hb hr rfl (fun t ht hW => ⟨⟨0, d_214, rfl, ⟨hgd_214, (fun _ => hPod_214), hfd_214, ⟨hId_214, Or.inl ⟨by have h0_ : (0 : Int32).toInt = 0 := (by decide +kernel); omega, by omega, (zTr.ag (zTr.ag zTr.rf hSh hm_h0 hk_h0 hsd_1 (by decide)) hSh hm_h0 hk_h0 hgad_214 (by decide))⟩⟩⟩, by rw [ht]; exact hP, hD⟩, hS.F ht⟩) hS.2.2 dX9_term_176
          · refine lv_iload hx hb dX9_term_119 (lv_at hl 0 rfl) ?_
            refine lv_if_ne (tgt := 148) hx hb dX9_term_121 (by decide) (fun c_225 => ?_) (fun c_225 => absurd c_225 (by decide +kernel))
            refine lv_iconst (v := 1) hx hb dX9_term_148 (by decide) ?_
            refine lv_goto (tgt := 153) hx hb dX9_term_149 (by decide) ?_
            refine lv_istore (lv' := [(8, .int 1), (7, .int r_2), (0, .ref h0), (1, .int p0), (2, .int p1), (3, .int p2), (4, .int p3), (5, .int p4), (6, .int p5)]) hx hb dX9_term_153 hl (by decide) rfl (fun ls hl => ?_)
            refine lv_iload hx hb dX9_term_155 (lv_at hl 0 rfl) ?_
            refine lv_if_eq (tgt := 163) hx hb dX9_term_157 (by decide) (fun c_226 => absurd c_226 (by decide +kernel)) (fun c_226 => ?_)
            refine lv_iconst (v := 1) hx hb dX9_term_160 (by decide) ?_
            refine lv_istore (lv' := [(7, .int 1), (8, .int 1), (0, .ref h0), (1, .int p0), (2, .int p1), (3, .int p2), (4, .int p3), (5, .int p4), (6, .int p5)]) hx hb dX9_term_161 hl (by decide) rfl (fun ls hl => ?_)
            refine lv_iload hx hb dX9_term_163 (lv_at hl 0 rfl) ?_
            refine lv_if_eq (tgt := 177) hx hb dX9_term_165 (by decide) (fun c_227 => absurd c_227 (by decide +kernel)) (fun c_227 => ?_)
            refine lv_aload_n hx hb dX9_term_168 rfl (lv_at hl 2 rfl) ?_
            refine lv_iload hx hb dX9_term_169 (lv_at hl 0 rfl) ?_
            refine yVwi (As := [.int 1]) (rest := []) C0 (g_X9_no l G S d_1 h0 1 hSh hPod_1 hm_h0 hk_h0 (by decide +kernel)) ok_X9_no (mW177 : Cond.methodLink RX9 168 yX9_no ∈ wsT) ⟨Nat.le_of_ble_eq_true rfl, Nat.le_of_ble_eq_true rfl⟩ hP hD hS hA hK hN hm_h0 hk_h0 (by decide) rfl rfl rfl hl.1 rfl (Nat.le_of_ble_eq_true rfl) ⟨Nat.le_of_ble_eq_true rfl, Nat.le_of_ble_eq_true rfl⟩ dX9_term_171 (fun r_228 d_229 H locs hr_228 hP hD hS => ?_)
            obtain ⟨hgad_229, hpad_229, hfad_229, hxd_229⟩ := hr_228
            have hfd_229 : yK [38] d d_229 h0 := yK.tr hfd_1 hfad_229 (by decide)
            have hE0d_229 : (d_229.1 h0 0).toInt = (d_1.1 h0 0).toInt := congrArg Int32.toInt (hfad_229 0 (by decide))
            have hE1d_229 : (d_229.1 h0 1).toInt = (d_1.1 h0 1).toInt := congrArg Int32.toInt (hfad_229 1 (by decide))
            have hE2d_229 : (d_229.1 h0 2).toInt = (d_1.1 h0 2).toInt := congrArg Int32.toInt (hfad_229 2 (by decide))
            have hE3d_229 : (d_229.1 h0 3).toInt = (d_1.1 h0 3).toInt := congrArg Int32.toInt (hfad_229 3 (by decide))
            have hE63d_229 : (d_229.1 h0 63).toInt = (d_1.1 h0 63).toInt := congrArg Int32.toInt (hfad_229 63 (by decide))
            have hId_229 : yMI S d_229 h0 := yMI.ag hId_1 hSh hm_h0 hk_h0 hgad_229 hfad_229 (by decide) (by decide)
            have hgd_229 : yAg S [9, 34, 35, 36, 37, 38, 39, 40, 69] d d_229 := yAg.tr hgd_1 hgad_229 (by first | decide | exact fun _ h => h)
            have hPod_229 : yPo S d_229 := hpad_229 hPod_1
            refine lv_pop hx hb dX9_term_174 rfl ?_
            refine lv_iconst (v := 0) hx hb dX9_term_175 (by decide) ?_
            have hCC_230 := yMI.c hId_229
            have F_231 := fnlt (rfl : (p2 : Int32).toInt = (p2 : Int32).toInt) (by decide +kernel : (0 : Int32).toInt = 0) c_3
            have F_232 := flt (by decide +kernel : (4 : Int32).toInt = 4) (rfl : (p2 : Int32).toInt = (p2 : Int32).toInt) c_118
            have F_233 := feq (rfl : (p3 : Int32).toInt = (p3 : Int32).toInt) (by decide +kernel : (1 : Int32).toInt = 1) c_119
            have F_234 := fne (by decide +kernel : (1 : Int32).toInt = 1) (by decide +kernel : (0 : Int32).toInt = 0) c_178
            have F_235 := feq (rfl : (p3 : Int32).toInt = (p3 : Int32).toInt) (by decide +kernel : (3 : Int32).toInt = 3) c_179
            have F_236 := fne (by decide +kernel : (1 : Int32).toInt = 1) (by decide +kernel : (0 : Int32).toInt = 0) c_209
            have F_237 := feq (rfl : (p3 : Int32).toInt = (p3 : Int32).toInt) (by decide +kernel : (4 : Int32).toInt = 4) c_210
            have F_238 := fne (by decide +kernel : (1 : Int32).toInt = 1) (by decide +kernel : (0 : Int32).toInt = 0) c_225
            have F_239 := fne (by decide +kernel : (1 : Int32).toInt = 1) (by decide +kernel : (0 : Int32).toInt = 0) c_226
            have F_240 := fne (by decide +kernel : (1 : Int32).toInt = 1) (by decide +kernel : (0 : Int32).toInt = 0) c_227
            exact W.zret (v := 0) (ty := .boolean) hx hb hr rfl (fun t ht hW => ⟨⟨0, d_229, rfl, ⟨hgd_229, (fun _ => hPod_229), hfd_229, ⟨hId_229, Or.inl ⟨by have h0_ : (0 : Int32).toInt = 0 := (by decide +kernel); omega, by omega, (zTr.ag (zTr.ag zTr.rf hSh hm_h0 hk_h0 hsd_1 (by decide)) hSh hm_h0 hk_h0 hgad_229 (by decide))⟩⟩⟩, by rw [ht]; exact hP, hD⟩, hS.F ht⟩) hS.2.2 dX9_term_176
    · refine lv_iload hx hb dX9_term_22 (lv_at hl 5 rfl) ?_
      refine lv_if_lt (tgt := 33) hx hb dX9_term_24 (by decide) (fun c_241 => ?_) (fun c_241 => ?_)
      · refine lv_iconst (v := 1) hx hb dX9_term_33 (by decide) ?_
        refine lv_goto (tgt := 38) hx hb dX9_term_34 (by decide) ?_
        refine lv_istore (lv' := [(8, .int 1), (7, .int r_2), (0, .ref h0), (1, .int p0), (2, .int p1), (3, .int p2), (4, .int p3), (5, .int p4), (6, .int p5)]) hx hb dX9_term_38 hl (by decide) rfl (fun ls hl => ?_)
        refine lv_iload hx hb dX9_term_40 (lv_at hl 6 rfl) ?_
        refine lv_iconst (v := 1) hx hb dX9_term_42 (by decide) ?_
        refine lv_icmp_ne (tgt := 84) hx hb dX9_term_43 (by decide) (fun c_242 => ?_) (fun c_242 => ?_)
        · refine lv_iload hx hb dX9_term_84 (lv_at hl 6 rfl) ?_
          refine lv_iconst (v := 3) hx hb dX9_term_86 (by decide) ?_
          refine lv_icmp_ne (tgt := 113) hx hb dX9_term_87 (by decide) (fun c_243 => ?_) (fun c_243 => ?_)
          · refine lv_iload hx hb dX9_term_113 (lv_at hl 6 rfl) ?_
            refine lv_iconst (v := 4) hx hb dX9_term_115 (by decide) ?_
            refine lv_icmp_ne (tgt := 155) hx hb dX9_term_116 (by decide) (fun c_244 => ?_) (fun c_244 => ?_)
            · refine lv_iload hx hb dX9_term_155 (lv_at hl 0 rfl) ?_
              refine lv_if_eq (tgt := 163) hx hb dX9_term_157 (by decide) (fun c_245 => absurd c_245 (by decide +kernel)) (fun c_245 => ?_)
              refine lv_iconst (v := 1) hx hb dX9_term_160 (by decide) ?_
              refine lv_istore (lv' := [(7, .int 1), (8, .int 1), (0, .ref h0), (1, .int p0), (2, .int p1), (3, .int p2), (4, .int p3), (5, .int p4), (6, .int p5)]) hx hb dX9_term_161 hl (by decide) rfl (fun ls hl => ?_)
              refine lv_iload hx hb dX9_term_163 (lv_at hl 0 rfl) ?_
              refine lv_if_eq (tgt := 177) hx hb dX9_term_165 (by decide) (fun c_246 => absurd c_246 (by decide +kernel)) (fun c_246 => ?_)
              refine lv_aload_n hx hb dX9_term_168 rfl (lv_at hl 2 rfl) ?_
              refine lv_iload hx hb dX9_term_169 (lv_at hl 0 rfl) ?_
              refine yVwi (As := [.int 1]) (rest := []) C0 (g_X9_no l G S d_1 h0 1 hSh hPod_1 hm_h0 hk_h0 (by decide +kernel)) ok_X9_no (mW177 : Cond.methodLink RX9 168 yX9_no ∈ wsT) ⟨Nat.le_of_ble_eq_true rfl, Nat.le_of_ble_eq_true rfl⟩ hP hD hS hA hK hN hm_h0 hk_h0 (by decide) rfl rfl rfl hl.1 rfl (Nat.le_of_ble_eq_true rfl) ⟨Nat.le_of_ble_eq_true rfl, Nat.le_of_ble_eq_true rfl⟩ dX9_term_171 (fun r_247 d_248 H locs hr_247 hP hD hS => ?_)
              obtain ⟨hgad_248, hpad_248, hfad_248, hxd_248⟩ := hr_247
              have hfd_248 : yK [38] d d_248 h0 := yK.tr hfd_1 hfad_248 (by decide)
              have hE0d_248 : (d_248.1 h0 0).toInt = (d_1.1 h0 0).toInt := congrArg Int32.toInt (hfad_248 0 (by decide))
              have hE1d_248 : (d_248.1 h0 1).toInt = (d_1.1 h0 1).toInt := congrArg Int32.toInt (hfad_248 1 (by decide))
              have hE2d_248 : (d_248.1 h0 2).toInt = (d_1.1 h0 2).toInt := congrArg Int32.toInt (hfad_248 2 (by decide))
              have hE3d_248 : (d_248.1 h0 3).toInt = (d_1.1 h0 3).toInt := congrArg Int32.toInt (hfad_248 3 (by decide))
              have hE63d_248 : (d_248.1 h0 63).toInt = (d_1.1 h0 63).toInt := congrArg Int32.toInt (hfad_248 63 (by decide))
              have hId_248 : yMI S d_248 h0 := yMI.ag hId_1 hSh hm_h0 hk_h0 hgad_248 hfad_248 (by decide) (by decide)
              have hgd_248 : yAg S [9, 34, 35, 36, 37, 38, 39, 40, 69] d d_248 := yAg.tr hgd_1 hgad_248 (by first | decide | exact fun _ h => h)
              have hPod_248 : yPo S d_248 := hpad_248 hPod_1
              refine lv_pop hx hb dX9_term_174 rfl ?_
              refine lv_iconst (v := 0) hx hb dX9_term_175 (by decide) ?_
              have hCC_249 := yMI.c hId_248
              have F_250 := fnlt (rfl : (p2 : Int32).toInt = (p2 : Int32).toInt) (by decide +kernel : (0 : Int32).toInt = 0) c_3
              have F_251 := fnlt (by decide +kernel : (4 : Int32).toInt = 4) (rfl : (p2 : Int32).toInt = (p2 : Int32).toInt) c_118
              have F_252 := flt (rfl : (p3 : Int32).toInt = (p3 : Int32).toInt) (by decide +kernel : (0 : Int32).toInt = 0) c_241
              have F_253 := fne (rfl : (p3 : Int32).toInt = (p3 : Int32).toInt) (by decide +kernel : (1 : Int32).toInt = 1) c_242
              have F_254 := fne (rfl : (p3 : Int32).toInt = (p3 : Int32).toInt) (by decide +kernel : (3 : Int32).toInt = 3) c_243
              have F_255 := fne (rfl : (p3 : Int32).toInt = (p3 : Int32).toInt) (by decide +kernel : (4 : Int32).toInt = 4) c_244
              have F_256 := fne (by decide +kernel : (1 : Int32).toInt = 1) (by decide +kernel : (0 : Int32).toInt = 0) c_245
              have F_257 := fne (by decide +kernel : (1 : Int32).toInt = 1) (by decide +kernel : (0 : Int32).toInt = 0) c_246
              exact W.zret (v := 0) (ty := .boolean) hx hb hr rfl (fun t ht hW => ⟨⟨0, d_248, rfl, ⟨hgd_248, (fun _ => hPod_248), hfd_248, ⟨hId_248, Or.inl ⟨by have h0_ : (0 : Int32).toInt = 0 := (by decide +kernel); omega, by omega, (zTr.ag (zTr.ag zTr.rf hSh hm_h0 hk_h0 hsd_1 (by decide)) hSh hm_h0 hk_h0 hgad_248 (by decide))⟩⟩⟩, by rw [ht]; exact hP, hD⟩, hS.F ht⟩) hS.2.2 dX9_term_176
            · refine lv_iload hx hb dX9_term_119 (lv_at hl 0 rfl) ?_
              refine lv_if_ne (tgt := 148) hx hb dX9_term_121 (by decide) (fun c_258 => ?_) (fun c_258 => absurd c_258 (by decide +kernel))
              refine lv_iconst (v := 1) hx hb dX9_term_148 (by decide) ?_
              refine lv_goto (tgt := 153) hx hb dX9_term_149 (by decide) ?_
              refine lv_istore (lv' := [(8, .int 1), (7, .int r_2), (0, .ref h0), (1, .int p0), (2, .int p1), (3, .int p2), (4, .int p3), (5, .int p4), (6, .int p5)]) hx hb dX9_term_153 hl (by decide) rfl (fun ls hl => ?_)
              refine lv_iload hx hb dX9_term_155 (lv_at hl 0 rfl) ?_
              refine lv_if_eq (tgt := 163) hx hb dX9_term_157 (by decide) (fun c_259 => absurd c_259 (by decide +kernel)) (fun c_259 => ?_)
              refine lv_iconst (v := 1) hx hb dX9_term_160 (by decide) ?_
              refine lv_istore (lv' := [(7, .int 1), (8, .int 1), (0, .ref h0), (1, .int p0), (2, .int p1), (3, .int p2), (4, .int p3), (5, .int p4), (6, .int p5)]) hx hb dX9_term_161 hl (by decide) rfl (fun ls hl => ?_)
              refine lv_iload hx hb dX9_term_163 (lv_at hl 0 rfl) ?_
              refine lv_if_eq (tgt := 177) hx hb dX9_term_165 (by decide) (fun c_260 => absurd c_260 (by decide +kernel)) (fun c_260 => ?_)
              refine lv_aload_n hx hb dX9_term_168 rfl (lv_at hl 2 rfl) ?_
              refine lv_iload hx hb dX9_term_169 (lv_at hl 0 rfl) ?_
              refine yVwi (As := [.int 1]) (rest := []) C0 (g_X9_no l G S d_1 h0 1 hSh hPod_1 hm_h0 hk_h0 (by decide +kernel)) ok_X9_no (mW177 : Cond.methodLink RX9 168 yX9_no ∈ wsT) ⟨Nat.le_of_ble_eq_true rfl, Nat.le_of_ble_eq_true rfl⟩ hP hD hS hA hK hN hm_h0 hk_h0 (by decide) rfl rfl rfl hl.1 rfl (Nat.le_of_ble_eq_true rfl) ⟨Nat.le_of_ble_eq_true rfl, Nat.le_of_ble_eq_true rfl⟩ dX9_term_171 (fun r_261 d_262 H locs hr_261 hP hD hS => ?_)
              obtain ⟨hgad_262, hpad_262, hfad_262, hxd_262⟩ := hr_261
              have hfd_262 : yK [38] d d_262 h0 := yK.tr hfd_1 hfad_262 (by decide)
              have hE0d_262 : (d_262.1 h0 0).toInt = (d_1.1 h0 0).toInt := congrArg Int32.toInt (hfad_262 0 (by decide))
              have hE1d_262 : (d_262.1 h0 1).toInt = (d_1.1 h0 1).toInt := congrArg Int32.toInt (hfad_262 1 (by decide))
              have hE2d_262 : (d_262.1 h0 2).toInt = (d_1.1 h0 2).toInt := congrArg Int32.toInt (hfad_262 2 (by decide))
              have hE3d_262 : (d_262.1 h0 3).toInt = (d_1.1 h0 3).toInt := congrArg Int32.toInt (hfad_262 3 (by decide))
              have hE63d_262 : (d_262.1 h0 63).toInt = (d_1.1 h0 63).toInt := congrArg Int32.toInt (hfad_262 63 (by decide))
              have hId_262 : yMI S d_262 h0 := yMI.ag hId_1 hSh hm_h0 hk_h0 hgad_262 hfad_262 (by decide) (by decide)
              have hgd_262 : yAg S [9, 34, 35, 36, 37, 38, 39, 40, 69] d d_262 := yAg.tr hgd_1 hgad_262 (by first | decide | exact fun _ h => h)
              have hPod_262 : yPo S d_262 := hpad_262 hPod_1
              refine lv_pop hx hb dX9_term_174 rfl ?_
              refine lv_iconst (v := 0) hx hb dX9_term_175 (by decide) ?_
              have hCC_263 := yMI.c hId_262
              have F_264 := fnlt (rfl : (p2 : Int32).toInt = (p2 : Int32).toInt) (by decide +kernel : (0 : Int32).toInt = 0) c_3
              have F_265 := fnlt (by decide +kernel : (4 : Int32).toInt = 4) (rfl : (p2 : Int32).toInt = (p2 : Int32).toInt) c_118
              have F_266 := flt (rfl : (p3 : Int32).toInt = (p3 : Int32).toInt) (by decide +kernel : (0 : Int32).toInt = 0) c_241
              have F_267 := fne (rfl : (p3 : Int32).toInt = (p3 : Int32).toInt) (by decide +kernel : (1 : Int32).toInt = 1) c_242
              have F_268 := fne (rfl : (p3 : Int32).toInt = (p3 : Int32).toInt) (by decide +kernel : (3 : Int32).toInt = 3) c_243
              have F_269 := feq (rfl : (p3 : Int32).toInt = (p3 : Int32).toInt) (by decide +kernel : (4 : Int32).toInt = 4) c_244
              have F_270 := fne (by decide +kernel : (1 : Int32).toInt = 1) (by decide +kernel : (0 : Int32).toInt = 0) c_258
              have F_271 := fne (by decide +kernel : (1 : Int32).toInt = 1) (by decide +kernel : (0 : Int32).toInt = 0) c_259
              have F_272 := fne (by decide +kernel : (1 : Int32).toInt = 1) (by decide +kernel : (0 : Int32).toInt = 0) c_260
              exact W.zret (v := 0) (ty := .boolean) hx hb hr rfl (fun t ht hW => ⟨⟨0, d_262, rfl, ⟨hgd_262, (fun _ => hPod_262), hfd_262, ⟨hId_262, Or.inl ⟨by have h0_ : (0 : Int32).toInt = 0 := (by decide +kernel); omega, by omega, (zTr.ag (zTr.ag zTr.rf hSh hm_h0 hk_h0 hsd_1 (by decide)) hSh hm_h0 hk_h0 hgad_262 (by decide))⟩⟩⟩, by rw [ht]; exact hP, hD⟩, hS.F ht⟩) hS.2.2 dX9_term_176
          · refine lv_iload hx hb dX9_term_90 (lv_at hl 0 rfl) ?_
            refine lv_if_ne (tgt := 106) hx hb dX9_term_92 (by decide) (fun c_273 => ?_) (fun c_273 => absurd c_273 (by decide +kernel))
            refine lv_iconst (v := 1) hx hb dX9_term_106 (by decide) ?_
            refine lv_goto (tgt := 111) hx hb dX9_term_107 (by decide) ?_
            refine lv_istore (lv' := [(8, .int 1), (7, .int r_2), (0, .ref h0), (1, .int p0), (2, .int p1), (3, .int p2), (4, .int p3), (5, .int p4), (6, .int p5)]) hx hb dX9_term_111 hl (by decide) rfl (fun ls hl => ?_)
            refine lv_iload hx hb dX9_term_113 (lv_at hl 6 rfl) ?_
            refine lv_iconst (v := 4) hx hb dX9_term_115 (by decide) ?_
            refine lv_icmp_ne (tgt := 155) hx hb dX9_term_116 (by decide) (fun c_274 => ?_) (fun c_274 => ?_)
            · refine lv_iload hx hb dX9_term_155 (lv_at hl 0 rfl) ?_
              refine lv_if_eq (tgt := 163) hx hb dX9_term_157 (by decide) (fun c_275 => absurd c_275 (by decide +kernel)) (fun c_275 => ?_)
              refine lv_iconst (v := 1) hx hb dX9_term_160 (by decide) ?_
              refine lv_istore (lv' := [(7, .int 1), (8, .int 1), (0, .ref h0), (1, .int p0), (2, .int p1), (3, .int p2), (4, .int p3), (5, .int p4), (6, .int p5)]) hx hb dX9_term_161 hl (by decide) rfl (fun ls hl => ?_)
              refine lv_iload hx hb dX9_term_163 (lv_at hl 0 rfl) ?_
              refine lv_if_eq (tgt := 177) hx hb dX9_term_165 (by decide) (fun c_276 => absurd c_276 (by decide +kernel)) (fun c_276 => ?_)
              refine lv_aload_n hx hb dX9_term_168 rfl (lv_at hl 2 rfl) ?_
              refine lv_iload hx hb dX9_term_169 (lv_at hl 0 rfl) ?_
              refine yVwi (As := [.int 1]) (rest := []) C0 (g_X9_no l G S d_1 h0 1 hSh hPod_1 hm_h0 hk_h0 (by decide +kernel)) ok_X9_no (mW177 : Cond.methodLink RX9 168 yX9_no ∈ wsT) ⟨Nat.le_of_ble_eq_true rfl, Nat.le_of_ble_eq_true rfl⟩ hP hD hS hA hK hN hm_h0 hk_h0 (by decide) rfl rfl rfl hl.1 rfl (Nat.le_of_ble_eq_true rfl) ⟨Nat.le_of_ble_eq_true rfl, Nat.le_of_ble_eq_true rfl⟩ dX9_term_171 (fun r_277 d_278 H locs hr_277 hP hD hS => ?_)
              obtain ⟨hgad_278, hpad_278, hfad_278, hxd_278⟩ := hr_277
              have hfd_278 : yK [38] d d_278 h0 := yK.tr hfd_1 hfad_278 (by decide)
              have hE0d_278 : (d_278.1 h0 0).toInt = (d_1.1 h0 0).toInt := congrArg Int32.toInt (hfad_278 0 (by decide))
              have hE1d_278 : (d_278.1 h0 1).toInt = (d_1.1 h0 1).toInt := congrArg Int32.toInt (hfad_278 1 (by decide))
              have hE2d_278 : (d_278.1 h0 2).toInt = (d_1.1 h0 2).toInt := congrArg Int32.toInt (hfad_278 2 (by decide))
              have hE3d_278 : (d_278.1 h0 3).toInt = (d_1.1 h0 3).toInt := congrArg Int32.toInt (hfad_278 3 (by decide))
              have hE63d_278 : (d_278.1 h0 63).toInt = (d_1.1 h0 63).toInt := congrArg Int32.toInt (hfad_278 63 (by decide))
              have hId_278 : yMI S d_278 h0 := yMI.ag hId_1 hSh hm_h0 hk_h0 hgad_278 hfad_278 (by decide) (by decide)
              have hgd_278 : yAg S [9, 34, 35, 36, 37, 38, 39, 40, 69] d d_278 := yAg.tr hgd_1 hgad_278 (by first | decide | exact fun _ h => h)
              have hPod_278 : yPo S d_278 := hpad_278 hPod_1
              refine lv_pop hx hb dX9_term_174 rfl ?_
              refine lv_iconst (v := 0) hx hb dX9_term_175 (by decide) ?_
              have hCC_279 := yMI.c hId_278
              have F_280 := fnlt (rfl : (p2 : Int32).toInt = (p2 : Int32).toInt) (by decide +kernel : (0 : Int32).toInt = 0) c_3
              have F_281 := fnlt (by decide +kernel : (4 : Int32).toInt = 4) (rfl : (p2 : Int32).toInt = (p2 : Int32).toInt) c_118
              have F_282 := flt (rfl : (p3 : Int32).toInt = (p3 : Int32).toInt) (by decide +kernel : (0 : Int32).toInt = 0) c_241
              have F_283 := fne (rfl : (p3 : Int32).toInt = (p3 : Int32).toInt) (by decide +kernel : (1 : Int32).toInt = 1) c_242
              have F_284 := feq (rfl : (p3 : Int32).toInt = (p3 : Int32).toInt) (by decide +kernel : (3 : Int32).toInt = 3) c_243
              have F_285 := fne (by decide +kernel : (1 : Int32).toInt = 1) (by decide +kernel : (0 : Int32).toInt = 0) c_273
              have F_286 := fne (rfl : (p3 : Int32).toInt = (p3 : Int32).toInt) (by decide +kernel : (4 : Int32).toInt = 4) c_274
              have F_287 := fne (by decide +kernel : (1 : Int32).toInt = 1) (by decide +kernel : (0 : Int32).toInt = 0) c_275
              have F_288 := fne (by decide +kernel : (1 : Int32).toInt = 1) (by decide +kernel : (0 : Int32).toInt = 0) c_276
              exact W.zret (v := 0) (ty := .boolean) hx hb hr rfl (fun t ht hW => ⟨⟨0, d_278, rfl, ⟨hgd_278, (fun _ => hPod_278), hfd_278, ⟨hId_278, Or.inl ⟨by have h0_ : (0 : Int32).toInt = 0 := (by decide +kernel); omega, by omega, (zTr.ag (zTr.ag zTr.rf hSh hm_h0 hk_h0 hsd_1 (by decide)) hSh hm_h0 hk_h0 hgad_278 (by decide))⟩⟩⟩, by rw [ht]; exact hP, hD⟩, hS.F ht⟩) hS.2.2 dX9_term_176
            · refine lv_iload hx hb dX9_term_119 (lv_at hl 0 rfl) ?_
              refine lv_if_ne (tgt := 148) hx hb dX9_term_121 (by decide) (fun c_289 => ?_) (fun c_289 => absurd c_289 (by decide +kernel))
              refine lv_iconst (v := 1) hx hb dX9_term_148 (by decide) ?_
              refine lv_goto (tgt := 153) hx hb dX9_term_149 (by decide) ?_
              refine lv_istore (lv' := [(8, .int 1), (7, .int r_2), (0, .ref h0), (1, .int p0), (2, .int p1), (3, .int p2), (4, .int p3), (5, .int p4), (6, .int p5)]) hx hb dX9_term_153 hl (by decide) rfl (fun ls hl => ?_)
              refine lv_iload hx hb dX9_term_155 (lv_at hl 0 rfl) ?_
              refine lv_if_eq (tgt := 163) hx hb dX9_term_157 (by decide) (fun c_290 => absurd c_290 (by decide +kernel)) (fun c_290 => ?_)
              refine lv_iconst (v := 1) hx hb dX9_term_160 (by decide) ?_
              refine lv_istore (lv' := [(7, .int 1), (8, .int 1), (0, .ref h0), (1, .int p0), (2, .int p1), (3, .int p2), (4, .int p3), (5, .int p4), (6, .int p5)]) hx hb dX9_term_161 hl (by decide) rfl (fun ls hl => ?_)
              refine lv_iload hx hb dX9_term_163 (lv_at hl 0 rfl) ?_
              refine lv_if_eq (tgt := 177) hx hb dX9_term_165 (by decide) (fun c_291 => absurd c_291 (by decide +kernel)) (fun c_291 => ?_)
              refine lv_aload_n hx hb dX9_term_168 rfl (lv_at hl 2 rfl) ?_
              refine lv_iload hx hb dX9_term_169 (lv_at hl 0 rfl) ?_
              refine yVwi (As := [.int 1]) (rest := []) C0 (g_X9_no l G S d_1 h0 1 hSh hPod_1 hm_h0 hk_h0 (by decide +kernel)) ok_X9_no (mW177 : Cond.methodLink RX9 168 yX9_no ∈ wsT) ⟨Nat.le_of_ble_eq_true rfl, Nat.le_of_ble_eq_true rfl⟩ hP hD hS hA hK hN hm_h0 hk_h0 (by decide) rfl rfl rfl hl.1 rfl (Nat.le_of_ble_eq_true rfl) ⟨Nat.le_of_ble_eq_true rfl, Nat.le_of_ble_eq_true rfl⟩ dX9_term_171 (fun r_292 d_293 H locs hr_292 hP hD hS => ?_)
              obtain ⟨hgad_293, hpad_293, hfad_293, hxd_293⟩ := hr_292
              have hfd_293 : yK [38] d d_293 h0 := yK.tr hfd_1 hfad_293 (by decide)
              have hE0d_293 : (d_293.1 h0 0).toInt = (d_1.1 h0 0).toInt := congrArg Int32.toInt (hfad_293 0 (by decide))
              have hE1d_293 : (d_293.1 h0 1).toInt = (d_1.1 h0 1).toInt := congrArg Int32.toInt (hfad_293 1 (by decide))
              have hE2d_293 : (d_293.1 h0 2).toInt = (d_1.1 h0 2).toInt := congrArg Int32.toInt (hfad_293 2 (by decide))
              have hE3d_293 : (d_293.1 h0 3).toInt = (d_1.1 h0 3).toInt := congrArg Int32.toInt (hfad_293 3 (by decide))
              have hE63d_293 : (d_293.1 h0 63).toInt = (d_1.1 h0 63).toInt := congrArg Int32.toInt (hfad_293 63 (by decide))
              have hId_293 : yMI S d_293 h0 := yMI.ag hId_1 hSh hm_h0 hk_h0 hgad_293 hfad_293 (by decide) (by decide)
              have hgd_293 : yAg S [9, 34, 35, 36, 37, 38, 39, 40, 69] d d_293 := yAg.tr hgd_1 hgad_293 (by first | decide | exact fun _ h => h)
              have hPod_293 : yPo S d_293 := hpad_293 hPod_1
              refine lv_pop hx hb dX9_term_174 rfl ?_
              refine lv_iconst (v := 0) hx hb dX9_term_175 (by decide) ?_
              have hCC_294 := yMI.c hId_293
              have F_295 := fnlt (rfl : (p2 : Int32).toInt = (p2 : Int32).toInt) (by decide +kernel : (0 : Int32).toInt = 0) c_3
              have F_296 := fnlt (by decide +kernel : (4 : Int32).toInt = 4) (rfl : (p2 : Int32).toInt = (p2 : Int32).toInt) c_118
              have F_297 := flt (rfl : (p3 : Int32).toInt = (p3 : Int32).toInt) (by decide +kernel : (0 : Int32).toInt = 0) c_241
              have F_298 := fne (rfl : (p3 : Int32).toInt = (p3 : Int32).toInt) (by decide +kernel : (1 : Int32).toInt = 1) c_242
              have F_299 := feq (rfl : (p3 : Int32).toInt = (p3 : Int32).toInt) (by decide +kernel : (3 : Int32).toInt = 3) c_243
              have F_300 := fne (by decide +kernel : (1 : Int32).toInt = 1) (by decide +kernel : (0 : Int32).toInt = 0) c_273
              have F_301 := feq (rfl : (p3 : Int32).toInt = (p3 : Int32).toInt) (by decide +kernel : (4 : Int32).toInt = 4) c_274
              have F_302 := fne (by decide +kernel : (1 : Int32).toInt = 1) (by decide +kernel : (0 : Int32).toInt = 0) c_289
              have F_303 := fne (by decide +kernel : (1 : Int32).toInt = 1) (by decide +kernel : (0 : Int32).toInt = 0) c_290
              have F_304 := fne (by decide +kernel : (1 : Int32).toInt = 1) (by decide +kernel : (0 : Int32).toInt = 0) c_291
              exact W.zret (v := 0) (ty := .boolean) hx hb hr rfl (fun t ht hW => ⟨⟨0, d_293, rfl, ⟨hgd_293, (fun _ => hPod_293), hfd_293, ⟨hId_293, Or.inl ⟨by have h0_ : (0 : Int32).toInt = 0 := (by decide +kernel); omega, by omega, (zTr.ag (zTr.ag zTr.rf hSh hm_h0 hk_h0 hsd_1 (by decide)) hSh hm_h0 hk_h0 hgad_293 (by decide))⟩⟩⟩, by rw [ht]; exact hP, hD⟩, hS.F ht⟩) hS.2.2 dX9_term_176
        · refine lv_iload hx hb dX9_term_46 (lv_at hl 0 rfl) ?_
          refine lv_if_ne (tgt := 77) hx hb dX9_term_48 (by decide) (fun c_305 => ?_) (fun c_305 => absurd c_305 (by decide +kernel))
          refine lv_iconst (v := 1) hx hb dX9_term_77 (by decide) ?_
          refine lv_goto (tgt := 82) hx hb dX9_term_78 (by decide) ?_
          refine lv_istore (lv' := [(8, .int 1), (7, .int r_2), (0, .ref h0), (1, .int p0), (2, .int p1), (3, .int p2), (4, .int p3), (5, .int p4), (6, .int p5)]) hx hb dX9_term_82 hl (by decide) rfl (fun ls hl => ?_)
          refine lv_iload hx hb dX9_term_84 (lv_at hl 6 rfl) ?_
          refine lv_iconst (v := 3) hx hb dX9_term_86 (by decide) ?_
          refine lv_icmp_ne (tgt := 113) hx hb dX9_term_87 (by decide) (fun c_306 => ?_) (fun c_306 => ?_)
          · refine lv_iload hx hb dX9_term_113 (lv_at hl 6 rfl) ?_
            refine lv_iconst (v := 4) hx hb dX9_term_115 (by decide) ?_
            refine lv_icmp_ne (tgt := 155) hx hb dX9_term_116 (by decide) (fun c_307 => ?_) (fun c_307 => ?_)
            · refine lv_iload hx hb dX9_term_155 (lv_at hl 0 rfl) ?_
              refine lv_if_eq (tgt := 163) hx hb dX9_term_157 (by decide) (fun c_308 => absurd c_308 (by decide +kernel)) (fun c_308 => ?_)
              refine lv_iconst (v := 1) hx hb dX9_term_160 (by decide) ?_
              refine lv_istore (lv' := [(7, .int 1), (8, .int 1), (0, .ref h0), (1, .int p0), (2, .int p1), (3, .int p2), (4, .int p3), (5, .int p4), (6, .int p5)]) hx hb dX9_term_161 hl (by decide) rfl (fun ls hl => ?_)
              refine lv_iload hx hb dX9_term_163 (lv_at hl 0 rfl) ?_
              refine lv_if_eq (tgt := 177) hx hb dX9_term_165 (by decide) (fun c_309 => absurd c_309 (by decide +kernel)) (fun c_309 => ?_)
              refine lv_aload_n hx hb dX9_term_168 rfl (lv_at hl 2 rfl) ?_
              refine lv_iload hx hb dX9_term_169 (lv_at hl 0 rfl) ?_
              refine yVwi (As := [.int 1]) (rest := []) C0 (g_X9_no l G S d_1 h0 1 hSh hPod_1 hm_h0 hk_h0 (by decide +kernel)) ok_X9_no (mW177 : Cond.methodLink RX9 168 yX9_no ∈ wsT) ⟨Nat.le_of_ble_eq_true rfl, Nat.le_of_ble_eq_true rfl⟩ hP hD hS hA hK hN hm_h0 hk_h0 (by decide) rfl rfl rfl hl.1 rfl (Nat.le_of_ble_eq_true rfl) ⟨Nat.le_of_ble_eq_true rfl, Nat.le_of_ble_eq_true rfl⟩ dX9_term_171 (fun r_310 d_311 H locs hr_310 hP hD hS => ?_)
              obtain ⟨hgad_311, hpad_311, hfad_311, hxd_311⟩ := hr_310
              have hfd_311 : yK [38] d d_311 h0 := yK.tr hfd_1 hfad_311 (by decide)
              have hE0d_311 : (d_311.1 h0 0).toInt = (d_1.1 h0 0).toInt := congrArg Int32.toInt (hfad_311 0 (by decide))
              have hE1d_311 : (d_311.1 h0 1).toInt = (d_1.1 h0 1).toInt := congrArg Int32.toInt (hfad_311 1 (by decide))
              have hE2d_311 : (d_311.1 h0 2).toInt = (d_1.1 h0 2).toInt := congrArg Int32.toInt (hfad_311 2 (by decide))
              have hE3d_311 : (d_311.1 h0 3).toInt = (d_1.1 h0 3).toInt := congrArg Int32.toInt (hfad_311 3 (by decide))
              have hE63d_311 : (d_311.1 h0 63).toInt = (d_1.1 h0 63).toInt := congrArg Int32.toInt (hfad_311 63 (by decide))
              have hId_311 : yMI S d_311 h0 := yMI.ag hId_1 hSh hm_h0 hk_h0 hgad_311 hfad_311 (by decide) (by decide)
              have hgd_311 : yAg S [9, 34, 35, 36, 37, 38, 39, 40, 69] d d_311 := yAg.tr hgd_1 hgad_311 (by first | decide | exact fun _ h => h)
              have hPod_311 : yPo S d_311 := hpad_311 hPod_1
              refine lv_pop hx hb dX9_term_174 rfl ?_
              refine lv_iconst (v := 0) hx hb dX9_term_175 (by decide) ?_
              have hCC_312 := yMI.c hId_311
              have F_313 := fnlt (rfl : (p2 : Int32).toInt = (p2 : Int32).toInt) (by decide +kernel : (0 : Int32).toInt = 0) c_3
              have F_314 := fnlt (by decide +kernel : (4 : Int32).toInt = 4) (rfl : (p2 : Int32).toInt = (p2 : Int32).toInt) c_118
              have F_315 := flt (rfl : (p3 : Int32).toInt = (p3 : Int32).toInt) (by decide +kernel : (0 : Int32).toInt = 0) c_241
              have F_316 := feq (rfl : (p3 : Int32).toInt = (p3 : Int32).toInt) (by decide +kernel : (1 : Int32).toInt = 1) c_242
              have F_317 := fne (by decide +kernel : (1 : Int32).toInt = 1) (by decide +kernel : (0 : Int32).toInt = 0) c_305
              have F_318 := fne (rfl : (p3 : Int32).toInt = (p3 : Int32).toInt) (by decide +kernel : (3 : Int32).toInt = 3) c_306
              have F_319 := fne (rfl : (p3 : Int32).toInt = (p3 : Int32).toInt) (by decide +kernel : (4 : Int32).toInt = 4) c_307
              have F_320 := fne (by decide +kernel : (1 : Int32).toInt = 1) (by decide +kernel : (0 : Int32).toInt = 0) c_308
              have F_321 := fne (by decide +kernel : (1 : Int32).toInt = 1) (by decide +kernel : (0 : Int32).toInt = 0) c_309
              exact W.zret (v := 0) (ty := .boolean) hx hb hr rfl (fun t ht hW => ⟨⟨0, d_311, rfl, ⟨hgd_311, (fun _ => hPod_311), hfd_311, ⟨hId_311, Or.inl ⟨by have h0_ : (0 : Int32).toInt = 0 := (by decide +kernel); omega, by omega, (zTr.ag (zTr.ag zTr.rf hSh hm_h0 hk_h0 hsd_1 (by decide)) hSh hm_h0 hk_h0 hgad_311 (by decide))⟩⟩⟩, by rw [ht]; exact hP, hD⟩, hS.F ht⟩) hS.2.2 dX9_term_176
            · refine lv_iload hx hb dX9_term_119 (lv_at hl 0 rfl) ?_
              refine lv_if_ne (tgt := 148) hx hb dX9_term_121 (by decide) (fun c_322 => ?_) (fun c_322 => absurd c_322 (by decide +kernel))
              refine lv_iconst (v := 1) hx hb dX9_term_148 (by decide) ?_
              refine lv_goto (tgt := 153) hx hb dX9_term_149 (by decide) ?_
              refine lv_istore (lv' := [(8, .int 1), (7, .int r_2), (0, .ref h0), (1, .int p0), (2, .int p1), (3, .int p2), (4, .int p3), (5, .int p4), (6, .int p5)]) hx hb dX9_term_153 hl (by decide) rfl (fun ls hl => ?_)
              refine lv_iload hx hb dX9_term_155 (lv_at hl 0 rfl) ?_
              refine lv_if_eq (tgt := 163) hx hb dX9_term_157 (by decide) (fun c_323 => absurd c_323 (by decide +kernel)) (fun c_323 => ?_)
              refine lv_iconst (v := 1) hx hb dX9_term_160 (by decide) ?_
              refine lv_istore (lv' := [(7, .int 1), (8, .int 1), (0, .ref h0), (1, .int p0), (2, .int p1), (3, .int p2), (4, .int p3), (5, .int p4), (6, .int p5)]) hx hb dX9_term_161 hl (by decide) rfl (fun ls hl => ?_)
              refine lv_iload hx hb dX9_term_163 (lv_at hl 0 rfl) ?_
              refine lv_if_eq (tgt := 177) hx hb dX9_term_165 (by decide) (fun c_324 => absurd c_324 (by decide +kernel)) (fun c_324 => ?_)
              refine lv_aload_n hx hb dX9_term_168 rfl (lv_at hl 2 rfl) ?_
              refine lv_iload hx hb dX9_term_169 (lv_at hl 0 rfl) ?_
              refine yVwi (As := [.int 1]) (rest := []) C0 (g_X9_no l G S d_1 h0 1 hSh hPod_1 hm_h0 hk_h0 (by decide +kernel)) ok_X9_no (mW177 : Cond.methodLink RX9 168 yX9_no ∈ wsT) ⟨Nat.le_of_ble_eq_true rfl, Nat.le_of_ble_eq_true rfl⟩ hP hD hS hA hK hN hm_h0 hk_h0 (by decide) rfl rfl rfl hl.1 rfl (Nat.le_of_ble_eq_true rfl) ⟨Nat.le_of_ble_eq_true rfl, Nat.le_of_ble_eq_true rfl⟩ dX9_term_171 (fun r_325 d_326 H locs hr_325 hP hD hS => ?_)
              obtain ⟨hgad_326, hpad_326, hfad_326, hxd_326⟩ := hr_325
              have hfd_326 : yK [38] d d_326 h0 := yK.tr hfd_1 hfad_326 (by decide)
              have hE0d_326 : (d_326.1 h0 0).toInt = (d_1.1 h0 0).toInt := congrArg Int32.toInt (hfad_326 0 (by decide))
              have hE1d_326 : (d_326.1 h0 1).toInt = (d_1.1 h0 1).toInt := congrArg Int32.toInt (hfad_326 1 (by decide))
              have hE2d_326 : (d_326.1 h0 2).toInt = (d_1.1 h0 2).toInt := congrArg Int32.toInt (hfad_326 2 (by decide))
              have hE3d_326 : (d_326.1 h0 3).toInt = (d_1.1 h0 3).toInt := congrArg Int32.toInt (hfad_326 3 (by decide))
              have hE63d_326 : (d_326.1 h0 63).toInt = (d_1.1 h0 63).toInt := congrArg Int32.toInt (hfad_326 63 (by decide))
              have hId_326 : yMI S d_326 h0 := yMI.ag hId_1 hSh hm_h0 hk_h0 hgad_326 hfad_326 (by decide) (by decide)
              have hgd_326 : yAg S [9, 34, 35, 36, 37, 38, 39, 40, 69] d d_326 := yAg.tr hgd_1 hgad_326 (by first | decide | exact fun _ h => h)
              have hPod_326 : yPo S d_326 := hpad_326 hPod_1
              refine lv_pop hx hb dX9_term_174 rfl ?_
              refine lv_iconst (v := 0) hx hb dX9_term_175 (by decide) ?_
              have hCC_327 := yMI.c hId_326
              have F_328 := fnlt (rfl : (p2 : Int32).toInt = (p2 : Int32).toInt) (by decide +kernel : (0 : Int32).toInt = 0) c_3
              have F_329 := fnlt (by decide +kernel : (4 : Int32).toInt = 4) (rfl : (p2 : Int32).toInt = (p2 : Int32).toInt) c_118
              have F_330 := flt (rfl : (p3 : Int32).toInt = (p3 : Int32).toInt) (by decide +kernel : (0 : Int32).toInt = 0) c_241
              have F_331 := feq (rfl : (p3 : Int32).toInt = (p3 : Int32).toInt) (by decide +kernel : (1 : Int32).toInt = 1) c_242
              have F_332 := fne (by decide +kernel : (1 : Int32).toInt = 1) (by decide +kernel : (0 : Int32).toInt = 0) c_305
              have F_333 := fne (rfl : (p3 : Int32).toInt = (p3 : Int32).toInt) (by decide +kernel : (3 : Int32).toInt = 3) c_306
              have F_334 := feq (rfl : (p3 : Int32).toInt = (p3 : Int32).toInt) (by decide +kernel : (4 : Int32).toInt = 4) c_307
              have F_335 := fne (by decide +kernel : (1 : Int32).toInt = 1) (by decide +kernel : (0 : Int32).toInt = 0) c_322
              have F_336 := fne (by decide +kernel : (1 : Int32).toInt = 1) (by decide +kernel : (0 : Int32).toInt = 0) c_323
              have F_337 := fne (by decide +kernel : (1 : Int32).toInt = 1) (by decide +kernel : (0 : Int32).toInt = 0) c_324
              exact W.zret (v := 0) (ty := .boolean) hx hb hr rfl (fun t ht hW => ⟨⟨0, d_326, rfl, ⟨hgd_326, (fun _ => hPod_326), hfd_326, ⟨hId_326, Or.inl ⟨by have h0_ : (0 : Int32).toInt = 0 := (by decide +kernel); omega, by omega, (zTr.ag (zTr.ag zTr.rf hSh hm_h0 hk_h0 hsd_1 (by decide)) hSh hm_h0 hk_h0 hgad_326 (by decide))⟩⟩⟩, by rw [ht]; exact hP, hD⟩, hS.F ht⟩) hS.2.2 dX9_term_176
          · refine lv_iload hx hb dX9_term_90 (lv_at hl 0 rfl) ?_
            refine lv_if_ne (tgt := 106) hx hb dX9_term_92 (by decide) (fun c_338 => ?_) (fun c_338 => absurd c_338 (by decide +kernel))
            refine lv_iconst (v := 1) hx hb dX9_term_106 (by decide) ?_
            refine lv_goto (tgt := 111) hx hb dX9_term_107 (by decide) ?_
            refine lv_istore (lv' := [(8, .int 1), (7, .int r_2), (0, .ref h0), (1, .int p0), (2, .int p1), (3, .int p2), (4, .int p3), (5, .int p4), (6, .int p5)]) hx hb dX9_term_111 hl (by decide) rfl (fun ls hl => ?_)
            refine lv_iload hx hb dX9_term_113 (lv_at hl 6 rfl) ?_
            refine lv_iconst (v := 4) hx hb dX9_term_115 (by decide) ?_
            refine lv_icmp_ne (tgt := 155) hx hb dX9_term_116 (by decide) (fun c_339 => ?_) (fun c_339 => ?_)
            · refine lv_iload hx hb dX9_term_155 (lv_at hl 0 rfl) ?_
              refine lv_if_eq (tgt := 163) hx hb dX9_term_157 (by decide) (fun c_340 => absurd c_340 (by decide +kernel)) (fun c_340 => ?_)
              refine lv_iconst (v := 1) hx hb dX9_term_160 (by decide) ?_
              refine lv_istore (lv' := [(7, .int 1), (8, .int 1), (0, .ref h0), (1, .int p0), (2, .int p1), (3, .int p2), (4, .int p3), (5, .int p4), (6, .int p5)]) hx hb dX9_term_161 hl (by decide) rfl (fun ls hl => ?_)
              refine lv_iload hx hb dX9_term_163 (lv_at hl 0 rfl) ?_
              refine lv_if_eq (tgt := 177) hx hb dX9_term_165 (by decide) (fun c_341 => absurd c_341 (by decide +kernel)) (fun c_341 => ?_)
              refine lv_aload_n hx hb dX9_term_168 rfl (lv_at hl 2 rfl) ?_
              refine lv_iload hx hb dX9_term_169 (lv_at hl 0 rfl) ?_
              refine yVwi (As := [.int 1]) (rest := []) C0 (g_X9_no l G S d_1 h0 1 hSh hPod_1 hm_h0 hk_h0 (by decide +kernel)) ok_X9_no (mW177 : Cond.methodLink RX9 168 yX9_no ∈ wsT) ⟨Nat.le_of_ble_eq_true rfl, Nat.le_of_ble_eq_true rfl⟩ hP hD hS hA hK hN hm_h0 hk_h0 (by decide) rfl rfl rfl hl.1 rfl (Nat.le_of_ble_eq_true rfl) ⟨Nat.le_of_ble_eq_true rfl, Nat.le_of_ble_eq_true rfl⟩ dX9_term_171 (fun r_342 d_343 H locs hr_342 hP hD hS => ?_)
              obtain ⟨hgad_343, hpad_343, hfad_343, hxd_343⟩ := hr_342
              have hfd_343 : yK [38] d d_343 h0 := yK.tr hfd_1 hfad_343 (by decide)
              have hE0d_343 : (d_343.1 h0 0).toInt = (d_1.1 h0 0).toInt := congrArg Int32.toInt (hfad_343 0 (by decide))
              have hE1d_343 : (d_343.1 h0 1).toInt = (d_1.1 h0 1).toInt := congrArg Int32.toInt (hfad_343 1 (by decide))
              have hE2d_343 : (d_343.1 h0 2).toInt = (d_1.1 h0 2).toInt := congrArg Int32.toInt (hfad_343 2 (by decide))
              have hE3d_343 : (d_343.1 h0 3).toInt = (d_1.1 h0 3).toInt := congrArg Int32.toInt (hfad_343 3 (by decide))
              have hE63d_343 : (d_343.1 h0 63).toInt = (d_1.1 h0 63).toInt := congrArg Int32.toInt (hfad_343 63 (by decide))
              have hId_343 : yMI S d_343 h0 := yMI.ag hId_1 hSh hm_h0 hk_h0 hgad_343 hfad_343 (by decide) (by decide)
              have hgd_343 : yAg S [9, 34, 35, 36, 37, 38, 39, 40, 69] d d_343 := yAg.tr hgd_1 hgad_343 (by first | decide | exact fun _ h => h)
              have hPod_343 : yPo S d_343 := hpad_343 hPod_1
              refine lv_pop hx hb dX9_term_174 rfl ?_
              refine lv_iconst (v := 0) hx hb dX9_term_175 (by decide) ?_
              have hCC_344 := yMI.c hId_343
              have F_345 := fnlt (rfl : (p2 : Int32).toInt = (p2 : Int32).toInt) (by decide +kernel : (0 : Int32).toInt = 0) c_3
              have F_346 := fnlt (by decide +kernel : (4 : Int32).toInt = 4) (rfl : (p2 : Int32).toInt = (p2 : Int32).toInt) c_118
              have F_347 := flt (rfl : (p3 : Int32).toInt = (p3 : Int32).toInt) (by decide +kernel : (0 : Int32).toInt = 0) c_241
              have F_348 := feq (rfl : (p3 : Int32).toInt = (p3 : Int32).toInt) (by decide +kernel : (1 : Int32).toInt = 1) c_242
              have F_349 := fne (by decide +kernel : (1 : Int32).toInt = 1) (by decide +kernel : (0 : Int32).toInt = 0) c_305
              have F_350 := feq (rfl : (p3 : Int32).toInt = (p3 : Int32).toInt) (by decide +kernel : (3 : Int32).toInt = 3) c_306
              have F_351 := fne (by decide +kernel : (1 : Int32).toInt = 1) (by decide +kernel : (0 : Int32).toInt = 0) c_338
              have F_352 := fne (rfl : (p3 : Int32).toInt = (p3 : Int32).toInt) (by decide +kernel : (4 : Int32).toInt = 4) c_339
              have F_353 := fne (by decide +kernel : (1 : Int32).toInt = 1) (by decide +kernel : (0 : Int32).toInt = 0) c_340
              have F_354 := fne (by decide +kernel : (1 : Int32).toInt = 1) (by decide +kernel : (0 : Int32).toInt = 0) c_341
              exact W.zret (v := 0) (ty := .boolean) hx hb hr rfl (fun t ht hW => ⟨⟨0, d_343, rfl, ⟨hgd_343, (fun _ => hPod_343), hfd_343, ⟨hId_343, Or.inl ⟨by have h0_ : (0 : Int32).toInt = 0 := (by decide +kernel); omega, by omega, (zTr.ag (zTr.ag zTr.rf hSh hm_h0 hk_h0 hsd_1 (by decide)) hSh hm_h0 hk_h0 hgad_343 (by decide))⟩⟩⟩, by rw [ht]; exact hP, hD⟩, hS.F ht⟩) hS.2.2 dX9_term_176
            · refine lv_iload hx hb dX9_term_119 (lv_at hl 0 rfl) ?_
              refine lv_if_ne (tgt := 148) hx hb dX9_term_121 (by decide) (fun c_355 => ?_) (fun c_355 => absurd c_355 (by decide +kernel))
              refine lv_iconst (v := 1) hx hb dX9_term_148 (by decide) ?_
              refine lv_goto (tgt := 153) hx hb dX9_term_149 (by decide) ?_
              refine lv_istore (lv' := [(8, .int 1), (7, .int r_2), (0, .ref h0), (1, .int p0), (2, .int p1), (3, .int p2), (4, .int p3), (5, .int p4), (6, .int p5)]) hx hb dX9_term_153 hl (by decide) rfl (fun ls hl => ?_)
              refine lv_iload hx hb dX9_term_155 (lv_at hl 0 rfl) ?_
              refine lv_if_eq (tgt := 163) hx hb dX9_term_157 (by decide) (fun c_356 => absurd c_356 (by decide +kernel)) (fun c_356 => ?_)
              refine lv_iconst (v := 1) hx hb dX9_term_160 (by decide) ?_
              refine lv_istore (lv' := [(7, .int 1), (8, .int 1), (0, .ref h0), (1, .int p0), (2, .int p1), (3, .int p2), (4, .int p3), (5, .int p4), (6, .int p5)]) hx hb dX9_term_161 hl (by decide) rfl (fun ls hl => ?_)
              refine lv_iload hx hb dX9_term_163 (lv_at hl 0 rfl) ?_
              refine lv_if_eq (tgt := 177) hx hb dX9_term_165 (by decide) (fun c_357 => absurd c_357 (by decide +kernel)) (fun c_357 => ?_)
              refine lv_aload_n hx hb dX9_term_168 rfl (lv_at hl 2 rfl) ?_
              refine lv_iload hx hb dX9_term_169 (lv_at hl 0 rfl) ?_
              refine yVwi (As := [.int 1]) (rest := []) C0 (g_X9_no l G S d_1 h0 1 hSh hPod_1 hm_h0 hk_h0 (by decide +kernel)) ok_X9_no (mW177 : Cond.methodLink RX9 168 yX9_no ∈ wsT) ⟨Nat.le_of_ble_eq_true rfl, Nat.le_of_ble_eq_true rfl⟩ hP hD hS hA hK hN hm_h0 hk_h0 (by decide) rfl rfl rfl hl.1 rfl (Nat.le_of_ble_eq_true rfl) ⟨Nat.le_of_ble_eq_true rfl, Nat.le_of_ble_eq_true rfl⟩ dX9_term_171 (fun r_358 d_359 H locs hr_358 hP hD hS => ?_)
              obtain ⟨hgad_359, hpad_359, hfad_359, hxd_359⟩ := hr_358
              have hfd_359 : yK [38] d d_359 h0 := yK.tr hfd_1 hfad_359 (by decide)
              have hE0d_359 : (d_359.1 h0 0).toInt = (d_1.1 h0 0).toInt := congrArg Int32.toInt (hfad_359 0 (by decide))
              have hE1d_359 : (d_359.1 h0 1).toInt = (d_1.1 h0 1).toInt := congrArg Int32.toInt (hfad_359 1 (by decide))
              have hE2d_359 : (d_359.1 h0 2).toInt = (d_1.1 h0 2).toInt := congrArg Int32.toInt (hfad_359 2 (by decide))
              have hE3d_359 : (d_359.1 h0 3).toInt = (d_1.1 h0 3).toInt := congrArg Int32.toInt (hfad_359 3 (by decide))
              have hE63d_359 : (d_359.1 h0 63).toInt = (d_1.1 h0 63).toInt := congrArg Int32.toInt (hfad_359 63 (by decide))
              have hId_359 : yMI S d_359 h0 := yMI.ag hId_1 hSh hm_h0 hk_h0 hgad_359 hfad_359 (by decide) (by decide)
              have hgd_359 : yAg S [9, 34, 35, 36, 37, 38, 39, 40, 69] d d_359 := yAg.tr hgd_1 hgad_359 (by first | decide | exact fun _ h => h)
              have hPod_359 : yPo S d_359 := hpad_359 hPod_1
              refine lv_pop hx hb dX9_term_174 rfl ?_
              refine lv_iconst (v := 0) hx hb dX9_term_175 (by decide) ?_
              have hCC_360 := yMI.c hId_359
              have F_361 := fnlt (rfl : (p2 : Int32).toInt = (p2 : Int32).toInt) (by decide +kernel : (0 : Int32).toInt = 0) c_3
              have F_362 := fnlt (by decide +kernel : (4 : Int32).toInt = 4) (rfl : (p2 : Int32).toInt = (p2 : Int32).toInt) c_118
              have F_363 := flt (rfl : (p3 : Int32).toInt = (p3 : Int32).toInt) (by decide +kernel : (0 : Int32).toInt = 0) c_241
              have F_364 := feq (rfl : (p3 : Int32).toInt = (p3 : Int32).toInt) (by decide +kernel : (1 : Int32).toInt = 1) c_242
              have F_365 := fne (by decide +kernel : (1 : Int32).toInt = 1) (by decide +kernel : (0 : Int32).toInt = 0) c_305
              have F_366 := feq (rfl : (p3 : Int32).toInt = (p3 : Int32).toInt) (by decide +kernel : (3 : Int32).toInt = 3) c_306
              have F_367 := fne (by decide +kernel : (1 : Int32).toInt = 1) (by decide +kernel : (0 : Int32).toInt = 0) c_338
              have F_368 := feq (rfl : (p3 : Int32).toInt = (p3 : Int32).toInt) (by decide +kernel : (4 : Int32).toInt = 4) c_339
              have F_369 := fne (by decide +kernel : (1 : Int32).toInt = 1) (by decide +kernel : (0 : Int32).toInt = 0) c_355
              have F_370 := fne (by decide +kernel : (1 : Int32).toInt = 1) (by decide +kernel : (0 : Int32).toInt = 0) c_356
              have F_371 := fne (by decide +kernel : (1 : Int32).toInt = 1) (by decide +kernel : (0 : Int32).toInt = 0) c_357
              exact W.zret (v := 0) (ty := .boolean) hx hb hr rfl (fun t ht hW => ⟨⟨0, d_359, rfl, ⟨hgd_359, (fun _ => hPod_359), hfd_359, ⟨hId_359, Or.inl ⟨by have h0_ : (0 : Int32).toInt = 0 := (by decide +kernel); omega, by omega, (zTr.ag (zTr.ag zTr.rf hSh hm_h0 hk_h0 hsd_1 (by decide)) hSh hm_h0 hk_h0 hgad_359 (by decide))⟩⟩⟩, by rw [ht]; exact hP, hD⟩, hS.F ht⟩) hS.2.2 dX9_term_176
      · refine lv_iload hx hb dX9_term_27 (lv_at hl 5 rfl) ?_
        refine lv_iconst (v := 4) hx hb dX9_term_29 (by decide) ?_
        refine lv_icmp_le (tgt := 37) hx hb dX9_term_30 (by decide) (fun c_372 => ?_) (fun c_372 => ?_)
        · refine lv_iconst (v := 0) hx hb dX9_term_37 (by decide) ?_
          refine lv_istore (lv' := [(8, .int 0), (7, .int r_2), (0, .ref h0), (1, .int p0), (2, .int p1), (3, .int p2), (4, .int p3), (5, .int p4), (6, .int p5)]) hx hb dX9_term_38 hl (by decide) rfl (fun ls hl => ?_)
          refine lv_iload hx hb dX9_term_40 (lv_at hl 6 rfl) ?_
          refine lv_iconst (v := 1) hx hb dX9_term_42 (by decide) ?_
          refine lv_icmp_ne (tgt := 84) hx hb dX9_term_43 (by decide) (fun c_373 => ?_) (fun c_373 => ?_)
          · refine lv_iload hx hb dX9_term_84 (lv_at hl 6 rfl) ?_
            refine lv_iconst (v := 3) hx hb dX9_term_86 (by decide) ?_
            refine lv_icmp_ne (tgt := 113) hx hb dX9_term_87 (by decide) (fun c_374 => ?_) (fun c_374 => ?_)
            · refine lv_iload hx hb dX9_term_113 (lv_at hl 6 rfl) ?_
              refine lv_iconst (v := 4) hx hb dX9_term_115 (by decide) ?_
              refine lv_icmp_ne (tgt := 155) hx hb dX9_term_116 (by decide) (fun c_375 => ?_) (fun c_375 => ?_)
              · refine lv_iload hx hb dX9_term_155 (lv_at hl 0 rfl) ?_
                refine lv_if_eq (tgt := 163) hx hb dX9_term_157 (by decide) (fun c_376 => ?_) (fun c_376 => absurd c_376 (by decide +kernel))
                refine lv_iload hx hb dX9_term_163 (lv_at hl 1 rfl) ?_
                refine lv_if_eq (tgt := 177) hx hb dX9_term_165 (by decide) (fun c_377 => ?_) (fun c_377 => ?_)
                · refine lv_bipush (v := 60) hx hb dX9_term_177 (by decide) ?_
                  refine lv_iload_n hx hb dX9_term_179 rfl (lv_at hl 3 rfl) ?_
                  refine lv_imul hx hb dX9_term_180 ?_
                  refine lv_topi (fun z_378 ez_378 => ?_)
                  refine lv_iload_n hx hb dX9_term_181 rfl (lv_at hl 4 rfl) ?_
                  refine lv_iadd hx hb dX9_term_182 ?_
                  refine lv_topi (fun z_379 ez_379 => ?_)
                  refine lv_istore (lv' := [(9, .int z_379), (8, .int 0), (7, .int r_2), (0, .ref h0), (1, .int p0), (2, .int p1), (3, .int p2), (4, .int p3), (5, .int p4), (6, .int p5)]) hx hb dX9_term_183 hl (by decide) rfl (fun ls hl => ?_)
                  refine lv_aload_n hx hb dX9_term_185 rfl (lv_at hl 3 rfl) ?_
                  refine yget (ci := 9) (k := 4) (v := .ref (S.2.2.1 h0 4)) (C := RX9) (T := TX9) (N := 67) C0 hK hP hm_h0 hk_h0 (by decide) rfl inlX9 (by decide) mW108 (fun _ h9 => h9) rfl dX9_term_186 ?_
                  obtain ⟨hmy_380, hky_380⟩ := ySh.f9_4 hSh _ hm_h0 hk_h0
                  refine lv_iload hx hb dX9_term_189 (lv_at hl 0 rfl) ?_
                  refine lv_iconst (v := 2) hx hb dX9_term_191 (by decide) ?_
                  have hCC_381 := yMI.c hId_1
                  have F_382 := fnlt (rfl : (p2 : Int32).toInt = (p2 : Int32).toInt) (by decide +kernel : (0 : Int32).toInt = 0) c_3
                  have F_383 := fnlt (by decide +kernel : (4 : Int32).toInt = 4) (rfl : (p2 : Int32).toInt = (p2 : Int32).toInt) c_118
                  have F_384 := fnlt (rfl : (p3 : Int32).toInt = (p3 : Int32).toInt) (by decide +kernel : (0 : Int32).toInt = 0) c_241
                  have F_385 := fle (rfl : (p3 : Int32).toInt = (p3 : Int32).toInt) (by decide +kernel : (4 : Int32).toInt = 4) c_372
                  have F_386 := fne (rfl : (p3 : Int32).toInt = (p3 : Int32).toInt) (by decide +kernel : (1 : Int32).toInt = 1) c_373
                  have F_387 := fne (rfl : (p3 : Int32).toInt = (p3 : Int32).toInt) (by decide +kernel : (3 : Int32).toInt = 3) c_374
                  have F_388 := fne (rfl : (p3 : Int32).toInt = (p3 : Int32).toInt) (by decide +kernel : (4 : Int32).toInt = 4) c_375
                  have F_389 := feq (by decide +kernel : (0 : Int32).toInt = 0) (by decide +kernel : (0 : Int32).toInt = 0) c_376
                  have F_390 := feq (rfl : (r_2 : Int32).toInt = (r_2 : Int32).toInt) (by decide +kernel : (0 : Int32).toInt = 0) c_377
                  have T_392 : (z_378 : Int32).toInt = 60 * (p0 : Int32).toInt := tmul ez_378 (by decide +kernel : (60 : Int32).toInt = 60) (rfl : (p0 : Int32).toInt = (p0 : Int32).toInt) (by omega) (by omega)
                  have T_391 : (z_379 : Int32).toInt = (z_378 : Int32).toInt + (p1 : Int32).toInt := tadd ez_379 (rfl : (z_378 : Int32).toInt = (z_378 : Int32).toInt) (rfl : (p1 : Int32).toInt = (p1 : Int32).toInt) (by omega) (by omega)
                  refine yastB C0 hK hP hD hS hmy_380 hky_380 (by decide) rfl 1 rfl (xinT 2400 rfl (by omega) (by omega)) dX9_term_192 (fun H locs hP hD hS => ?_)
                  obtain ⟨d_393, ed_393⟩ : ∃ z : yD, z = ycs d_1 (S.2.2.1 h0 4) (upd (d_1.2.2.2.1 (S.2.2.1 h0 4)) (z_379 : Int32).toNatClampNeg (vp_nar .byte 2)) := ⟨_, rfl⟩
                  rw [← ed_393] at hP hD
                  have hgd_393 : yAg S [9, 34, 35, 36, 37, 38, 39, 40, 69] d d_393 := by rw [ed_393]; exact yAg.cs hgd_1 (by rw [hky_380]; decide)
                  have hsd_393 : yAg S [34] d_1 d_393 := by rw [ed_393]; exact yAg.cs yAg.rf (by rw [hky_380]; decide)
                  have hPod_393 : yPo S d_393 := by rw [ed_393]; exact hPod_1
                  have hfd_393 : yK [38] d d_393 h0 := yK.ag hfd_1 (show yAg S [34] d_1 d_393 from by rw [ed_393]; exact yAg.cs yAg.rf (by rw [hky_380]; decide)) (by rw [hk_h0]; decide)
                  have hId_393 : yMI S d_393 h0 := yMI.ag hId_1 hSh hm_h0 hk_h0 (show yAg S [34] d_1 d_393 from by rw [ed_393]; exact yAg.cs yAg.rf (by rw [hky_380]; decide)) (yK.ag (F := []) yK.rf (show yAg S [34] d_1 d_393 from by rw [ed_393]; exact yAg.cs yAg.rf (by rw [hky_380]; decide)) (by rw [hk_h0]; decide)) (by decide) (by decide)
                  have hE0d_393 : (d_393.1 h0 0).toInt = (d_1.1 h0 0).toInt := congrArg Int32.toInt ((yK.ag (F := []) yK.rf (show yAg S [34] d_1 d_393 from by rw [ed_393]; exact yAg.cs yAg.rf (by rw [hky_380]; decide)) (by rw [hk_h0]; decide)) 0 (by decide))
                  have hE1d_393 : (d_393.1 h0 1).toInt = (d_1.1 h0 1).toInt := congrArg Int32.toInt ((yK.ag (F := []) yK.rf (show yAg S [34] d_1 d_393 from by rw [ed_393]; exact yAg.cs yAg.rf (by rw [hky_380]; decide)) (by rw [hk_h0]; decide)) 1 (by decide))
                  have hE2d_393 : (d_393.1 h0 2).toInt = (d_1.1 h0 2).toInt := congrArg Int32.toInt ((yK.ag (F := []) yK.rf (show yAg S [34] d_1 d_393 from by rw [ed_393]; exact yAg.cs yAg.rf (by rw [hky_380]; decide)) (by rw [hk_h0]; decide)) 2 (by decide))
                  have hE3d_393 : (d_393.1 h0 3).toInt = (d_1.1 h0 3).toInt := congrArg Int32.toInt ((yK.ag (F := []) yK.rf (show yAg S [34] d_1 d_393 from by rw [ed_393]; exact yAg.cs yAg.rf (by rw [hky_380]; decide)) (by rw [hk_h0]; decide)) 3 (by decide))
                  have hE63d_393 : (d_393.1 h0 63).toInt = (d_1.1 h0 63).toInt := congrArg Int32.toInt ((yK.ag (F := []) yK.rf (show yAg S [34] d_1 d_393 from by rw [ed_393]; exact yAg.cs yAg.rf (by rw [hky_380]; decide)) (by rw [hk_h0]; decide)) 63 (by decide))
                  refine lv_aload_n hx hb dX9_term_193 rfl (lv_at hl 3 rfl) ?_
                  refine yget (ci := 9) (k := 5) (v := .ref (S.2.2.1 h0 5)) (C := RX9) (T := TX9) (N := 67) C0 hK hP hm_h0 hk_h0 (by decide) rfl inlX9 (by decide) mW109 (fun _ h9 => h9) rfl dX9_term_194 ?_
                  obtain ⟨hmy_394, hky_394⟩ := ySh.f9_5 hSh _ hm_h0 hk_h0
                  refine lv_iload hx hb dX9_term_197 (lv_at hl 0 rfl) ?_
                  refine lv_iload_n hx hb dX9_term_199 rfl (lv_at hl 6 rfl) ?_
                  refine lv_i2b hx hb dX9_term_200 rfl ?_
                  refine lv_topi (fun z_395 ez_395 => ?_)
                  have hCC_396 := yMI.c hId_393
                  refine yastB C0 hK hP hD hS hmy_394 hky_394 (by decide) rfl 1 rfl (xinT 2400 rfl (by omega) (by omega)) dX9_term_201 (fun H locs hP hD hS => ?_)
                  obtain ⟨d_397, ed_397⟩ : ∃ z : yD, z = ycs d_393 (S.2.2.1 h0 5) (upd (d_393.2.2.2.1 (S.2.2.1 h0 5)) (z_379 : Int32).toNatClampNeg (vp_nar .byte z_395)) := ⟨_, rfl⟩
                  rw [← ed_397] at hP hD
                  have hgd_397 : yAg S [9, 34, 35, 36, 37, 38, 39, 40, 69] d d_397 := by rw [ed_397]; exact yAg.cs hgd_393 (by rw [hky_394]; decide)
                  have hsd_397 : yAg S [35] d_393 d_397 := by rw [ed_397]; exact yAg.cs yAg.rf (by rw [hky_394]; decide)
                  have hPod_397 : yPo S d_397 := by rw [ed_397]; exact hPod_393
                  have hfd_397 : yK [38] d d_397 h0 := yK.ag hfd_393 (show yAg S [35] d_393 d_397 from by rw [ed_397]; exact yAg.cs yAg.rf (by rw [hky_394]; decide)) (by rw [hk_h0]; decide)
                  have hId_397 : yMI S d_397 h0 := yMI.ag hId_393 hSh hm_h0 hk_h0 (show yAg S [35] d_393 d_397 from by rw [ed_397]; exact yAg.cs yAg.rf (by rw [hky_394]; decide)) (yK.ag (F := []) yK.rf (show yAg S [35] d_393 d_397 from by rw [ed_397]; exact yAg.cs yAg.rf (by rw [hky_394]; decide)) (by rw [hk_h0]; decide)) (by decide) (by decide)
                  have hE0d_397 : (d_397.1 h0 0).toInt = (d_393.1 h0 0).toInt := congrArg Int32.toInt ((yK.ag (F := []) yK.rf (show yAg S [35] d_393 d_397 from by rw [ed_397]; exact yAg.cs yAg.rf (by rw [hky_394]; decide)) (by rw [hk_h0]; decide)) 0 (by decide))
                  have hE1d_397 : (d_397.1 h0 1).toInt = (d_393.1 h0 1).toInt := congrArg Int32.toInt ((yK.ag (F := []) yK.rf (show yAg S [35] d_393 d_397 from by rw [ed_397]; exact yAg.cs yAg.rf (by rw [hky_394]; decide)) (by rw [hk_h0]; decide)) 1 (by decide))
                  have hE2d_397 : (d_397.1 h0 2).toInt = (d_393.1 h0 2).toInt := congrArg Int32.toInt ((yK.ag (F := []) yK.rf (show yAg S [35] d_393 d_397 from by rw [ed_397]; exact yAg.cs yAg.rf (by rw [hky_394]; decide)) (by rw [hk_h0]; decide)) 2 (by decide))
                  have hE3d_397 : (d_397.1 h0 3).toInt = (d_393.1 h0 3).toInt := congrArg Int32.toInt ((yK.ag (F := []) yK.rf (show yAg S [35] d_393 d_397 from by rw [ed_397]; exact yAg.cs yAg.rf (by rw [hky_394]; decide)) (by rw [hk_h0]; decide)) 3 (by decide))
                  have hE63d_397 : (d_397.1 h0 63).toInt = (d_393.1 h0 63).toInt := congrArg Int32.toInt ((yK.ag (F := []) yK.rf (show yAg S [35] d_393 d_397 from by rw [ed_397]; exact yAg.cs yAg.rf (by rw [hky_394]; decide)) (by rw [hk_h0]; decide)) 63 (by decide))
                  refine lv_aload_n hx hb dX9_term_202 rfl (lv_at hl 3 rfl) ?_
                  refine yget (ci := 9) (k := 6) (v := .ref (S.2.2.1 h0 6)) (C := RX9) (T := TX9) (N := 67) C0 hK hP hm_h0 hk_h0 (by decide) rfl inlX9 (by decide) mW110 (fun _ h9 => h9) rfl dX9_term_203 ?_
                  obtain ⟨hmy_398, hky_398⟩ := ySh.f9_6 hSh _ hm_h0 hk_h0
                  refine lv_iload hx hb dX9_term_206 (lv_at hl 0 rfl) ?_
                  refine lv_iload hx hb dX9_term_208 (lv_at hl 7 rfl) ?_
                  refine lv_i2b hx hb dX9_term_210 rfl ?_
                  refine lv_topi (fun z_399 ez_399 => ?_)
                  have hCC_400 := yMI.c hId_397
                  refine yastB C0 hK hP hD hS hmy_398 hky_398 (by decide) rfl 1 rfl (xinT 2400 rfl (by omega) (by omega)) dX9_term_211 (fun H locs hP hD hS => ?_)
                  obtain ⟨d_401, ed_401⟩ : ∃ z : yD, z = ycs d_397 (S.2.2.1 h0 6) (upd (d_397.2.2.2.1 (S.2.2.1 h0 6)) (z_379 : Int32).toNatClampNeg (vp_nar .byte z_399)) := ⟨_, rfl⟩
                  rw [← ed_401] at hP hD
                  have hgd_401 : yAg S [9, 34, 35, 36, 37, 38, 39, 40, 69] d d_401 := by rw [ed_401]; exact yAg.cs hgd_397 (by rw [hky_398]; decide)
                  have hsd_401 : yAg S [36] d_397 d_401 := by rw [ed_401]; exact yAg.cs yAg.rf (by rw [hky_398]; decide)
                  have hPod_401 : yPo S d_401 := by rw [ed_401]; exact hPod_397
                  have hfd_401 : yK [38] d d_401 h0 := yK.ag hfd_397 (show yAg S [36] d_397 d_401 from by rw [ed_401]; exact yAg.cs yAg.rf (by rw [hky_398]; decide)) (by rw [hk_h0]; decide)
                  have hId_401 : yMI S d_401 h0 := yMI.ag hId_397 hSh hm_h0 hk_h0 (show yAg S [36] d_397 d_401 from by rw [ed_401]; exact yAg.cs yAg.rf (by rw [hky_398]; decide)) (yK.ag (F := []) yK.rf (show yAg S [36] d_397 d_401 from by rw [ed_401]; exact yAg.cs yAg.rf (by rw [hky_398]; decide)) (by rw [hk_h0]; decide)) (by decide) (by decide)
                  have hE0d_401 : (d_401.1 h0 0).toInt = (d_397.1 h0 0).toInt := congrArg Int32.toInt ((yK.ag (F := []) yK.rf (show yAg S [36] d_397 d_401 from by rw [ed_401]; exact yAg.cs yAg.rf (by rw [hky_398]; decide)) (by rw [hk_h0]; decide)) 0 (by decide))
                  have hE1d_401 : (d_401.1 h0 1).toInt = (d_397.1 h0 1).toInt := congrArg Int32.toInt ((yK.ag (F := []) yK.rf (show yAg S [36] d_397 d_401 from by rw [ed_401]; exact yAg.cs yAg.rf (by rw [hky_398]; decide)) (by rw [hk_h0]; decide)) 1 (by decide))
                  have hE2d_401 : (d_401.1 h0 2).toInt = (d_397.1 h0 2).toInt := congrArg Int32.toInt ((yK.ag (F := []) yK.rf (show yAg S [36] d_397 d_401 from by rw [ed_401]; exact yAg.cs yAg.rf (by rw [hky_398]; decide)) (by rw [hk_h0]; decide)) 2 (by decide))
                  have hE3d_401 : (d_401.1 h0 3).toInt = (d_397.1 h0 3).toInt := congrArg Int32.toInt ((yK.ag (F := []) yK.rf (show yAg S [36] d_397 d_401 from by rw [ed_401]; exact yAg.cs yAg.rf (by rw [hky_398]; decide)) (by rw [hk_h0]; decide)) 3 (by decide))
                  have hE63d_401 : (d_401.1 h0 63).toInt = (d_397.1 h0 63).toInt := congrArg Int32.toInt ((yK.ag (F := []) yK.rf (show yAg S [36] d_397 d_401 from by rw [ed_401]; exact yAg.cs yAg.rf (by rw [hky_398]; decide)) (by rw [hk_h0]; decide)) 63 (by decide))
                  refine lv_aload_n hx hb dX9_term_212 rfl (lv_at hl 3 rfl) ?_
                  refine yget (ci := 9) (k := 7) (v := .ref (S.2.2.1 h0 7)) (C := RX9) (T := TX9) (N := 67) C0 hK hP hm_h0 hk_h0 (by decide) rfl inlX9 (by decide) mW111 (fun _ h9 => h9) rfl dX9_term_213 ?_
                  obtain ⟨hmy_402, hky_402⟩ := ySh.f9_7 hSh _ hm_h0 hk_h0
                  refine lv_iload hx hb dX9_term_216 (lv_at hl 0 rfl) ?_
                  refine lv_iload hx hb dX9_term_218 (lv_at hl 8 rfl) ?_
                  have hCC_403 := yMI.c hId_401
                  refine yast C0 hK hP hD hS hmy_402 hky_402 (by decide) rfl 0 rfl (xinT 2400 rfl (by omega) (by omega)) dX9_term_220 (fun H locs hP hD hS => ?_)
                  obtain ⟨d_404, ed_404⟩ : ∃ z : yD, z = ycs d_401 (S.2.2.1 h0 7) (upd (d_401.2.2.2.1 (S.2.2.1 h0 7)) (z_379 : Int32).toNatClampNeg p4) := ⟨_, rfl⟩
                  rw [← ed_404] at hP hD
                  have hgd_404 : yAg S [9, 34, 35, 36, 37, 38, 39, 40, 69] d d_404 := by rw [ed_404]; exact yAg.cs hgd_401 (by rw [hky_402]; decide)
                  have hsd_404 : yAg S [37] d_401 d_404 := by rw [ed_404]; exact yAg.cs yAg.rf (by rw [hky_402]; decide)
                  have hPod_404 : yPo S d_404 := by rw [ed_404]; exact hPod_401
                  have hfd_404 : yK [38] d d_404 h0 := yK.ag hfd_401 (show yAg S [37] d_401 d_404 from by rw [ed_404]; exact yAg.cs yAg.rf (by rw [hky_402]; decide)) (by rw [hk_h0]; decide)
                  have hId_404 : yMI S d_404 h0 := yMI.ag hId_401 hSh hm_h0 hk_h0 (show yAg S [37] d_401 d_404 from by rw [ed_404]; exact yAg.cs yAg.rf (by rw [hky_402]; decide)) (yK.ag (F := []) yK.rf (show yAg S [37] d_401 d_404 from by rw [ed_404]; exact yAg.cs yAg.rf (by rw [hky_402]; decide)) (by rw [hk_h0]; decide)) (by decide) (by decide)
                  have hE0d_404 : (d_404.1 h0 0).toInt = (d_401.1 h0 0).toInt := congrArg Int32.toInt ((yK.ag (F := []) yK.rf (show yAg S [37] d_401 d_404 from by rw [ed_404]; exact yAg.cs yAg.rf (by rw [hky_402]; decide)) (by rw [hk_h0]; decide)) 0 (by decide))
                  have hE1d_404 : (d_404.1 h0 1).toInt = (d_401.1 h0 1).toInt := congrArg Int32.toInt ((yK.ag (F := []) yK.rf (show yAg S [37] d_401 d_404 from by rw [ed_404]; exact yAg.cs yAg.rf (by rw [hky_402]; decide)) (by rw [hk_h0]; decide)) 1 (by decide))
                  have hE2d_404 : (d_404.1 h0 2).toInt = (d_401.1 h0 2).toInt := congrArg Int32.toInt ((yK.ag (F := []) yK.rf (show yAg S [37] d_401 d_404 from by rw [ed_404]; exact yAg.cs yAg.rf (by rw [hky_402]; decide)) (by rw [hk_h0]; decide)) 2 (by decide))
                  have hE3d_404 : (d_404.1 h0 3).toInt = (d_401.1 h0 3).toInt := congrArg Int32.toInt ((yK.ag (F := []) yK.rf (show yAg S [37] d_401 d_404 from by rw [ed_404]; exact yAg.cs yAg.rf (by rw [hky_402]; decide)) (by rw [hk_h0]; decide)) 3 (by decide))
                  have hE63d_404 : (d_404.1 h0 63).toInt = (d_401.1 h0 63).toInt := congrArg Int32.toInt ((yK.ag (F := []) yK.rf (show yAg S [37] d_401 d_404 from by rw [ed_404]; exact yAg.cs yAg.rf (by rw [hky_402]; decide)) (by rw [hk_h0]; decide)) 63 (by decide))
                  refine lv_aload_n hx hb dX9_term_221 rfl (lv_at hl 3 rfl) ?_
                  refine yget (ci := 9) (k := 8) (v := .ref (S.2.2.1 h0 8)) (C := RX9) (T := TX9) (N := 67) C0 hK hP hm_h0 hk_h0 (by decide) rfl inlX9 (by decide) mW112 (fun _ h9 => h9) rfl dX9_term_222 ?_
                  obtain ⟨hmy_405, hky_405⟩ := ySh.f9_8 hSh _ hm_h0 hk_h0
                  refine lv_iload hx hb dX9_term_225 (lv_at hl 0 rfl) ?_
                  refine lv_iload hx hb dX9_term_227 (lv_at hl 9 rfl) ?_
                  have hCC_406 := yMI.c hId_404
                  refine yast C0 hK hP hD hS hmy_405 hky_405 (by decide) rfl 0 rfl (xinT 2400 rfl (by omega) (by omega)) dX9_term_229 (fun H locs hP hD hS => ?_)
                  obtain ⟨d_407, ed_407⟩ : ∃ z : yD, z = ycs d_404 (S.2.2.1 h0 8) (upd (d_404.2.2.2.1 (S.2.2.1 h0 8)) (z_379 : Int32).toNatClampNeg p5) := ⟨_, rfl⟩
                  rw [← ed_407] at hP hD
                  have hgd_407 : yAg S [9, 34, 35, 36, 37, 38, 39, 40, 69] d d_407 := by rw [ed_407]; exact yAg.cs hgd_404 (by rw [hky_405]; decide)
                  have hsd_407 : yAg S [38] d_404 d_407 := by rw [ed_407]; exact yAg.cs yAg.rf (by rw [hky_405]; decide)
                  have hPod_407 : yPo S d_407 := by rw [ed_407]; exact hPod_404
                  have hfd_407 : yK [38] d d_407 h0 := yK.ag hfd_404 (show yAg S [38] d_404 d_407 from by rw [ed_407]; exact yAg.cs yAg.rf (by rw [hky_405]; decide)) (by rw [hk_h0]; decide)
                  have hId_407 : yMI S d_407 h0 := yMI.ag hId_404 hSh hm_h0 hk_h0 (show yAg S [38] d_404 d_407 from by rw [ed_407]; exact yAg.cs yAg.rf (by rw [hky_405]; decide)) (yK.ag (F := []) yK.rf (show yAg S [38] d_404 d_407 from by rw [ed_407]; exact yAg.cs yAg.rf (by rw [hky_405]; decide)) (by rw [hk_h0]; decide)) (by decide) (by decide)
                  have hE0d_407 : (d_407.1 h0 0).toInt = (d_404.1 h0 0).toInt := congrArg Int32.toInt ((yK.ag (F := []) yK.rf (show yAg S [38] d_404 d_407 from by rw [ed_407]; exact yAg.cs yAg.rf (by rw [hky_405]; decide)) (by rw [hk_h0]; decide)) 0 (by decide))
                  have hE1d_407 : (d_407.1 h0 1).toInt = (d_404.1 h0 1).toInt := congrArg Int32.toInt ((yK.ag (F := []) yK.rf (show yAg S [38] d_404 d_407 from by rw [ed_407]; exact yAg.cs yAg.rf (by rw [hky_405]; decide)) (by rw [hk_h0]; decide)) 1 (by decide))
                  have hE2d_407 : (d_407.1 h0 2).toInt = (d_404.1 h0 2).toInt := congrArg Int32.toInt ((yK.ag (F := []) yK.rf (show yAg S [38] d_404 d_407 from by rw [ed_407]; exact yAg.cs yAg.rf (by rw [hky_405]; decide)) (by rw [hk_h0]; decide)) 2 (by decide))
                  have hE3d_407 : (d_407.1 h0 3).toInt = (d_404.1 h0 3).toInt := congrArg Int32.toInt ((yK.ag (F := []) yK.rf (show yAg S [38] d_404 d_407 from by rw [ed_407]; exact yAg.cs yAg.rf (by rw [hky_405]; decide)) (by rw [hk_h0]; decide)) 3 (by decide))
                  have hE63d_407 : (d_407.1 h0 63).toInt = (d_404.1 h0 63).toInt := congrArg Int32.toInt ((yK.ag (F := []) yK.rf (show yAg S [38] d_404 d_407 from by rw [ed_407]; exact yAg.cs yAg.rf (by rw [hky_405]; decide)) (by rw [hk_h0]; decide)) 63 (by decide))
                  refine lv_aload_n hx hb dX9_term_230 rfl (lv_at hl 3 rfl) ?_
                  refine yget (ci := 9) (k := 9) (v := .ref (S.2.2.1 h0 9)) (C := RX9) (T := TX9) (N := 67) C0 hK hP hm_h0 hk_h0 (by decide) rfl inlX9 (by decide) mW113 (fun _ h9 => h9) rfl dX9_term_231 ?_
                  obtain ⟨hmy_408, hky_408⟩ := ySh.f9_9 hSh _ hm_h0 hk_h0
                  refine lv_iload hx hb dX9_term_234 (lv_at hl 0 rfl) ?_
                  refine lv_iconst (v := 0) hx hb dX9_term_236 (by decide) ?_
                  have hCC_409 := yMI.c hId_407
                  refine yastB C0 hK hP hD hS hmy_408 hky_408 (by decide) rfl 1 rfl (xinT 2400 rfl (by omega) (by omega)) dX9_term_237 (fun H locs hP hD hS => ?_)
                  obtain ⟨d_410, ed_410⟩ : ∃ z : yD, z = ycs d_407 (S.2.2.1 h0 9) (upd (d_407.2.2.2.1 (S.2.2.1 h0 9)) (z_379 : Int32).toNatClampNeg (vp_nar .byte 0)) := ⟨_, rfl⟩
                  rw [← ed_410] at hP hD
                  have hgd_410 : yAg S [9, 34, 35, 36, 37, 38, 39, 40, 69] d d_410 := by rw [ed_410]; exact yAg.cs hgd_407 (by rw [hky_408]; decide)
                  have hsd_410 : yAg S [39] d_407 d_410 := by rw [ed_410]; exact yAg.cs yAg.rf (by rw [hky_408]; decide)
                  have hPod_410 : yPo S d_410 := by rw [ed_410]; exact hPod_407
                  have hfd_410 : yK [38] d d_410 h0 := yK.ag hfd_407 (show yAg S [39] d_407 d_410 from by rw [ed_410]; exact yAg.cs yAg.rf (by rw [hky_408]; decide)) (by rw [hk_h0]; decide)
                  have hId_410 : yMI S d_410 h0 := yMI.ag hId_407 hSh hm_h0 hk_h0 (show yAg S [39] d_407 d_410 from by rw [ed_410]; exact yAg.cs yAg.rf (by rw [hky_408]; decide)) (yK.ag (F := []) yK.rf (show yAg S [39] d_407 d_410 from by rw [ed_410]; exact yAg.cs yAg.rf (by rw [hky_408]; decide)) (by rw [hk_h0]; decide)) (by decide) (by decide)
                  have hE0d_410 : (d_410.1 h0 0).toInt = (d_407.1 h0 0).toInt := congrArg Int32.toInt ((yK.ag (F := []) yK.rf (show yAg S [39] d_407 d_410 from by rw [ed_410]; exact yAg.cs yAg.rf (by rw [hky_408]; decide)) (by rw [hk_h0]; decide)) 0 (by decide))
                  have hE1d_410 : (d_410.1 h0 1).toInt = (d_407.1 h0 1).toInt := congrArg Int32.toInt ((yK.ag (F := []) yK.rf (show yAg S [39] d_407 d_410 from by rw [ed_410]; exact yAg.cs yAg.rf (by rw [hky_408]; decide)) (by rw [hk_h0]; decide)) 1 (by decide))
                  have hE2d_410 : (d_410.1 h0 2).toInt = (d_407.1 h0 2).toInt := congrArg Int32.toInt ((yK.ag (F := []) yK.rf (show yAg S [39] d_407 d_410 from by rw [ed_410]; exact yAg.cs yAg.rf (by rw [hky_408]; decide)) (by rw [hk_h0]; decide)) 2 (by decide))
                  have hE3d_410 : (d_410.1 h0 3).toInt = (d_407.1 h0 3).toInt := congrArg Int32.toInt ((yK.ag (F := []) yK.rf (show yAg S [39] d_407 d_410 from by rw [ed_410]; exact yAg.cs yAg.rf (by rw [hky_408]; decide)) (by rw [hk_h0]; decide)) 3 (by decide))
                  have hE63d_410 : (d_410.1 h0 63).toInt = (d_407.1 h0 63).toInt := congrArg Int32.toInt ((yK.ag (F := []) yK.rf (show yAg S [39] d_407 d_410 from by rw [ed_410]; exact yAg.cs yAg.rf (by rw [hky_408]; decide)) (by rw [hk_h0]; decide)) 63 (by decide))
                  refine lv_aload_n hx hb dX9_term_238 rfl (lv_at hl 3 rfl) ?_
                  refine yget (ci := 9) (k := 10) (v := .ref (S.2.2.1 h0 10)) (C := RX9) (T := TX9) (N := 67) C0 hK hP hm_h0 hk_h0 (by decide) rfl inlX9 (by decide) mW114 (fun _ h9 => h9) rfl dX9_term_239 ?_
                  obtain ⟨hmy_411, hky_411⟩ := ySh.f9_10 hSh _ hm_h0 hk_h0
                  refine lv_iload hx hb dX9_term_242 (lv_at hl 0 rfl) ?_
                  refine lv_iconst (v := 0) hx hb dX9_term_244 (by decide) ?_
                  have hCC_412 := yMI.c hId_410
                  refine yast C0 hK hP hD hS hmy_411 hky_411 (by decide) rfl 0 rfl (xinT 2400 rfl (by omega) (by omega)) dX9_term_245 (fun H locs hP hD hS => ?_)
                  obtain ⟨d_413, ed_413⟩ : ∃ z : yD, z = ycs d_410 (S.2.2.1 h0 10) (upd (d_410.2.2.2.1 (S.2.2.1 h0 10)) (z_379 : Int32).toNatClampNeg 0) := ⟨_, rfl⟩
                  rw [← ed_413] at hP hD
                  have hgd_413 : yAg S [9, 34, 35, 36, 37, 38, 39, 40, 69] d d_413 := by rw [ed_413]; exact yAg.cs hgd_410 (by rw [hky_411]; decide)
                  have hsd_413 : yAg S [40] d_410 d_413 := by rw [ed_413]; exact yAg.cs yAg.rf (by rw [hky_411]; decide)
                  have hPod_413 : yPo S d_413 := by rw [ed_413]; exact hPod_410
                  have hfd_413 : yK [38] d d_413 h0 := yK.ag hfd_410 (show yAg S [40] d_410 d_413 from by rw [ed_413]; exact yAg.cs yAg.rf (by rw [hky_411]; decide)) (by rw [hk_h0]; decide)
                  have hId_413 : yMI S d_413 h0 := yMI.ag hId_410 hSh hm_h0 hk_h0 (show yAg S [40] d_410 d_413 from by rw [ed_413]; exact yAg.cs yAg.rf (by rw [hky_411]; decide)) (yK.ag (F := []) yK.rf (show yAg S [40] d_410 d_413 from by rw [ed_413]; exact yAg.cs yAg.rf (by rw [hky_411]; decide)) (by rw [hk_h0]; decide)) (by decide) (by decide)
                  have hE0d_413 : (d_413.1 h0 0).toInt = (d_410.1 h0 0).toInt := congrArg Int32.toInt ((yK.ag (F := []) yK.rf (show yAg S [40] d_410 d_413 from by rw [ed_413]; exact yAg.cs yAg.rf (by rw [hky_411]; decide)) (by rw [hk_h0]; decide)) 0 (by decide))
                  have hE1d_413 : (d_413.1 h0 1).toInt = (d_410.1 h0 1).toInt := congrArg Int32.toInt ((yK.ag (F := []) yK.rf (show yAg S [40] d_410 d_413 from by rw [ed_413]; exact yAg.cs yAg.rf (by rw [hky_411]; decide)) (by rw [hk_h0]; decide)) 1 (by decide))
                  have hE2d_413 : (d_413.1 h0 2).toInt = (d_410.1 h0 2).toInt := congrArg Int32.toInt ((yK.ag (F := []) yK.rf (show yAg S [40] d_410 d_413 from by rw [ed_413]; exact yAg.cs yAg.rf (by rw [hky_411]; decide)) (by rw [hk_h0]; decide)) 2 (by decide))
                  have hE3d_413 : (d_413.1 h0 3).toInt = (d_410.1 h0 3).toInt := congrArg Int32.toInt ((yK.ag (F := []) yK.rf (show yAg S [40] d_410 d_413 from by rw [ed_413]; exact yAg.cs yAg.rf (by rw [hky_411]; decide)) (by rw [hk_h0]; decide)) 3 (by decide))
                  have hE63d_413 : (d_413.1 h0 63).toInt = (d_410.1 h0 63).toInt := congrArg Int32.toInt ((yK.ag (F := []) yK.rf (show yAg S [40] d_410 d_413 from by rw [ed_413]; exact yAg.cs yAg.rf (by rw [hky_411]; decide)) (by rw [hk_h0]; decide)) 63 (by decide))
                  refine lv_iconst (v := 1) hx hb dX9_term_246 (by decide) ?_
                  have hCC_414 := yMI.c hId_413
                  rw [ez_395] at ed_397
                  rw [ez_399] at ed_401
                  exact W.zret (v := 1) (ty := .boolean) hx hb hr rfl (fun t ht hW => ⟨⟨1, d_413, rfl, ⟨hgd_413, (fun _ => hPod_413), hfd_413, ⟨hId_413, Or.inr ⟨by have h0_ : (1 : Int32).toInt = 1 := (by decide +kernel); omega, by omega, (zRow7 (zTr.ag zTr.rf hSh hm_h0 hk_h0 hsd_1 (by decide)) hSh hm_h0 hk_h0 (show (z_379 : Int32).toNatClampNeg = (60 * p0.toInt.toNat + p1.toInt.toNat) from (show (z_379 : Int32).toInt.toNat = _ by omega)) (show (z_379 : Int32).toNatClampNeg = (60 * p0.toInt.toNat + p1.toInt.toNat) from (show (z_379 : Int32).toInt.toNat = _ by omega)) (show (z_379 : Int32).toNatClampNeg = (60 * p0.toInt.toNat + p1.toInt.toNat) from (show (z_379 : Int32).toInt.toNat = _ by omega)) (show (z_379 : Int32).toNatClampNeg = (60 * p0.toInt.toNat + p1.toInt.toNat) from (show (z_379 : Int32).toInt.toNat = _ by omega)) (show (z_379 : Int32).toNatClampNeg = (60 * p0.toInt.toNat + p1.toInt.toNat) from (show (z_379 : Int32).toInt.toNat = _ by omega)) (show (z_379 : Int32).toNatClampNeg = (60 * p0.toInt.toNat + p1.toInt.toNat) from (show (z_379 : Int32).toInt.toNat = _ by omega)) (show (z_379 : Int32).toNatClampNeg = (60 * p0.toInt.toNat + p1.toInt.toNat) from (show (z_379 : Int32).toInt.toNat = _ by omega)) ed_393 ed_397 ed_401 ed_404 ed_407 ed_410 ed_413)⟩⟩⟩, by rw [ht]; exact hP, hD⟩, hS.F ht⟩) hS.2.2 dX9_term_247
                · refine lv_aload_n hx hb dX9_term_168 rfl (lv_at hl 2 rfl) ?_
                  refine lv_iload hx hb dX9_term_169 (lv_at hl 1 rfl) ?_
                  have F_415 := fnlt (rfl : (p2 : Int32).toInt = (p2 : Int32).toInt) (by decide +kernel : (0 : Int32).toInt = 0) c_3
                  have F_416 := fnlt (by decide +kernel : (4 : Int32).toInt = 4) (rfl : (p2 : Int32).toInt = (p2 : Int32).toInt) c_118
                  have F_417 := fnlt (rfl : (p3 : Int32).toInt = (p3 : Int32).toInt) (by decide +kernel : (0 : Int32).toInt = 0) c_241
                  have F_418 := fle (rfl : (p3 : Int32).toInt = (p3 : Int32).toInt) (by decide +kernel : (4 : Int32).toInt = 4) c_372
                  have F_419 := fne (rfl : (p3 : Int32).toInt = (p3 : Int32).toInt) (by decide +kernel : (1 : Int32).toInt = 1) c_373
                  have F_420 := fne (rfl : (p3 : Int32).toInt = (p3 : Int32).toInt) (by decide +kernel : (3 : Int32).toInt = 3) c_374
                  have F_421 := fne (rfl : (p3 : Int32).toInt = (p3 : Int32).toInt) (by decide +kernel : (4 : Int32).toInt = 4) c_375
                  have F_422 := feq (by decide +kernel : (0 : Int32).toInt = 0) (by decide +kernel : (0 : Int32).toInt = 0) c_376
                  have F_423 := fne (rfl : (r_2 : Int32).toInt = (r_2 : Int32).toInt) (by decide +kernel : (0 : Int32).toInt = 0) c_377
                  refine yVwi (As := [.int r_2]) (rest := []) C0 (g_X9_no l G S d_1 h0 r_2 hSh hPod_1 hm_h0 hk_h0 (by refine ⟨?_, ?_⟩ <;> omega)) ok_X9_no (mW177 : Cond.methodLink RX9 168 yX9_no ∈ wsT) ⟨Nat.le_of_ble_eq_true rfl, Nat.le_of_ble_eq_true rfl⟩ hP hD hS hA hK hN hm_h0 hk_h0 (by decide) rfl rfl rfl hl.1 rfl (Nat.le_of_ble_eq_true rfl) ⟨Nat.le_of_ble_eq_true rfl, Nat.le_of_ble_eq_true rfl⟩ dX9_term_171 (fun r_424 d_425 H locs hr_424 hP hD hS => ?_)
                  obtain ⟨hgad_425, hpad_425, hfad_425, hxd_425⟩ := hr_424
                  have hfd_425 : yK [38] d d_425 h0 := yK.tr hfd_1 hfad_425 (by decide)
                  have hE0d_425 : (d_425.1 h0 0).toInt = (d_1.1 h0 0).toInt := congrArg Int32.toInt (hfad_425 0 (by decide))
                  have hE1d_425 : (d_425.1 h0 1).toInt = (d_1.1 h0 1).toInt := congrArg Int32.toInt (hfad_425 1 (by decide))
                  have hE2d_425 : (d_425.1 h0 2).toInt = (d_1.1 h0 2).toInt := congrArg Int32.toInt (hfad_425 2 (by decide))
                  have hE3d_425 : (d_425.1 h0 3).toInt = (d_1.1 h0 3).toInt := congrArg Int32.toInt (hfad_425 3 (by decide))
                  have hE63d_425 : (d_425.1 h0 63).toInt = (d_1.1 h0 63).toInt := congrArg Int32.toInt (hfad_425 63 (by decide))
                  have hId_425 : yMI S d_425 h0 := yMI.ag hId_1 hSh hm_h0 hk_h0 hgad_425 hfad_425 (by decide) (by decide)
                  have hgd_425 : yAg S [9, 34, 35, 36, 37, 38, 39, 40, 69] d d_425 := yAg.tr hgd_1 hgad_425 (by first | decide | exact fun _ h => h)
                  have hPod_425 : yPo S d_425 := hpad_425 hPod_1
                  refine lv_pop hx hb dX9_term_174 rfl ?_
                  refine lv_iconst (v := 0) hx hb dX9_term_175 (by decide) ?_
                  have hCC_426 := yMI.c hId_425
                  exact W.zret (v := 0) (ty := .boolean) hx hb hr rfl (fun t ht hW => ⟨⟨0, d_425, rfl, ⟨hgd_425, (fun _ => hPod_425), hfd_425, ⟨hId_425, Or.inl ⟨by have h0_ : (0 : Int32).toInt = 0 := (by decide +kernel); omega, by omega, (zTr.ag (zTr.ag zTr.rf hSh hm_h0 hk_h0 hsd_1 (by decide)) hSh hm_h0 hk_h0 hgad_425 (by decide))⟩⟩⟩, by rw [ht]; exact hP, hD⟩, hS.F ht⟩) hS.2.2 dX9_term_176
              · refine lv_iload hx hb dX9_term_119 (lv_at hl 0 rfl) ?_
                refine lv_if_ne (tgt := 148) hx hb dX9_term_121 (by decide) (fun c_427 => absurd c_427 (by decide +kernel)) (fun c_427 => ?_)
                refine lv_iload hx hb dX9_term_124 (lv_at hl 7 rfl) ?_
                refine lv_if_lt (tgt := 148) hx hb dX9_term_126 (by decide) (fun c_428 => ?_) (fun c_428 => ?_)
                · refine lv_iconst (v := 1) hx hb dX9_term_148 (by decide) ?_
                  refine lv_goto (tgt := 153) hx hb dX9_term_149 (by decide) ?_
                  refine lv_istore (lv' := [(8, .int 1), (7, .int r_2), (0, .ref h0), (1, .int p0), (2, .int p1), (3, .int p2), (4, .int p3), (5, .int p4), (6, .int p5)]) hx hb dX9_term_153 hl (by decide) rfl (fun ls hl => ?_)
                  refine lv_iload hx hb dX9_term_155 (lv_at hl 0 rfl) ?_
                  refine lv_if_eq (tgt := 163) hx hb dX9_term_157 (by decide) (fun c_429 => absurd c_429 (by decide +kernel)) (fun c_429 => ?_)
                  refine lv_iconst (v := 1) hx hb dX9_term_160 (by decide) ?_
                  refine lv_istore (lv' := [(7, .int 1), (8, .int 1), (0, .ref h0), (1, .int p0), (2, .int p1), (3, .int p2), (4, .int p3), (5, .int p4), (6, .int p5)]) hx hb dX9_term_161 hl (by decide) rfl (fun ls hl => ?_)
                  refine lv_iload hx hb dX9_term_163 (lv_at hl 0 rfl) ?_
                  refine lv_if_eq (tgt := 177) hx hb dX9_term_165 (by decide) (fun c_430 => absurd c_430 (by decide +kernel)) (fun c_430 => ?_)
                  refine lv_aload_n hx hb dX9_term_168 rfl (lv_at hl 2 rfl) ?_
                  refine lv_iload hx hb dX9_term_169 (lv_at hl 0 rfl) ?_
                  refine yVwi (As := [.int 1]) (rest := []) C0 (g_X9_no l G S d_1 h0 1 hSh hPod_1 hm_h0 hk_h0 (by decide +kernel)) ok_X9_no (mW177 : Cond.methodLink RX9 168 yX9_no ∈ wsT) ⟨Nat.le_of_ble_eq_true rfl, Nat.le_of_ble_eq_true rfl⟩ hP hD hS hA hK hN hm_h0 hk_h0 (by decide) rfl rfl rfl hl.1 rfl (Nat.le_of_ble_eq_true rfl) ⟨Nat.le_of_ble_eq_true rfl, Nat.le_of_ble_eq_true rfl⟩ dX9_term_171 (fun r_431 d_432 H locs hr_431 hP hD hS => ?_)
                  obtain ⟨hgad_432, hpad_432, hfad_432, hxd_432⟩ := hr_431
                  have hfd_432 : yK [38] d d_432 h0 := yK.tr hfd_1 hfad_432 (by decide)
                  have hE0d_432 : (d_432.1 h0 0).toInt = (d_1.1 h0 0).toInt := congrArg Int32.toInt (hfad_432 0 (by decide))
                  have hE1d_432 : (d_432.1 h0 1).toInt = (d_1.1 h0 1).toInt := congrArg Int32.toInt (hfad_432 1 (by decide))
                  have hE2d_432 : (d_432.1 h0 2).toInt = (d_1.1 h0 2).toInt := congrArg Int32.toInt (hfad_432 2 (by decide))
                  have hE3d_432 : (d_432.1 h0 3).toInt = (d_1.1 h0 3).toInt := congrArg Int32.toInt (hfad_432 3 (by decide))
                  have hE63d_432 : (d_432.1 h0 63).toInt = (d_1.1 h0 63).toInt := congrArg Int32.toInt (hfad_432 63 (by decide))
                  have hId_432 : yMI S d_432 h0 := yMI.ag hId_1 hSh hm_h0 hk_h0 hgad_432 hfad_432 (by decide) (by decide)
                  have hgd_432 : yAg S [9, 34, 35, 36, 37, 38, 39, 40, 69] d d_432 := yAg.tr hgd_1 hgad_432 (by first | decide | exact fun _ h => h)
                  have hPod_432 : yPo S d_432 := hpad_432 hPod_1
                  refine lv_pop hx hb dX9_term_174 rfl ?_
                  refine lv_iconst (v := 0) hx hb dX9_term_175 (by decide) ?_
                  have hCC_433 := yMI.c hId_432
                  have F_434 := fnlt (rfl : (p2 : Int32).toInt = (p2 : Int32).toInt) (by decide +kernel : (0 : Int32).toInt = 0) c_3
                  have F_435 := fnlt (by decide +kernel : (4 : Int32).toInt = 4) (rfl : (p2 : Int32).toInt = (p2 : Int32).toInt) c_118
                  have F_436 := fnlt (rfl : (p3 : Int32).toInt = (p3 : Int32).toInt) (by decide +kernel : (0 : Int32).toInt = 0) c_241
                  have F_437 := fle (rfl : (p3 : Int32).toInt = (p3 : Int32).toInt) (by decide +kernel : (4 : Int32).toInt = 4) c_372
                  have F_438 := fne (rfl : (p3 : Int32).toInt = (p3 : Int32).toInt) (by decide +kernel : (1 : Int32).toInt = 1) c_373
                  have F_439 := fne (rfl : (p3 : Int32).toInt = (p3 : Int32).toInt) (by decide +kernel : (3 : Int32).toInt = 3) c_374
                  have F_440 := feq (rfl : (p3 : Int32).toInt = (p3 : Int32).toInt) (by decide +kernel : (4 : Int32).toInt = 4) c_375
                  have F_441 := feq (by decide +kernel : (0 : Int32).toInt = 0) (by decide +kernel : (0 : Int32).toInt = 0) c_427
                  have F_442 := flt (rfl : (p4 : Int32).toInt = (p4 : Int32).toInt) (by decide +kernel : (0 : Int32).toInt = 0) c_428
                  have F_443 := fne (by decide +kernel : (1 : Int32).toInt = 1) (by decide +kernel : (0 : Int32).toInt = 0) c_429
                  have F_444 := fne (by decide +kernel : (1 : Int32).toInt = 1) (by decide +kernel : (0 : Int32).toInt = 0) c_430
                  exact W.zret (v := 0) (ty := .boolean) hx hb hr rfl (fun t ht hW => ⟨⟨0, d_432, rfl, ⟨hgd_432, (fun _ => hPod_432), hfd_432, ⟨hId_432, Or.inl ⟨by have h0_ : (0 : Int32).toInt = 0 := (by decide +kernel); omega, by omega, (zTr.ag (zTr.ag zTr.rf hSh hm_h0 hk_h0 hsd_1 (by decide)) hSh hm_h0 hk_h0 hgad_432 (by decide))⟩⟩⟩, by rw [ht]; exact hP, hD⟩, hS.F ht⟩) hS.2.2 dX9_term_176
                · refine lv_iload hx hb dX9_term_129 (lv_at hl 7 rfl) ?_
                  refine lv_ldc (v := 129600) hx hb hown (htl (.constant RX9 174 (129600)) mW221) dX9_term_131 ?_
                  refine lv_icmp_gt (tgt := 148) hx hb dX9_term_133 (by decide) (fun c_445 => ?_) (fun c_445 => ?_)
                  · refine lv_iconst (v := 1) hx hb dX9_term_148 (by decide) ?_
                    refine lv_goto (tgt := 153) hx hb dX9_term_149 (by decide) ?_
                    refine lv_istore (lv' := [(8, .int 1), (7, .int r_2), (0, .ref h0), (1, .int p0), (2, .int p1), (3, .int p2), (4, .int p3), (5, .int p4), (6, .int p5)]) hx hb dX9_term_153 hl (by decide) rfl (fun ls hl => ?_)
                    refine lv_iload hx hb dX9_term_155 (lv_at hl 0 rfl) ?_
                    refine lv_if_eq (tgt := 163) hx hb dX9_term_157 (by decide) (fun c_446 => absurd c_446 (by decide +kernel)) (fun c_446 => ?_)
                    refine lv_iconst (v := 1) hx hb dX9_term_160 (by decide) ?_
                    refine lv_istore (lv' := [(7, .int 1), (8, .int 1), (0, .ref h0), (1, .int p0), (2, .int p1), (3, .int p2), (4, .int p3), (5, .int p4), (6, .int p5)]) hx hb dX9_term_161 hl (by decide) rfl (fun ls hl => ?_)
                    refine lv_iload hx hb dX9_term_163 (lv_at hl 0 rfl) ?_
                    refine lv_if_eq (tgt := 177) hx hb dX9_term_165 (by decide) (fun c_447 => absurd c_447 (by decide +kernel)) (fun c_447 => ?_)
                    refine lv_aload_n hx hb dX9_term_168 rfl (lv_at hl 2 rfl) ?_
                    refine lv_iload hx hb dX9_term_169 (lv_at hl 0 rfl) ?_
                    refine yVwi (As := [.int 1]) (rest := []) C0 (g_X9_no l G S d_1 h0 1 hSh hPod_1 hm_h0 hk_h0 (by decide +kernel)) ok_X9_no (mW177 : Cond.methodLink RX9 168 yX9_no ∈ wsT) ⟨Nat.le_of_ble_eq_true rfl, Nat.le_of_ble_eq_true rfl⟩ hP hD hS hA hK hN hm_h0 hk_h0 (by decide) rfl rfl rfl hl.1 rfl (Nat.le_of_ble_eq_true rfl) ⟨Nat.le_of_ble_eq_true rfl, Nat.le_of_ble_eq_true rfl⟩ dX9_term_171 (fun r_448 d_449 H locs hr_448 hP hD hS => ?_)
                    obtain ⟨hgad_449, hpad_449, hfad_449, hxd_449⟩ := hr_448
                    have hfd_449 : yK [38] d d_449 h0 := yK.tr hfd_1 hfad_449 (by decide)
                    have hE0d_449 : (d_449.1 h0 0).toInt = (d_1.1 h0 0).toInt := congrArg Int32.toInt (hfad_449 0 (by decide))
                    have hE1d_449 : (d_449.1 h0 1).toInt = (d_1.1 h0 1).toInt := congrArg Int32.toInt (hfad_449 1 (by decide))
                    have hE2d_449 : (d_449.1 h0 2).toInt = (d_1.1 h0 2).toInt := congrArg Int32.toInt (hfad_449 2 (by decide))
                    have hE3d_449 : (d_449.1 h0 3).toInt = (d_1.1 h0 3).toInt := congrArg Int32.toInt (hfad_449 3 (by decide))
                    have hE63d_449 : (d_449.1 h0 63).toInt = (d_1.1 h0 63).toInt := congrArg Int32.toInt (hfad_449 63 (by decide))
                    have hId_449 : yMI S d_449 h0 := yMI.ag hId_1 hSh hm_h0 hk_h0 hgad_449 hfad_449 (by decide) (by decide)
                    have hgd_449 : yAg S [9, 34, 35, 36, 37, 38, 39, 40, 69] d d_449 := yAg.tr hgd_1 hgad_449 (by first | decide | exact fun _ h => h)
                    have hPod_449 : yPo S d_449 := hpad_449 hPod_1
                    refine lv_pop hx hb dX9_term_174 rfl ?_
                    refine lv_iconst (v := 0) hx hb dX9_term_175 (by decide) ?_
                    have hCC_450 := yMI.c hId_449
                    have F_451 := fnlt (rfl : (p2 : Int32).toInt = (p2 : Int32).toInt) (by decide +kernel : (0 : Int32).toInt = 0) c_3
                    have F_452 := fnlt (by decide +kernel : (4 : Int32).toInt = 4) (rfl : (p2 : Int32).toInt = (p2 : Int32).toInt) c_118
                    have F_453 := fnlt (rfl : (p3 : Int32).toInt = (p3 : Int32).toInt) (by decide +kernel : (0 : Int32).toInt = 0) c_241
                    have F_454 := fle (rfl : (p3 : Int32).toInt = (p3 : Int32).toInt) (by decide +kernel : (4 : Int32).toInt = 4) c_372
                    have F_455 := fne (rfl : (p3 : Int32).toInt = (p3 : Int32).toInt) (by decide +kernel : (1 : Int32).toInt = 1) c_373
                    have F_456 := fne (rfl : (p3 : Int32).toInt = (p3 : Int32).toInt) (by decide +kernel : (3 : Int32).toInt = 3) c_374
                    have F_457 := feq (rfl : (p3 : Int32).toInt = (p3 : Int32).toInt) (by decide +kernel : (4 : Int32).toInt = 4) c_375
                    have F_458 := feq (by decide +kernel : (0 : Int32).toInt = 0) (by decide +kernel : (0 : Int32).toInt = 0) c_427
                    have F_459 := fnlt (rfl : (p4 : Int32).toInt = (p4 : Int32).toInt) (by decide +kernel : (0 : Int32).toInt = 0) c_428
                    have F_460 := flt (by decide +kernel : (129600 : Int32).toInt = 129600) (rfl : (p4 : Int32).toInt = (p4 : Int32).toInt) c_445
                    have F_461 := fne (by decide +kernel : (1 : Int32).toInt = 1) (by decide +kernel : (0 : Int32).toInt = 0) c_446
                    have F_462 := fne (by decide +kernel : (1 : Int32).toInt = 1) (by decide +kernel : (0 : Int32).toInt = 0) c_447
                    exact W.zret (v := 0) (ty := .boolean) hx hb hr rfl (fun t ht hW => ⟨⟨0, d_449, rfl, ⟨hgd_449, (fun _ => hPod_449), hfd_449, ⟨hId_449, Or.inl ⟨by have h0_ : (0 : Int32).toInt = 0 := (by decide +kernel); omega, by omega, (zTr.ag (zTr.ag zTr.rf hSh hm_h0 hk_h0 hsd_1 (by decide)) hSh hm_h0 hk_h0 hgad_449 (by decide))⟩⟩⟩, by rw [ht]; exact hP, hD⟩, hS.F ht⟩) hS.2.2 dX9_term_176
                  · refine lv_iload hx hb dX9_term_136 (lv_at hl 8 rfl) ?_
                    refine lv_if_lt (tgt := 148) hx hb dX9_term_138 (by decide) (fun c_463 => ?_) (fun c_463 => ?_)
                    · refine lv_iconst (v := 1) hx hb dX9_term_148 (by decide) ?_
                      refine lv_goto (tgt := 153) hx hb dX9_term_149 (by decide) ?_
                      refine lv_istore (lv' := [(8, .int 1), (7, .int r_2), (0, .ref h0), (1, .int p0), (2, .int p1), (3, .int p2), (4, .int p3), (5, .int p4), (6, .int p5)]) hx hb dX9_term_153 hl (by decide) rfl (fun ls hl => ?_)
                      refine lv_iload hx hb dX9_term_155 (lv_at hl 0 rfl) ?_
                      refine lv_if_eq (tgt := 163) hx hb dX9_term_157 (by decide) (fun c_464 => absurd c_464 (by decide +kernel)) (fun c_464 => ?_)
                      refine lv_iconst (v := 1) hx hb dX9_term_160 (by decide) ?_
                      refine lv_istore (lv' := [(7, .int 1), (8, .int 1), (0, .ref h0), (1, .int p0), (2, .int p1), (3, .int p2), (4, .int p3), (5, .int p4), (6, .int p5)]) hx hb dX9_term_161 hl (by decide) rfl (fun ls hl => ?_)
                      refine lv_iload hx hb dX9_term_163 (lv_at hl 0 rfl) ?_
                      refine lv_if_eq (tgt := 177) hx hb dX9_term_165 (by decide) (fun c_465 => absurd c_465 (by decide +kernel)) (fun c_465 => ?_)
                      refine lv_aload_n hx hb dX9_term_168 rfl (lv_at hl 2 rfl) ?_
                      refine lv_iload hx hb dX9_term_169 (lv_at hl 0 rfl) ?_
                      refine yVwi (As := [.int 1]) (rest := []) C0 (g_X9_no l G S d_1 h0 1 hSh hPod_1 hm_h0 hk_h0 (by decide +kernel)) ok_X9_no (mW177 : Cond.methodLink RX9 168 yX9_no ∈ wsT) ⟨Nat.le_of_ble_eq_true rfl, Nat.le_of_ble_eq_true rfl⟩ hP hD hS hA hK hN hm_h0 hk_h0 (by decide) rfl rfl rfl hl.1 rfl (Nat.le_of_ble_eq_true rfl) ⟨Nat.le_of_ble_eq_true rfl, Nat.le_of_ble_eq_true rfl⟩ dX9_term_171 (fun r_466 d_467 H locs hr_466 hP hD hS => ?_)
                      obtain ⟨hgad_467, hpad_467, hfad_467, hxd_467⟩ := hr_466
                      have hfd_467 : yK [38] d d_467 h0 := yK.tr hfd_1 hfad_467 (by decide)
                      have hE0d_467 : (d_467.1 h0 0).toInt = (d_1.1 h0 0).toInt := congrArg Int32.toInt (hfad_467 0 (by decide))
                      have hE1d_467 : (d_467.1 h0 1).toInt = (d_1.1 h0 1).toInt := congrArg Int32.toInt (hfad_467 1 (by decide))
                      have hE2d_467 : (d_467.1 h0 2).toInt = (d_1.1 h0 2).toInt := congrArg Int32.toInt (hfad_467 2 (by decide))
                      have hE3d_467 : (d_467.1 h0 3).toInt = (d_1.1 h0 3).toInt := congrArg Int32.toInt (hfad_467 3 (by decide))
                      have hE63d_467 : (d_467.1 h0 63).toInt = (d_1.1 h0 63).toInt := congrArg Int32.toInt (hfad_467 63 (by decide))
                      have hId_467 : yMI S d_467 h0 := yMI.ag hId_1 hSh hm_h0 hk_h0 hgad_467 hfad_467 (by decide) (by decide)
                      have hgd_467 : yAg S [9, 34, 35, 36, 37, 38, 39, 40, 69] d d_467 := yAg.tr hgd_1 hgad_467 (by first | decide | exact fun _ h => h)
                      have hPod_467 : yPo S d_467 := hpad_467 hPod_1
                      refine lv_pop hx hb dX9_term_174 rfl ?_
                      refine lv_iconst (v := 0) hx hb dX9_term_175 (by decide) ?_
                      have hCC_468 := yMI.c hId_467
                      have F_469 := fnlt (rfl : (p2 : Int32).toInt = (p2 : Int32).toInt) (by decide +kernel : (0 : Int32).toInt = 0) c_3
                      have F_470 := fnlt (by decide +kernel : (4 : Int32).toInt = 4) (rfl : (p2 : Int32).toInt = (p2 : Int32).toInt) c_118
                      have F_471 := fnlt (rfl : (p3 : Int32).toInt = (p3 : Int32).toInt) (by decide +kernel : (0 : Int32).toInt = 0) c_241
                      have F_472 := fle (rfl : (p3 : Int32).toInt = (p3 : Int32).toInt) (by decide +kernel : (4 : Int32).toInt = 4) c_372
                      have F_473 := fne (rfl : (p3 : Int32).toInt = (p3 : Int32).toInt) (by decide +kernel : (1 : Int32).toInt = 1) c_373
                      have F_474 := fne (rfl : (p3 : Int32).toInt = (p3 : Int32).toInt) (by decide +kernel : (3 : Int32).toInt = 3) c_374
                      have F_475 := feq (rfl : (p3 : Int32).toInt = (p3 : Int32).toInt) (by decide +kernel : (4 : Int32).toInt = 4) c_375
                      have F_476 := feq (by decide +kernel : (0 : Int32).toInt = 0) (by decide +kernel : (0 : Int32).toInt = 0) c_427
                      have F_477 := fnlt (rfl : (p4 : Int32).toInt = (p4 : Int32).toInt) (by decide +kernel : (0 : Int32).toInt = 0) c_428
                      have F_478 := fnlt (by decide +kernel : (129600 : Int32).toInt = 129600) (rfl : (p4 : Int32).toInt = (p4 : Int32).toInt) c_445
                      have F_479 := flt (rfl : (p5 : Int32).toInt = (p5 : Int32).toInt) (by decide +kernel : (0 : Int32).toInt = 0) c_463
                      have F_480 := fne (by decide +kernel : (1 : Int32).toInt = 1) (by decide +kernel : (0 : Int32).toInt = 0) c_464
                      have F_481 := fne (by decide +kernel : (1 : Int32).toInt = 1) (by decide +kernel : (0 : Int32).toInt = 0) c_465
                      exact W.zret (v := 0) (ty := .boolean) hx hb hr rfl (fun t ht hW => ⟨⟨0, d_467, rfl, ⟨hgd_467, (fun _ => hPod_467), hfd_467, ⟨hId_467, Or.inl ⟨by have h0_ : (0 : Int32).toInt = 0 := (by decide +kernel); omega, by omega, (zTr.ag (zTr.ag zTr.rf hSh hm_h0 hk_h0 hsd_1 (by decide)) hSh hm_h0 hk_h0 hgad_467 (by decide))⟩⟩⟩, by rw [ht]; exact hP, hD⟩, hS.F ht⟩) hS.2.2 dX9_term_176
                    · refine lv_iload hx hb dX9_term_141 (lv_at hl 8 rfl) ?_
                      refine lv_ldc (v := 129600) hx hb hown (htl (.constant RX9 174 (129600)) mW221) dX9_term_143 ?_
                      refine lv_icmp_le (tgt := 152) hx hb dX9_term_145 (by decide) (fun c_482 => ?_) (fun c_482 => ?_)
                      · refine lv_iconst (v := 0) hx hb dX9_term_152 (by decide) ?_
                        refine lv_istore (lv' := [(8, .int 0), (7, .int r_2), (0, .ref h0), (1, .int p0), (2, .int p1), (3, .int p2), (4, .int p3), (5, .int p4), (6, .int p5)]) hx hb dX9_term_153 hl (by decide) rfl (fun ls hl => ?_)
                        refine lv_iload hx hb dX9_term_155 (lv_at hl 0 rfl) ?_
                        refine lv_if_eq (tgt := 163) hx hb dX9_term_157 (by decide) (fun c_483 => ?_) (fun c_483 => absurd c_483 (by decide +kernel))
                        refine lv_iload hx hb dX9_term_163 (lv_at hl 1 rfl) ?_
                        refine lv_if_eq (tgt := 177) hx hb dX9_term_165 (by decide) (fun c_484 => ?_) (fun c_484 => ?_)
                        · refine lv_bipush (v := 60) hx hb dX9_term_177 (by decide) ?_
                          refine lv_iload_n hx hb dX9_term_179 rfl (lv_at hl 3 rfl) ?_
                          refine lv_imul hx hb dX9_term_180 ?_
                          refine lv_topi (fun z_485 ez_485 => ?_)
                          refine lv_iload_n hx hb dX9_term_181 rfl (lv_at hl 4 rfl) ?_
                          refine lv_iadd hx hb dX9_term_182 ?_
                          refine lv_topi (fun z_486 ez_486 => ?_)
                          refine lv_istore (lv' := [(9, .int z_486), (8, .int 0), (7, .int r_2), (0, .ref h0), (1, .int p0), (2, .int p1), (3, .int p2), (4, .int p3), (5, .int p4), (6, .int p5)]) hx hb dX9_term_183 hl (by decide) rfl (fun ls hl => ?_)
                          refine lv_aload_n hx hb dX9_term_185 rfl (lv_at hl 3 rfl) ?_
                          refine yget (ci := 9) (k := 4) (v := .ref (S.2.2.1 h0 4)) (C := RX9) (T := TX9) (N := 67) C0 hK hP hm_h0 hk_h0 (by decide) rfl inlX9 (by decide) mW108 (fun _ h9 => h9) rfl dX9_term_186 ?_
                          obtain ⟨hmy_487, hky_487⟩ := ySh.f9_4 hSh _ hm_h0 hk_h0
                          refine lv_iload hx hb dX9_term_189 (lv_at hl 0 rfl) ?_
                          refine lv_iconst (v := 2) hx hb dX9_term_191 (by decide) ?_
                          have hCC_488 := yMI.c hId_1
                          have F_489 := fnlt (rfl : (p2 : Int32).toInt = (p2 : Int32).toInt) (by decide +kernel : (0 : Int32).toInt = 0) c_3
                          have F_490 := fnlt (by decide +kernel : (4 : Int32).toInt = 4) (rfl : (p2 : Int32).toInt = (p2 : Int32).toInt) c_118
                          have F_491 := fnlt (rfl : (p3 : Int32).toInt = (p3 : Int32).toInt) (by decide +kernel : (0 : Int32).toInt = 0) c_241
                          have F_492 := fle (rfl : (p3 : Int32).toInt = (p3 : Int32).toInt) (by decide +kernel : (4 : Int32).toInt = 4) c_372
                          have F_493 := fne (rfl : (p3 : Int32).toInt = (p3 : Int32).toInt) (by decide +kernel : (1 : Int32).toInt = 1) c_373
                          have F_494 := fne (rfl : (p3 : Int32).toInt = (p3 : Int32).toInt) (by decide +kernel : (3 : Int32).toInt = 3) c_374
                          have F_495 := feq (rfl : (p3 : Int32).toInt = (p3 : Int32).toInt) (by decide +kernel : (4 : Int32).toInt = 4) c_375
                          have F_496 := feq (by decide +kernel : (0 : Int32).toInt = 0) (by decide +kernel : (0 : Int32).toInt = 0) c_427
                          have F_497 := fnlt (rfl : (p4 : Int32).toInt = (p4 : Int32).toInt) (by decide +kernel : (0 : Int32).toInt = 0) c_428
                          have F_498 := fnlt (by decide +kernel : (129600 : Int32).toInt = 129600) (rfl : (p4 : Int32).toInt = (p4 : Int32).toInt) c_445
                          have F_499 := fnlt (rfl : (p5 : Int32).toInt = (p5 : Int32).toInt) (by decide +kernel : (0 : Int32).toInt = 0) c_463
                          have F_500 := fle (rfl : (p5 : Int32).toInt = (p5 : Int32).toInt) (by decide +kernel : (129600 : Int32).toInt = 129600) c_482
                          have F_501 := feq (by decide +kernel : (0 : Int32).toInt = 0) (by decide +kernel : (0 : Int32).toInt = 0) c_483
                          have F_502 := feq (rfl : (r_2 : Int32).toInt = (r_2 : Int32).toInt) (by decide +kernel : (0 : Int32).toInt = 0) c_484
                          have T_504 : (z_485 : Int32).toInt = 60 * (p0 : Int32).toInt := tmul ez_485 (by decide +kernel : (60 : Int32).toInt = 60) (rfl : (p0 : Int32).toInt = (p0 : Int32).toInt) (by omega) (by omega)
                          have T_503 : (z_486 : Int32).toInt = (z_485 : Int32).toInt + (p1 : Int32).toInt := tadd ez_486 (rfl : (z_485 : Int32).toInt = (z_485 : Int32).toInt) (rfl : (p1 : Int32).toInt = (p1 : Int32).toInt) (by omega) (by omega)
                          refine yastB C0 hK hP hD hS hmy_487 hky_487 (by decide) rfl 1 rfl (xinT 2400 rfl (by omega) (by omega)) dX9_term_192 (fun H locs hP hD hS => ?_)
                          obtain ⟨d_505, ed_505⟩ : ∃ z : yD, z = ycs d_1 (S.2.2.1 h0 4) (upd (d_1.2.2.2.1 (S.2.2.1 h0 4)) (z_486 : Int32).toNatClampNeg (vp_nar .byte 2)) := ⟨_, rfl⟩
                          rw [← ed_505] at hP hD
                          have hgd_505 : yAg S [9, 34, 35, 36, 37, 38, 39, 40, 69] d d_505 := by rw [ed_505]; exact yAg.cs hgd_1 (by rw [hky_487]; decide)
                          have hsd_505 : yAg S [34] d_1 d_505 := by rw [ed_505]; exact yAg.cs yAg.rf (by rw [hky_487]; decide)
                          have hPod_505 : yPo S d_505 := by rw [ed_505]; exact hPod_1
                          have hfd_505 : yK [38] d d_505 h0 := yK.ag hfd_1 (show yAg S [34] d_1 d_505 from by rw [ed_505]; exact yAg.cs yAg.rf (by rw [hky_487]; decide)) (by rw [hk_h0]; decide)
                          have hId_505 : yMI S d_505 h0 := yMI.ag hId_1 hSh hm_h0 hk_h0 (show yAg S [34] d_1 d_505 from by rw [ed_505]; exact yAg.cs yAg.rf (by rw [hky_487]; decide)) (yK.ag (F := []) yK.rf (show yAg S [34] d_1 d_505 from by rw [ed_505]; exact yAg.cs yAg.rf (by rw [hky_487]; decide)) (by rw [hk_h0]; decide)) (by decide) (by decide)
                          have hE0d_505 : (d_505.1 h0 0).toInt = (d_1.1 h0 0).toInt := congrArg Int32.toInt ((yK.ag (F := []) yK.rf (show yAg S [34] d_1 d_505 from by rw [ed_505]; exact yAg.cs yAg.rf (by rw [hky_487]; decide)) (by rw [hk_h0]; decide)) 0 (by decide))
                          have hE1d_505 : (d_505.1 h0 1).toInt = (d_1.1 h0 1).toInt := congrArg Int32.toInt ((yK.ag (F := []) yK.rf (show yAg S [34] d_1 d_505 from by rw [ed_505]; exact yAg.cs yAg.rf (by rw [hky_487]; decide)) (by rw [hk_h0]; decide)) 1 (by decide))
                          have hE2d_505 : (d_505.1 h0 2).toInt = (d_1.1 h0 2).toInt := congrArg Int32.toInt ((yK.ag (F := []) yK.rf (show yAg S [34] d_1 d_505 from by rw [ed_505]; exact yAg.cs yAg.rf (by rw [hky_487]; decide)) (by rw [hk_h0]; decide)) 2 (by decide))
                          have hE3d_505 : (d_505.1 h0 3).toInt = (d_1.1 h0 3).toInt := congrArg Int32.toInt ((yK.ag (F := []) yK.rf (show yAg S [34] d_1 d_505 from by rw [ed_505]; exact yAg.cs yAg.rf (by rw [hky_487]; decide)) (by rw [hk_h0]; decide)) 3 (by decide))
                          have hE63d_505 : (d_505.1 h0 63).toInt = (d_1.1 h0 63).toInt := congrArg Int32.toInt ((yK.ag (F := []) yK.rf (show yAg S [34] d_1 d_505 from by rw [ed_505]; exact yAg.cs yAg.rf (by rw [hky_487]; decide)) (by rw [hk_h0]; decide)) 63 (by decide))
                          refine lv_aload_n hx hb dX9_term_193 rfl (lv_at hl 3 rfl) ?_
                          refine yget (ci := 9) (k := 5) (v := .ref (S.2.2.1 h0 5)) (C := RX9) (T := TX9) (N := 67) C0 hK hP hm_h0 hk_h0 (by decide) rfl inlX9 (by decide) mW109 (fun _ h9 => h9) rfl dX9_term_194 ?_
                          obtain ⟨hmy_506, hky_506⟩ := ySh.f9_5 hSh _ hm_h0 hk_h0
                          refine lv_iload hx hb dX9_term_197 (lv_at hl 0 rfl) ?_
                          refine lv_iload_n hx hb dX9_term_199 rfl (lv_at hl 6 rfl) ?_
                          refine lv_i2b hx hb dX9_term_200 rfl ?_
                          refine lv_topi (fun z_507 ez_507 => ?_)
                          have hCC_508 := yMI.c hId_505
                          refine yastB C0 hK hP hD hS hmy_506 hky_506 (by decide) rfl 1 rfl (xinT 2400 rfl (by omega) (by omega)) dX9_term_201 (fun H locs hP hD hS => ?_)
                          obtain ⟨d_509, ed_509⟩ : ∃ z : yD, z = ycs d_505 (S.2.2.1 h0 5) (upd (d_505.2.2.2.1 (S.2.2.1 h0 5)) (z_486 : Int32).toNatClampNeg (vp_nar .byte z_507)) := ⟨_, rfl⟩
                          rw [← ed_509] at hP hD
                          have hgd_509 : yAg S [9, 34, 35, 36, 37, 38, 39, 40, 69] d d_509 := by rw [ed_509]; exact yAg.cs hgd_505 (by rw [hky_506]; decide)
                          have hsd_509 : yAg S [35] d_505 d_509 := by rw [ed_509]; exact yAg.cs yAg.rf (by rw [hky_506]; decide)
                          have hPod_509 : yPo S d_509 := by rw [ed_509]; exact hPod_505
                          have hfd_509 : yK [38] d d_509 h0 := yK.ag hfd_505 (show yAg S [35] d_505 d_509 from by rw [ed_509]; exact yAg.cs yAg.rf (by rw [hky_506]; decide)) (by rw [hk_h0]; decide)
                          have hId_509 : yMI S d_509 h0 := yMI.ag hId_505 hSh hm_h0 hk_h0 (show yAg S [35] d_505 d_509 from by rw [ed_509]; exact yAg.cs yAg.rf (by rw [hky_506]; decide)) (yK.ag (F := []) yK.rf (show yAg S [35] d_505 d_509 from by rw [ed_509]; exact yAg.cs yAg.rf (by rw [hky_506]; decide)) (by rw [hk_h0]; decide)) (by decide) (by decide)
                          have hE0d_509 : (d_509.1 h0 0).toInt = (d_505.1 h0 0).toInt := congrArg Int32.toInt ((yK.ag (F := []) yK.rf (show yAg S [35] d_505 d_509 from by rw [ed_509]; exact yAg.cs yAg.rf (by rw [hky_506]; decide)) (by rw [hk_h0]; decide)) 0 (by decide))
                          have hE1d_509 : (d_509.1 h0 1).toInt = (d_505.1 h0 1).toInt := congrArg Int32.toInt ((yK.ag (F := []) yK.rf (show yAg S [35] d_505 d_509 from by rw [ed_509]; exact yAg.cs yAg.rf (by rw [hky_506]; decide)) (by rw [hk_h0]; decide)) 1 (by decide))
                          have hE2d_509 : (d_509.1 h0 2).toInt = (d_505.1 h0 2).toInt := congrArg Int32.toInt ((yK.ag (F := []) yK.rf (show yAg S [35] d_505 d_509 from by rw [ed_509]; exact yAg.cs yAg.rf (by rw [hky_506]; decide)) (by rw [hk_h0]; decide)) 2 (by decide))
                          have hE3d_509 : (d_509.1 h0 3).toInt = (d_505.1 h0 3).toInt := congrArg Int32.toInt ((yK.ag (F := []) yK.rf (show yAg S [35] d_505 d_509 from by rw [ed_509]; exact yAg.cs yAg.rf (by rw [hky_506]; decide)) (by rw [hk_h0]; decide)) 3 (by decide))
                          have hE63d_509 : (d_509.1 h0 63).toInt = (d_505.1 h0 63).toInt := congrArg Int32.toInt ((yK.ag (F := []) yK.rf (show yAg S [35] d_505 d_509 from by rw [ed_509]; exact yAg.cs yAg.rf (by rw [hky_506]; decide)) (by rw [hk_h0]; decide)) 63 (by decide))
                          refine lv_aload_n hx hb dX9_term_202 rfl (lv_at hl 3 rfl) ?_
                          refine yget (ci := 9) (k := 6) (v := .ref (S.2.2.1 h0 6)) (C := RX9) (T := TX9) (N := 67) C0 hK hP hm_h0 hk_h0 (by decide) rfl inlX9 (by decide) mW110 (fun _ h9 => h9) rfl dX9_term_203 ?_
                          obtain ⟨hmy_510, hky_510⟩ := ySh.f9_6 hSh _ hm_h0 hk_h0
                          refine lv_iload hx hb dX9_term_206 (lv_at hl 0 rfl) ?_
                          refine lv_iload hx hb dX9_term_208 (lv_at hl 7 rfl) ?_
                          refine lv_i2b hx hb dX9_term_210 rfl ?_
                          refine lv_topi (fun z_511 ez_511 => ?_)
                          have hCC_512 := yMI.c hId_509
                          refine yastB C0 hK hP hD hS hmy_510 hky_510 (by decide) rfl 1 rfl (xinT 2400 rfl (by omega) (by omega)) dX9_term_211 (fun H locs hP hD hS => ?_)
                          obtain ⟨d_513, ed_513⟩ : ∃ z : yD, z = ycs d_509 (S.2.2.1 h0 6) (upd (d_509.2.2.2.1 (S.2.2.1 h0 6)) (z_486 : Int32).toNatClampNeg (vp_nar .byte z_511)) := ⟨_, rfl⟩
                          rw [← ed_513] at hP hD
                          have hgd_513 : yAg S [9, 34, 35, 36, 37, 38, 39, 40, 69] d d_513 := by rw [ed_513]; exact yAg.cs hgd_509 (by rw [hky_510]; decide)
                          have hsd_513 : yAg S [36] d_509 d_513 := by rw [ed_513]; exact yAg.cs yAg.rf (by rw [hky_510]; decide)
                          have hPod_513 : yPo S d_513 := by rw [ed_513]; exact hPod_509
                          have hfd_513 : yK [38] d d_513 h0 := yK.ag hfd_509 (show yAg S [36] d_509 d_513 from by rw [ed_513]; exact yAg.cs yAg.rf (by rw [hky_510]; decide)) (by rw [hk_h0]; decide)
                          have hId_513 : yMI S d_513 h0 := yMI.ag hId_509 hSh hm_h0 hk_h0 (show yAg S [36] d_509 d_513 from by rw [ed_513]; exact yAg.cs yAg.rf (by rw [hky_510]; decide)) (yK.ag (F := []) yK.rf (show yAg S [36] d_509 d_513 from by rw [ed_513]; exact yAg.cs yAg.rf (by rw [hky_510]; decide)) (by rw [hk_h0]; decide)) (by decide) (by decide)
                          have hE0d_513 : (d_513.1 h0 0).toInt = (d_509.1 h0 0).toInt := congrArg Int32.toInt ((yK.ag (F := []) yK.rf (show yAg S [36] d_509 d_513 from by rw [ed_513]; exact yAg.cs yAg.rf (by rw [hky_510]; decide)) (by rw [hk_h0]; decide)) 0 (by decide))
                          have hE1d_513 : (d_513.1 h0 1).toInt = (d_509.1 h0 1).toInt := congrArg Int32.toInt ((yK.ag (F := []) yK.rf (show yAg S [36] d_509 d_513 from by rw [ed_513]; exact yAg.cs yAg.rf (by rw [hky_510]; decide)) (by rw [hk_h0]; decide)) 1 (by decide))
                          have hE2d_513 : (d_513.1 h0 2).toInt = (d_509.1 h0 2).toInt := congrArg Int32.toInt ((yK.ag (F := []) yK.rf (show yAg S [36] d_509 d_513 from by rw [ed_513]; exact yAg.cs yAg.rf (by rw [hky_510]; decide)) (by rw [hk_h0]; decide)) 2 (by decide))
                          have hE3d_513 : (d_513.1 h0 3).toInt = (d_509.1 h0 3).toInt := congrArg Int32.toInt ((yK.ag (F := []) yK.rf (show yAg S [36] d_509 d_513 from by rw [ed_513]; exact yAg.cs yAg.rf (by rw [hky_510]; decide)) (by rw [hk_h0]; decide)) 3 (by decide))
                          have hE63d_513 : (d_513.1 h0 63).toInt = (d_509.1 h0 63).toInt := congrArg Int32.toInt ((yK.ag (F := []) yK.rf (show yAg S [36] d_509 d_513 from by rw [ed_513]; exact yAg.cs yAg.rf (by rw [hky_510]; decide)) (by rw [hk_h0]; decide)) 63 (by decide))
                          refine lv_aload_n hx hb dX9_term_212 rfl (lv_at hl 3 rfl) ?_
                          refine yget (ci := 9) (k := 7) (v := .ref (S.2.2.1 h0 7)) (C := RX9) (T := TX9) (N := 67) C0 hK hP hm_h0 hk_h0 (by decide) rfl inlX9 (by decide) mW111 (fun _ h9 => h9) rfl dX9_term_213 ?_
                          obtain ⟨hmy_514, hky_514⟩ := ySh.f9_7 hSh _ hm_h0 hk_h0
                          refine lv_iload hx hb dX9_term_216 (lv_at hl 0 rfl) ?_
                          refine lv_iload hx hb dX9_term_218 (lv_at hl 8 rfl) ?_
                          have hCC_515 := yMI.c hId_513
                          refine yast C0 hK hP hD hS hmy_514 hky_514 (by decide) rfl 0 rfl (xinT 2400 rfl (by omega) (by omega)) dX9_term_220 (fun H locs hP hD hS => ?_)
                          obtain ⟨d_516, ed_516⟩ : ∃ z : yD, z = ycs d_513 (S.2.2.1 h0 7) (upd (d_513.2.2.2.1 (S.2.2.1 h0 7)) (z_486 : Int32).toNatClampNeg p4) := ⟨_, rfl⟩
                          rw [← ed_516] at hP hD
                          have hgd_516 : yAg S [9, 34, 35, 36, 37, 38, 39, 40, 69] d d_516 := by rw [ed_516]; exact yAg.cs hgd_513 (by rw [hky_514]; decide)
                          have hsd_516 : yAg S [37] d_513 d_516 := by rw [ed_516]; exact yAg.cs yAg.rf (by rw [hky_514]; decide)
                          have hPod_516 : yPo S d_516 := by rw [ed_516]; exact hPod_513
                          have hfd_516 : yK [38] d d_516 h0 := yK.ag hfd_513 (show yAg S [37] d_513 d_516 from by rw [ed_516]; exact yAg.cs yAg.rf (by rw [hky_514]; decide)) (by rw [hk_h0]; decide)
                          have hId_516 : yMI S d_516 h0 := yMI.ag hId_513 hSh hm_h0 hk_h0 (show yAg S [37] d_513 d_516 from by rw [ed_516]; exact yAg.cs yAg.rf (by rw [hky_514]; decide)) (yK.ag (F := []) yK.rf (show yAg S [37] d_513 d_516 from by rw [ed_516]; exact yAg.cs yAg.rf (by rw [hky_514]; decide)) (by rw [hk_h0]; decide)) (by decide) (by decide)
                          have hE0d_516 : (d_516.1 h0 0).toInt = (d_513.1 h0 0).toInt := congrArg Int32.toInt ((yK.ag (F := []) yK.rf (show yAg S [37] d_513 d_516 from by rw [ed_516]; exact yAg.cs yAg.rf (by rw [hky_514]; decide)) (by rw [hk_h0]; decide)) 0 (by decide))
                          have hE1d_516 : (d_516.1 h0 1).toInt = (d_513.1 h0 1).toInt := congrArg Int32.toInt ((yK.ag (F := []) yK.rf (show yAg S [37] d_513 d_516 from by rw [ed_516]; exact yAg.cs yAg.rf (by rw [hky_514]; decide)) (by rw [hk_h0]; decide)) 1 (by decide))
                          have hE2d_516 : (d_516.1 h0 2).toInt = (d_513.1 h0 2).toInt := congrArg Int32.toInt ((yK.ag (F := []) yK.rf (show yAg S [37] d_513 d_516 from by rw [ed_516]; exact yAg.cs yAg.rf (by rw [hky_514]; decide)) (by rw [hk_h0]; decide)) 2 (by decide))
                          have hE3d_516 : (d_516.1 h0 3).toInt = (d_513.1 h0 3).toInt := congrArg Int32.toInt ((yK.ag (F := []) yK.rf (show yAg S [37] d_513 d_516 from by rw [ed_516]; exact yAg.cs yAg.rf (by rw [hky_514]; decide)) (by rw [hk_h0]; decide)) 3 (by decide))
                          have hE63d_516 : (d_516.1 h0 63).toInt = (d_513.1 h0 63).toInt := congrArg Int32.toInt ((yK.ag (F := []) yK.rf (show yAg S [37] d_513 d_516 from by rw [ed_516]; exact yAg.cs yAg.rf (by rw [hky_514]; decide)) (by rw [hk_h0]; decide)) 63 (by decide))
                          refine lv_aload_n hx hb dX9_term_221 rfl (lv_at hl 3 rfl) ?_
                          refine yget (ci := 9) (k := 8) (v := .ref (S.2.2.1 h0 8)) (C := RX9) (T := TX9) (N := 67) C0 hK hP hm_h0 hk_h0 (by decide) rfl inlX9 (by decide) mW112 (fun _ h9 => h9) rfl dX9_term_222 ?_
                          obtain ⟨hmy_517, hky_517⟩ := ySh.f9_8 hSh _ hm_h0 hk_h0
                          refine lv_iload hx hb dX9_term_225 (lv_at hl 0 rfl) ?_
                          refine lv_iload hx hb dX9_term_227 (lv_at hl 9 rfl) ?_
                          have hCC_518 := yMI.c hId_516
                          refine yast C0 hK hP hD hS hmy_517 hky_517 (by decide) rfl 0 rfl (xinT 2400 rfl (by omega) (by omega)) dX9_term_229 (fun H locs hP hD hS => ?_)
                          obtain ⟨d_519, ed_519⟩ : ∃ z : yD, z = ycs d_516 (S.2.2.1 h0 8) (upd (d_516.2.2.2.1 (S.2.2.1 h0 8)) (z_486 : Int32).toNatClampNeg p5) := ⟨_, rfl⟩
                          rw [← ed_519] at hP hD
                          have hgd_519 : yAg S [9, 34, 35, 36, 37, 38, 39, 40, 69] d d_519 := by rw [ed_519]; exact yAg.cs hgd_516 (by rw [hky_517]; decide)
                          have hsd_519 : yAg S [38] d_516 d_519 := by rw [ed_519]; exact yAg.cs yAg.rf (by rw [hky_517]; decide)
                          have hPod_519 : yPo S d_519 := by rw [ed_519]; exact hPod_516
                          have hfd_519 : yK [38] d d_519 h0 := yK.ag hfd_516 (show yAg S [38] d_516 d_519 from by rw [ed_519]; exact yAg.cs yAg.rf (by rw [hky_517]; decide)) (by rw [hk_h0]; decide)
                          have hId_519 : yMI S d_519 h0 := yMI.ag hId_516 hSh hm_h0 hk_h0 (show yAg S [38] d_516 d_519 from by rw [ed_519]; exact yAg.cs yAg.rf (by rw [hky_517]; decide)) (yK.ag (F := []) yK.rf (show yAg S [38] d_516 d_519 from by rw [ed_519]; exact yAg.cs yAg.rf (by rw [hky_517]; decide)) (by rw [hk_h0]; decide)) (by decide) (by decide)
                          have hE0d_519 : (d_519.1 h0 0).toInt = (d_516.1 h0 0).toInt := congrArg Int32.toInt ((yK.ag (F := []) yK.rf (show yAg S [38] d_516 d_519 from by rw [ed_519]; exact yAg.cs yAg.rf (by rw [hky_517]; decide)) (by rw [hk_h0]; decide)) 0 (by decide))
                          have hE1d_519 : (d_519.1 h0 1).toInt = (d_516.1 h0 1).toInt := congrArg Int32.toInt ((yK.ag (F := []) yK.rf (show yAg S [38] d_516 d_519 from by rw [ed_519]; exact yAg.cs yAg.rf (by rw [hky_517]; decide)) (by rw [hk_h0]; decide)) 1 (by decide))
                          have hE2d_519 : (d_519.1 h0 2).toInt = (d_516.1 h0 2).toInt := congrArg Int32.toInt ((yK.ag (F := []) yK.rf (show yAg S [38] d_516 d_519 from by rw [ed_519]; exact yAg.cs yAg.rf (by rw [hky_517]; decide)) (by rw [hk_h0]; decide)) 2 (by decide))
                          have hE3d_519 : (d_519.1 h0 3).toInt = (d_516.1 h0 3).toInt := congrArg Int32.toInt ((yK.ag (F := []) yK.rf (show yAg S [38] d_516 d_519 from by rw [ed_519]; exact yAg.cs yAg.rf (by rw [hky_517]; decide)) (by rw [hk_h0]; decide)) 3 (by decide))
                          have hE63d_519 : (d_519.1 h0 63).toInt = (d_516.1 h0 63).toInt := congrArg Int32.toInt ((yK.ag (F := []) yK.rf (show yAg S [38] d_516 d_519 from by rw [ed_519]; exact yAg.cs yAg.rf (by rw [hky_517]; decide)) (by rw [hk_h0]; decide)) 63 (by decide))
                          refine lv_aload_n hx hb dX9_term_230 rfl (lv_at hl 3 rfl) ?_
                          refine yget (ci := 9) (k := 9) (v := .ref (S.2.2.1 h0 9)) (C := RX9) (T := TX9) (N := 67) C0 hK hP hm_h0 hk_h0 (by decide) rfl inlX9 (by decide) mW113 (fun _ h9 => h9) rfl dX9_term_231 ?_
                          obtain ⟨hmy_520, hky_520⟩ := ySh.f9_9 hSh _ hm_h0 hk_h0
                          refine lv_iload hx hb dX9_term_234 (lv_at hl 0 rfl) ?_
                          refine lv_iconst (v := 0) hx hb dX9_term_236 (by decide) ?_
                          have hCC_521 := yMI.c hId_519
                          refine yastB C0 hK hP hD hS hmy_520 hky_520 (by decide) rfl 1 rfl (xinT 2400 rfl (by omega) (by omega)) dX9_term_237 (fun H locs hP hD hS => ?_)
                          obtain ⟨d_522, ed_522⟩ : ∃ z : yD, z = ycs d_519 (S.2.2.1 h0 9) (upd (d_519.2.2.2.1 (S.2.2.1 h0 9)) (z_486 : Int32).toNatClampNeg (vp_nar .byte 0)) := ⟨_, rfl⟩
                          rw [← ed_522] at hP hD
                          have hgd_522 : yAg S [9, 34, 35, 36, 37, 38, 39, 40, 69] d d_522 := by rw [ed_522]; exact yAg.cs hgd_519 (by rw [hky_520]; decide)
                          have hsd_522 : yAg S [39] d_519 d_522 := by rw [ed_522]; exact yAg.cs yAg.rf (by rw [hky_520]; decide)
                          have hPod_522 : yPo S d_522 := by rw [ed_522]; exact hPod_519
                          have hfd_522 : yK [38] d d_522 h0 := yK.ag hfd_519 (show yAg S [39] d_519 d_522 from by rw [ed_522]; exact yAg.cs yAg.rf (by rw [hky_520]; decide)) (by rw [hk_h0]; decide)
                          have hId_522 : yMI S d_522 h0 := yMI.ag hId_519 hSh hm_h0 hk_h0 (show yAg S [39] d_519 d_522 from by rw [ed_522]; exact yAg.cs yAg.rf (by rw [hky_520]; decide)) (yK.ag (F := []) yK.rf (show yAg S [39] d_519 d_522 from by rw [ed_522]; exact yAg.cs yAg.rf (by rw [hky_520]; decide)) (by rw [hk_h0]; decide)) (by decide) (by decide)
                          have hE0d_522 : (d_522.1 h0 0).toInt = (d_519.1 h0 0).toInt := congrArg Int32.toInt ((yK.ag (F := []) yK.rf (show yAg S [39] d_519 d_522 from by rw [ed_522]; exact yAg.cs yAg.rf (by rw [hky_520]; decide)) (by rw [hk_h0]; decide)) 0 (by decide))
                          have hE1d_522 : (d_522.1 h0 1).toInt = (d_519.1 h0 1).toInt := congrArg Int32.toInt ((yK.ag (F := []) yK.rf (show yAg S [39] d_519 d_522 from by rw [ed_522]; exact yAg.cs yAg.rf (by rw [hky_520]; decide)) (by rw [hk_h0]; decide)) 1 (by decide))
                          have hE2d_522 : (d_522.1 h0 2).toInt = (d_519.1 h0 2).toInt := congrArg Int32.toInt ((yK.ag (F := []) yK.rf (show yAg S [39] d_519 d_522 from by rw [ed_522]; exact yAg.cs yAg.rf (by rw [hky_520]; decide)) (by rw [hk_h0]; decide)) 2 (by decide))
                          have hE3d_522 : (d_522.1 h0 3).toInt = (d_519.1 h0 3).toInt := congrArg Int32.toInt ((yK.ag (F := []) yK.rf (show yAg S [39] d_519 d_522 from by rw [ed_522]; exact yAg.cs yAg.rf (by rw [hky_520]; decide)) (by rw [hk_h0]; decide)) 3 (by decide))
                          have hE63d_522 : (d_522.1 h0 63).toInt = (d_519.1 h0 63).toInt := congrArg Int32.toInt ((yK.ag (F := []) yK.rf (show yAg S [39] d_519 d_522 from by rw [ed_522]; exact yAg.cs yAg.rf (by rw [hky_520]; decide)) (by rw [hk_h0]; decide)) 63 (by decide))
                          refine lv_aload_n hx hb dX9_term_238 rfl (lv_at hl 3 rfl) ?_
                          refine yget (ci := 9) (k := 10) (v := .ref (S.2.2.1 h0 10)) (C := RX9) (T := TX9) (N := 67) C0 hK hP hm_h0 hk_h0 (by decide) rfl inlX9 (by decide) mW114 (fun _ h9 => h9) rfl dX9_term_239 ?_
                          obtain ⟨hmy_523, hky_523⟩ := ySh.f9_10 hSh _ hm_h0 hk_h0
                          refine lv_iload hx hb dX9_term_242 (lv_at hl 0 rfl) ?_
                          refine lv_iconst (v := 0) hx hb dX9_term_244 (by decide) ?_
                          have hCC_524 := yMI.c hId_522
                          refine yast C0 hK hP hD hS hmy_523 hky_523 (by decide) rfl 0 rfl (xinT 2400 rfl (by omega) (by omega)) dX9_term_245 (fun H locs hP hD hS => ?_)
                          obtain ⟨d_525, ed_525⟩ : ∃ z : yD, z = ycs d_522 (S.2.2.1 h0 10) (upd (d_522.2.2.2.1 (S.2.2.1 h0 10)) (z_486 : Int32).toNatClampNeg 0) := ⟨_, rfl⟩
                          rw [← ed_525] at hP hD
                          have hgd_525 : yAg S [9, 34, 35, 36, 37, 38, 39, 40, 69] d d_525 := by rw [ed_525]; exact yAg.cs hgd_522 (by rw [hky_523]; decide)
                          have hsd_525 : yAg S [40] d_522 d_525 := by rw [ed_525]; exact yAg.cs yAg.rf (by rw [hky_523]; decide)
                          have hPod_525 : yPo S d_525 := by rw [ed_525]; exact hPod_522
                          have hfd_525 : yK [38] d d_525 h0 := yK.ag hfd_522 (show yAg S [40] d_522 d_525 from by rw [ed_525]; exact yAg.cs yAg.rf (by rw [hky_523]; decide)) (by rw [hk_h0]; decide)
                          have hId_525 : yMI S d_525 h0 := yMI.ag hId_522 hSh hm_h0 hk_h0 (show yAg S [40] d_522 d_525 from by rw [ed_525]; exact yAg.cs yAg.rf (by rw [hky_523]; decide)) (yK.ag (F := []) yK.rf (show yAg S [40] d_522 d_525 from by rw [ed_525]; exact yAg.cs yAg.rf (by rw [hky_523]; decide)) (by rw [hk_h0]; decide)) (by decide) (by decide)
                          have hE0d_525 : (d_525.1 h0 0).toInt = (d_522.1 h0 0).toInt := congrArg Int32.toInt ((yK.ag (F := []) yK.rf (show yAg S [40] d_522 d_525 from by rw [ed_525]; exact yAg.cs yAg.rf (by rw [hky_523]; decide)) (by rw [hk_h0]; decide)) 0 (by decide))
                          have hE1d_525 : (d_525.1 h0 1).toInt = (d_522.1 h0 1).toInt := congrArg Int32.toInt ((yK.ag (F := []) yK.rf (show yAg S [40] d_522 d_525 from by rw [ed_525]; exact yAg.cs yAg.rf (by rw [hky_523]; decide)) (by rw [hk_h0]; decide)) 1 (by decide))
                          have hE2d_525 : (d_525.1 h0 2).toInt = (d_522.1 h0 2).toInt := congrArg Int32.toInt ((yK.ag (F := []) yK.rf (show yAg S [40] d_522 d_525 from by rw [ed_525]; exact yAg.cs yAg.rf (by rw [hky_523]; decide)) (by rw [hk_h0]; decide)) 2 (by decide))
                          have hE3d_525 : (d_525.1 h0 3).toInt = (d_522.1 h0 3).toInt := congrArg Int32.toInt ((yK.ag (F := []) yK.rf (show yAg S [40] d_522 d_525 from by rw [ed_525]; exact yAg.cs yAg.rf (by rw [hky_523]; decide)) (by rw [hk_h0]; decide)) 3 (by decide))
                          have hE63d_525 : (d_525.1 h0 63).toInt = (d_522.1 h0 63).toInt := congrArg Int32.toInt ((yK.ag (F := []) yK.rf (show yAg S [40] d_522 d_525 from by rw [ed_525]; exact yAg.cs yAg.rf (by rw [hky_523]; decide)) (by rw [hk_h0]; decide)) 63 (by decide))
                          refine lv_iconst (v := 1) hx hb dX9_term_246 (by decide) ?_
                          have hCC_526 := yMI.c hId_525
                          rw [ez_507] at ed_509
                          rw [ez_511] at ed_513
                          exact W.zret (v := 1) (ty := .boolean) hx hb hr rfl (fun t ht hW => ⟨⟨1, d_525, rfl, ⟨hgd_525, (fun _ => hPod_525), hfd_525, ⟨hId_525, Or.inr ⟨by have h0_ : (1 : Int32).toInt = 1 := (by decide +kernel); omega, by omega, (zRow7 (zTr.ag zTr.rf hSh hm_h0 hk_h0 hsd_1 (by decide)) hSh hm_h0 hk_h0 (show (z_486 : Int32).toNatClampNeg = (60 * p0.toInt.toNat + p1.toInt.toNat) from (show (z_486 : Int32).toInt.toNat = _ by omega)) (show (z_486 : Int32).toNatClampNeg = (60 * p0.toInt.toNat + p1.toInt.toNat) from (show (z_486 : Int32).toInt.toNat = _ by omega)) (show (z_486 : Int32).toNatClampNeg = (60 * p0.toInt.toNat + p1.toInt.toNat) from (show (z_486 : Int32).toInt.toNat = _ by omega)) (show (z_486 : Int32).toNatClampNeg = (60 * p0.toInt.toNat + p1.toInt.toNat) from (show (z_486 : Int32).toInt.toNat = _ by omega)) (show (z_486 : Int32).toNatClampNeg = (60 * p0.toInt.toNat + p1.toInt.toNat) from (show (z_486 : Int32).toInt.toNat = _ by omega)) (show (z_486 : Int32).toNatClampNeg = (60 * p0.toInt.toNat + p1.toInt.toNat) from (show (z_486 : Int32).toInt.toNat = _ by omega)) (show (z_486 : Int32).toNatClampNeg = (60 * p0.toInt.toNat + p1.toInt.toNat) from (show (z_486 : Int32).toInt.toNat = _ by omega)) ed_505 ed_509 ed_513 ed_516 ed_519 ed_522 ed_525)⟩⟩⟩, by rw [ht]; exact hP, hD⟩, hS.F ht⟩) hS.2.2 dX9_term_247
                        · refine lv_aload_n hx hb dX9_term_168 rfl (lv_at hl 2 rfl) ?_
                          refine lv_iload hx hb dX9_term_169 (lv_at hl 1 rfl) ?_
                          have F_527 := fnlt (rfl : (p2 : Int32).toInt = (p2 : Int32).toInt) (by decide +kernel : (0 : Int32).toInt = 0) c_3
                          have F_528 := fnlt (by decide +kernel : (4 : Int32).toInt = 4) (rfl : (p2 : Int32).toInt = (p2 : Int32).toInt) c_118
                          have F_529 := fnlt (rfl : (p3 : Int32).toInt = (p3 : Int32).toInt) (by decide +kernel : (0 : Int32).toInt = 0) c_241
                          have F_530 := fle (rfl : (p3 : Int32).toInt = (p3 : Int32).toInt) (by decide +kernel : (4 : Int32).toInt = 4) c_372
                          have F_531 := fne (rfl : (p3 : Int32).toInt = (p3 : Int32).toInt) (by decide +kernel : (1 : Int32).toInt = 1) c_373
                          have F_532 := fne (rfl : (p3 : Int32).toInt = (p3 : Int32).toInt) (by decide +kernel : (3 : Int32).toInt = 3) c_374
                          have F_533 := feq (rfl : (p3 : Int32).toInt = (p3 : Int32).toInt) (by decide +kernel : (4 : Int32).toInt = 4) c_375
                          have F_534 := feq (by decide +kernel : (0 : Int32).toInt = 0) (by decide +kernel : (0 : Int32).toInt = 0) c_427
                          have F_535 := fnlt (rfl : (p4 : Int32).toInt = (p4 : Int32).toInt) (by decide +kernel : (0 : Int32).toInt = 0) c_428
                          have F_536 := fnlt (by decide +kernel : (129600 : Int32).toInt = 129600) (rfl : (p4 : Int32).toInt = (p4 : Int32).toInt) c_445
                          have F_537 := fnlt (rfl : (p5 : Int32).toInt = (p5 : Int32).toInt) (by decide +kernel : (0 : Int32).toInt = 0) c_463
                          have F_538 := fle (rfl : (p5 : Int32).toInt = (p5 : Int32).toInt) (by decide +kernel : (129600 : Int32).toInt = 129600) c_482
                          have F_539 := feq (by decide +kernel : (0 : Int32).toInt = 0) (by decide +kernel : (0 : Int32).toInt = 0) c_483
                          have F_540 := fne (rfl : (r_2 : Int32).toInt = (r_2 : Int32).toInt) (by decide +kernel : (0 : Int32).toInt = 0) c_484
                          refine yVwi (As := [.int r_2]) (rest := []) C0 (g_X9_no l G S d_1 h0 r_2 hSh hPod_1 hm_h0 hk_h0 (by refine ⟨?_, ?_⟩ <;> omega)) ok_X9_no (mW177 : Cond.methodLink RX9 168 yX9_no ∈ wsT) ⟨Nat.le_of_ble_eq_true rfl, Nat.le_of_ble_eq_true rfl⟩ hP hD hS hA hK hN hm_h0 hk_h0 (by decide) rfl rfl rfl hl.1 rfl (Nat.le_of_ble_eq_true rfl) ⟨Nat.le_of_ble_eq_true rfl, Nat.le_of_ble_eq_true rfl⟩ dX9_term_171 (fun r_541 d_542 H locs hr_541 hP hD hS => ?_)
                          obtain ⟨hgad_542, hpad_542, hfad_542, hxd_542⟩ := hr_541
                          have hfd_542 : yK [38] d d_542 h0 := yK.tr hfd_1 hfad_542 (by decide)
                          have hE0d_542 : (d_542.1 h0 0).toInt = (d_1.1 h0 0).toInt := congrArg Int32.toInt (hfad_542 0 (by decide))
                          have hE1d_542 : (d_542.1 h0 1).toInt = (d_1.1 h0 1).toInt := congrArg Int32.toInt (hfad_542 1 (by decide))
                          have hE2d_542 : (d_542.1 h0 2).toInt = (d_1.1 h0 2).toInt := congrArg Int32.toInt (hfad_542 2 (by decide))
                          have hE3d_542 : (d_542.1 h0 3).toInt = (d_1.1 h0 3).toInt := congrArg Int32.toInt (hfad_542 3 (by decide))
                          have hE63d_542 : (d_542.1 h0 63).toInt = (d_1.1 h0 63).toInt := congrArg Int32.toInt (hfad_542 63 (by decide))
                          have hId_542 : yMI S d_542 h0 := yMI.ag hId_1 hSh hm_h0 hk_h0 hgad_542 hfad_542 (by decide) (by decide)
                          have hgd_542 : yAg S [9, 34, 35, 36, 37, 38, 39, 40, 69] d d_542 := yAg.tr hgd_1 hgad_542 (by first | decide | exact fun _ h => h)
                          have hPod_542 : yPo S d_542 := hpad_542 hPod_1
                          refine lv_pop hx hb dX9_term_174 rfl ?_
                          refine lv_iconst (v := 0) hx hb dX9_term_175 (by decide) ?_
                          have hCC_543 := yMI.c hId_542
                          exact W.zret (v := 0) (ty := .boolean) hx hb hr rfl (fun t ht hW => ⟨⟨0, d_542, rfl, ⟨hgd_542, (fun _ => hPod_542), hfd_542, ⟨hId_542, Or.inl ⟨by have h0_ : (0 : Int32).toInt = 0 := (by decide +kernel); omega, by omega, (zTr.ag (zTr.ag zTr.rf hSh hm_h0 hk_h0 hsd_1 (by decide)) hSh hm_h0 hk_h0 hgad_542 (by decide))⟩⟩⟩, by rw [ht]; exact hP, hD⟩, hS.F ht⟩) hS.2.2 dX9_term_176
                      · refine lv_iconst (v := 1) hx hb dX9_term_148 (by decide) ?_
                        refine lv_goto (tgt := 153) hx hb dX9_term_149 (by decide) ?_
                        refine lv_istore (lv' := [(8, .int 1), (7, .int r_2), (0, .ref h0), (1, .int p0), (2, .int p1), (3, .int p2), (4, .int p3), (5, .int p4), (6, .int p5)]) hx hb dX9_term_153 hl (by decide) rfl (fun ls hl => ?_)
                        refine lv_iload hx hb dX9_term_155 (lv_at hl 0 rfl) ?_
                        refine lv_if_eq (tgt := 163) hx hb dX9_term_157 (by decide) (fun c_544 => absurd c_544 (by decide +kernel)) (fun c_544 => ?_)
                        refine lv_iconst (v := 1) hx hb dX9_term_160 (by decide) ?_
                        refine lv_istore (lv' := [(7, .int 1), (8, .int 1), (0, .ref h0), (1, .int p0), (2, .int p1), (3, .int p2), (4, .int p3), (5, .int p4), (6, .int p5)]) hx hb dX9_term_161 hl (by decide) rfl (fun ls hl => ?_)
                        refine lv_iload hx hb dX9_term_163 (lv_at hl 0 rfl) ?_
                        refine lv_if_eq (tgt := 177) hx hb dX9_term_165 (by decide) (fun c_545 => absurd c_545 (by decide +kernel)) (fun c_545 => ?_)
                        refine lv_aload_n hx hb dX9_term_168 rfl (lv_at hl 2 rfl) ?_
                        refine lv_iload hx hb dX9_term_169 (lv_at hl 0 rfl) ?_
                        refine yVwi (As := [.int 1]) (rest := []) C0 (g_X9_no l G S d_1 h0 1 hSh hPod_1 hm_h0 hk_h0 (by decide +kernel)) ok_X9_no (mW177 : Cond.methodLink RX9 168 yX9_no ∈ wsT) ⟨Nat.le_of_ble_eq_true rfl, Nat.le_of_ble_eq_true rfl⟩ hP hD hS hA hK hN hm_h0 hk_h0 (by decide) rfl rfl rfl hl.1 rfl (Nat.le_of_ble_eq_true rfl) ⟨Nat.le_of_ble_eq_true rfl, Nat.le_of_ble_eq_true rfl⟩ dX9_term_171 (fun r_546 d_547 H locs hr_546 hP hD hS => ?_)
                        obtain ⟨hgad_547, hpad_547, hfad_547, hxd_547⟩ := hr_546
                        have hfd_547 : yK [38] d d_547 h0 := yK.tr hfd_1 hfad_547 (by decide)
                        have hE0d_547 : (d_547.1 h0 0).toInt = (d_1.1 h0 0).toInt := congrArg Int32.toInt (hfad_547 0 (by decide))
                        have hE1d_547 : (d_547.1 h0 1).toInt = (d_1.1 h0 1).toInt := congrArg Int32.toInt (hfad_547 1 (by decide))
                        have hE2d_547 : (d_547.1 h0 2).toInt = (d_1.1 h0 2).toInt := congrArg Int32.toInt (hfad_547 2 (by decide))
                        have hE3d_547 : (d_547.1 h0 3).toInt = (d_1.1 h0 3).toInt := congrArg Int32.toInt (hfad_547 3 (by decide))
                        have hE63d_547 : (d_547.1 h0 63).toInt = (d_1.1 h0 63).toInt := congrArg Int32.toInt (hfad_547 63 (by decide))
                        have hId_547 : yMI S d_547 h0 := yMI.ag hId_1 hSh hm_h0 hk_h0 hgad_547 hfad_547 (by decide) (by decide)
                        have hgd_547 : yAg S [9, 34, 35, 36, 37, 38, 39, 40, 69] d d_547 := yAg.tr hgd_1 hgad_547 (by first | decide | exact fun _ h => h)
                        have hPod_547 : yPo S d_547 := hpad_547 hPod_1
                        refine lv_pop hx hb dX9_term_174 rfl ?_
                        refine lv_iconst (v := 0) hx hb dX9_term_175 (by decide) ?_
                        have hCC_548 := yMI.c hId_547
                        have F_549 := fnlt (rfl : (p2 : Int32).toInt = (p2 : Int32).toInt) (by decide +kernel : (0 : Int32).toInt = 0) c_3
                        have F_550 := fnlt (by decide +kernel : (4 : Int32).toInt = 4) (rfl : (p2 : Int32).toInt = (p2 : Int32).toInt) c_118
                        have F_551 := fnlt (rfl : (p3 : Int32).toInt = (p3 : Int32).toInt) (by decide +kernel : (0 : Int32).toInt = 0) c_241
                        have F_552 := fle (rfl : (p3 : Int32).toInt = (p3 : Int32).toInt) (by decide +kernel : (4 : Int32).toInt = 4) c_372
                        have F_553 := fne (rfl : (p3 : Int32).toInt = (p3 : Int32).toInt) (by decide +kernel : (1 : Int32).toInt = 1) c_373
                        have F_554 := fne (rfl : (p3 : Int32).toInt = (p3 : Int32).toInt) (by decide +kernel : (3 : Int32).toInt = 3) c_374
                        have F_555 := feq (rfl : (p3 : Int32).toInt = (p3 : Int32).toInt) (by decide +kernel : (4 : Int32).toInt = 4) c_375
                        have F_556 := feq (by decide +kernel : (0 : Int32).toInt = 0) (by decide +kernel : (0 : Int32).toInt = 0) c_427
                        have F_557 := fnlt (rfl : (p4 : Int32).toInt = (p4 : Int32).toInt) (by decide +kernel : (0 : Int32).toInt = 0) c_428
                        have F_558 := fnlt (by decide +kernel : (129600 : Int32).toInt = 129600) (rfl : (p4 : Int32).toInt = (p4 : Int32).toInt) c_445
                        have F_559 := fnlt (rfl : (p5 : Int32).toInt = (p5 : Int32).toInt) (by decide +kernel : (0 : Int32).toInt = 0) c_463
                        have F_560 := fnle (rfl : (p5 : Int32).toInt = (p5 : Int32).toInt) (by decide +kernel : (129600 : Int32).toInt = 129600) c_482
                        have F_561 := fne (by decide +kernel : (1 : Int32).toInt = 1) (by decide +kernel : (0 : Int32).toInt = 0) c_544
                        have F_562 := fne (by decide +kernel : (1 : Int32).toInt = 1) (by decide +kernel : (0 : Int32).toInt = 0) c_545
                        exact W.zret (v := 0) (ty := .boolean) hx hb hr rfl (fun t ht hW => ⟨⟨0, d_547, rfl, ⟨hgd_547, (fun _ => hPod_547), hfd_547, ⟨hId_547, Or.inl ⟨by have h0_ : (0 : Int32).toInt = 0 := (by decide +kernel); omega, by omega, (zTr.ag (zTr.ag zTr.rf hSh hm_h0 hk_h0 hsd_1 (by decide)) hSh hm_h0 hk_h0 hgad_547 (by decide))⟩⟩⟩, by rw [ht]; exact hP, hD⟩, hS.F ht⟩) hS.2.2 dX9_term_176
            · refine lv_iload hx hb dX9_term_90 (lv_at hl 0 rfl) ?_
              refine lv_if_ne (tgt := 106) hx hb dX9_term_92 (by decide) (fun c_563 => absurd c_563 (by decide +kernel)) (fun c_563 => ?_)
              refine lv_iload hx hb dX9_term_95 (lv_at hl 7 rfl) ?_
              refine lv_if_lt (tgt := 106) hx hb dX9_term_97 (by decide) (fun c_564 => ?_) (fun c_564 => ?_)
              · refine lv_iconst (v := 1) hx hb dX9_term_106 (by decide) ?_
                refine lv_goto (tgt := 111) hx hb dX9_term_107 (by decide) ?_
                refine lv_istore (lv' := [(8, .int 1), (7, .int r_2), (0, .ref h0), (1, .int p0), (2, .int p1), (3, .int p2), (4, .int p3), (5, .int p4), (6, .int p5)]) hx hb dX9_term_111 hl (by decide) rfl (fun ls hl => ?_)
                refine lv_iload hx hb dX9_term_113 (lv_at hl 6 rfl) ?_
                refine lv_iconst (v := 4) hx hb dX9_term_115 (by decide) ?_
                refine lv_icmp_ne (tgt := 155) hx hb dX9_term_116 (by decide) (fun c_565 => ?_) (fun c_565 => ?_)
                · refine lv_iload hx hb dX9_term_155 (lv_at hl 0 rfl) ?_
                  refine lv_if_eq (tgt := 163) hx hb dX9_term_157 (by decide) (fun c_566 => absurd c_566 (by decide +kernel)) (fun c_566 => ?_)
                  refine lv_iconst (v := 1) hx hb dX9_term_160 (by decide) ?_
                  refine lv_istore (lv' := [(7, .int 1), (8, .int 1), (0, .ref h0), (1, .int p0), (2, .int p1), (3, .int p2), (4, .int p3), (5, .int p4), (6, .int p5)]) hx hb dX9_term_161 hl (by decide) rfl (fun ls hl => ?_)
                  refine lv_iload hx hb dX9_term_163 (lv_at hl 0 rfl) ?_
                  refine lv_if_eq (tgt := 177) hx hb dX9_term_165 (by decide) (fun c_567 => absurd c_567 (by decide +kernel)) (fun c_567 => ?_)
                  refine lv_aload_n hx hb dX9_term_168 rfl (lv_at hl 2 rfl) ?_
                  refine lv_iload hx hb dX9_term_169 (lv_at hl 0 rfl) ?_
                  refine yVwi (As := [.int 1]) (rest := []) C0 (g_X9_no l G S d_1 h0 1 hSh hPod_1 hm_h0 hk_h0 (by decide +kernel)) ok_X9_no (mW177 : Cond.methodLink RX9 168 yX9_no ∈ wsT) ⟨Nat.le_of_ble_eq_true rfl, Nat.le_of_ble_eq_true rfl⟩ hP hD hS hA hK hN hm_h0 hk_h0 (by decide) rfl rfl rfl hl.1 rfl (Nat.le_of_ble_eq_true rfl) ⟨Nat.le_of_ble_eq_true rfl, Nat.le_of_ble_eq_true rfl⟩ dX9_term_171 (fun r_568 d_569 H locs hr_568 hP hD hS => ?_)
                  obtain ⟨hgad_569, hpad_569, hfad_569, hxd_569⟩ := hr_568
                  have hfd_569 : yK [38] d d_569 h0 := yK.tr hfd_1 hfad_569 (by decide)
                  have hE0d_569 : (d_569.1 h0 0).toInt = (d_1.1 h0 0).toInt := congrArg Int32.toInt (hfad_569 0 (by decide))
                  have hE1d_569 : (d_569.1 h0 1).toInt = (d_1.1 h0 1).toInt := congrArg Int32.toInt (hfad_569 1 (by decide))
                  have hE2d_569 : (d_569.1 h0 2).toInt = (d_1.1 h0 2).toInt := congrArg Int32.toInt (hfad_569 2 (by decide))
                  have hE3d_569 : (d_569.1 h0 3).toInt = (d_1.1 h0 3).toInt := congrArg Int32.toInt (hfad_569 3 (by decide))
                  have hE63d_569 : (d_569.1 h0 63).toInt = (d_1.1 h0 63).toInt := congrArg Int32.toInt (hfad_569 63 (by decide))
                  have hId_569 : yMI S d_569 h0 := yMI.ag hId_1 hSh hm_h0 hk_h0 hgad_569 hfad_569 (by decide) (by decide)
                  have hgd_569 : yAg S [9, 34, 35, 36, 37, 38, 39, 40, 69] d d_569 := yAg.tr hgd_1 hgad_569 (by first | decide | exact fun _ h => h)
                  have hPod_569 : yPo S d_569 := hpad_569 hPod_1
                  refine lv_pop hx hb dX9_term_174 rfl ?_
                  refine lv_iconst (v := 0) hx hb dX9_term_175 (by decide) ?_
                  have hCC_570 := yMI.c hId_569
                  have F_571 := fnlt (rfl : (p2 : Int32).toInt = (p2 : Int32).toInt) (by decide +kernel : (0 : Int32).toInt = 0) c_3
                  have F_572 := fnlt (by decide +kernel : (4 : Int32).toInt = 4) (rfl : (p2 : Int32).toInt = (p2 : Int32).toInt) c_118
                  have F_573 := fnlt (rfl : (p3 : Int32).toInt = (p3 : Int32).toInt) (by decide +kernel : (0 : Int32).toInt = 0) c_241
                  have F_574 := fle (rfl : (p3 : Int32).toInt = (p3 : Int32).toInt) (by decide +kernel : (4 : Int32).toInt = 4) c_372
                  have F_575 := fne (rfl : (p3 : Int32).toInt = (p3 : Int32).toInt) (by decide +kernel : (1 : Int32).toInt = 1) c_373
                  have F_576 := feq (rfl : (p3 : Int32).toInt = (p3 : Int32).toInt) (by decide +kernel : (3 : Int32).toInt = 3) c_374
                  have F_577 := feq (by decide +kernel : (0 : Int32).toInt = 0) (by decide +kernel : (0 : Int32).toInt = 0) c_563
                  have F_578 := flt (rfl : (p4 : Int32).toInt = (p4 : Int32).toInt) (by decide +kernel : (0 : Int32).toInt = 0) c_564
                  have F_579 := fne (rfl : (p3 : Int32).toInt = (p3 : Int32).toInt) (by decide +kernel : (4 : Int32).toInt = 4) c_565
                  have F_580 := fne (by decide +kernel : (1 : Int32).toInt = 1) (by decide +kernel : (0 : Int32).toInt = 0) c_566
                  have F_581 := fne (by decide +kernel : (1 : Int32).toInt = 1) (by decide +kernel : (0 : Int32).toInt = 0) c_567
                  exact W.zret (v := 0) (ty := .boolean) hx hb hr rfl (fun t ht hW => ⟨⟨0, d_569, rfl, ⟨hgd_569, (fun _ => hPod_569), hfd_569, ⟨hId_569, Or.inl ⟨by have h0_ : (0 : Int32).toInt = 0 := (by decide +kernel); omega, by omega, (zTr.ag (zTr.ag zTr.rf hSh hm_h0 hk_h0 hsd_1 (by decide)) hSh hm_h0 hk_h0 hgad_569 (by decide))⟩⟩⟩, by rw [ht]; exact hP, hD⟩, hS.F ht⟩) hS.2.2 dX9_term_176
                · refine lv_iload hx hb dX9_term_119 (lv_at hl 0 rfl) ?_
                  refine lv_if_ne (tgt := 148) hx hb dX9_term_121 (by decide) (fun c_582 => ?_) (fun c_582 => absurd c_582 (by decide +kernel))
                  refine lv_iconst (v := 1) hx hb dX9_term_148 (by decide) ?_
                  refine lv_goto (tgt := 153) hx hb dX9_term_149 (by decide) ?_
                  refine lv_istore (lv' := [(8, .int 1), (7, .int r_2), (0, .ref h0), (1, .int p0), (2, .int p1), (3, .int p2), (4, .int p3), (5, .int p4), (6, .int p5)]) hx hb dX9_term_153 hl (by decide) rfl (fun ls hl => ?_)
                  refine lv_iload hx hb dX9_term_155 (lv_at hl 0 rfl) ?_
                  refine lv_if_eq (tgt := 163) hx hb dX9_term_157 (by decide) (fun c_583 => absurd c_583 (by decide +kernel)) (fun c_583 => ?_)
                  refine lv_iconst (v := 1) hx hb dX9_term_160 (by decide) ?_
                  refine lv_istore (lv' := [(7, .int 1), (8, .int 1), (0, .ref h0), (1, .int p0), (2, .int p1), (3, .int p2), (4, .int p3), (5, .int p4), (6, .int p5)]) hx hb dX9_term_161 hl (by decide) rfl (fun ls hl => ?_)
                  refine lv_iload hx hb dX9_term_163 (lv_at hl 0 rfl) ?_
                  refine lv_if_eq (tgt := 177) hx hb dX9_term_165 (by decide) (fun c_584 => absurd c_584 (by decide +kernel)) (fun c_584 => ?_)
                  refine lv_aload_n hx hb dX9_term_168 rfl (lv_at hl 2 rfl) ?_
                  refine lv_iload hx hb dX9_term_169 (lv_at hl 0 rfl) ?_
                  refine yVwi (As := [.int 1]) (rest := []) C0 (g_X9_no l G S d_1 h0 1 hSh hPod_1 hm_h0 hk_h0 (by decide +kernel)) ok_X9_no (mW177 : Cond.methodLink RX9 168 yX9_no ∈ wsT) ⟨Nat.le_of_ble_eq_true rfl, Nat.le_of_ble_eq_true rfl⟩ hP hD hS hA hK hN hm_h0 hk_h0 (by decide) rfl rfl rfl hl.1 rfl (Nat.le_of_ble_eq_true rfl) ⟨Nat.le_of_ble_eq_true rfl, Nat.le_of_ble_eq_true rfl⟩ dX9_term_171 (fun r_585 d_586 H locs hr_585 hP hD hS => ?_)
                  obtain ⟨hgad_586, hpad_586, hfad_586, hxd_586⟩ := hr_585
                  have hfd_586 : yK [38] d d_586 h0 := yK.tr hfd_1 hfad_586 (by decide)
                  have hE0d_586 : (d_586.1 h0 0).toInt = (d_1.1 h0 0).toInt := congrArg Int32.toInt (hfad_586 0 (by decide))
                  have hE1d_586 : (d_586.1 h0 1).toInt = (d_1.1 h0 1).toInt := congrArg Int32.toInt (hfad_586 1 (by decide))
                  have hE2d_586 : (d_586.1 h0 2).toInt = (d_1.1 h0 2).toInt := congrArg Int32.toInt (hfad_586 2 (by decide))
                  have hE3d_586 : (d_586.1 h0 3).toInt = (d_1.1 h0 3).toInt := congrArg Int32.toInt (hfad_586 3 (by decide))
                  have hE63d_586 : (d_586.1 h0 63).toInt = (d_1.1 h0 63).toInt := congrArg Int32.toInt (hfad_586 63 (by decide))
                  have hId_586 : yMI S d_586 h0 := yMI.ag hId_1 hSh hm_h0 hk_h0 hgad_586 hfad_586 (by decide) (by decide)
                  have hgd_586 : yAg S [9, 34, 35, 36, 37, 38, 39, 40, 69] d d_586 := yAg.tr hgd_1 hgad_586 (by first | decide | exact fun _ h => h)
                  have hPod_586 : yPo S d_586 := hpad_586 hPod_1
                  refine lv_pop hx hb dX9_term_174 rfl ?_
                  refine lv_iconst (v := 0) hx hb dX9_term_175 (by decide) ?_
                  have hCC_587 := yMI.c hId_586
                  have F_588 := fnlt (rfl : (p2 : Int32).toInt = (p2 : Int32).toInt) (by decide +kernel : (0 : Int32).toInt = 0) c_3
                  have F_589 := fnlt (by decide +kernel : (4 : Int32).toInt = 4) (rfl : (p2 : Int32).toInt = (p2 : Int32).toInt) c_118
                  have F_590 := fnlt (rfl : (p3 : Int32).toInt = (p3 : Int32).toInt) (by decide +kernel : (0 : Int32).toInt = 0) c_241
                  have F_591 := fle (rfl : (p3 : Int32).toInt = (p3 : Int32).toInt) (by decide +kernel : (4 : Int32).toInt = 4) c_372
                  have F_592 := fne (rfl : (p3 : Int32).toInt = (p3 : Int32).toInt) (by decide +kernel : (1 : Int32).toInt = 1) c_373
                  have F_593 := feq (rfl : (p3 : Int32).toInt = (p3 : Int32).toInt) (by decide +kernel : (3 : Int32).toInt = 3) c_374
                  have F_594 := feq (by decide +kernel : (0 : Int32).toInt = 0) (by decide +kernel : (0 : Int32).toInt = 0) c_563
                  have F_595 := flt (rfl : (p4 : Int32).toInt = (p4 : Int32).toInt) (by decide +kernel : (0 : Int32).toInt = 0) c_564
                  have F_596 := feq (rfl : (p3 : Int32).toInt = (p3 : Int32).toInt) (by decide +kernel : (4 : Int32).toInt = 4) c_565
                  have F_597 := fne (by decide +kernel : (1 : Int32).toInt = 1) (by decide +kernel : (0 : Int32).toInt = 0) c_582
                  have F_598 := fne (by decide +kernel : (1 : Int32).toInt = 1) (by decide +kernel : (0 : Int32).toInt = 0) c_583
                  have F_599 := fne (by decide +kernel : (1 : Int32).toInt = 1) (by decide +kernel : (0 : Int32).toInt = 0) c_584
                  exact W.zret (v := 0) (ty := .boolean) hx hb hr rfl (fun t ht hW => ⟨⟨0, d_586, rfl, ⟨hgd_586, (fun _ => hPod_586), hfd_586, ⟨hId_586, Or.inl ⟨by have h0_ : (0 : Int32).toInt = 0 := (by decide +kernel); omega, by omega, (zTr.ag (zTr.ag zTr.rf hSh hm_h0 hk_h0 hsd_1 (by decide)) hSh hm_h0 hk_h0 hgad_586 (by decide))⟩⟩⟩, by rw [ht]; exact hP, hD⟩, hS.F ht⟩) hS.2.2 dX9_term_176
              · refine lv_iload hx hb dX9_term_100 (lv_at hl 7 rfl) ?_
                refine lv_iconst (v := 4) hx hb dX9_term_102 (by decide) ?_
                refine lv_icmp_le (tgt := 110) hx hb dX9_term_103 (by decide) (fun c_600 => ?_) (fun c_600 => ?_)
                · refine lv_iconst (v := 0) hx hb dX9_term_110 (by decide) ?_
                  refine lv_istore (lv' := [(8, .int 0), (7, .int r_2), (0, .ref h0), (1, .int p0), (2, .int p1), (3, .int p2), (4, .int p3), (5, .int p4), (6, .int p5)]) hx hb dX9_term_111 hl (by decide) rfl (fun ls hl => ?_)
                  refine lv_iload hx hb dX9_term_113 (lv_at hl 6 rfl) ?_
                  refine lv_iconst (v := 4) hx hb dX9_term_115 (by decide) ?_
                  refine lv_icmp_ne (tgt := 155) hx hb dX9_term_116 (by decide) (fun c_601 => ?_) (fun c_601 => ?_)
                  · refine lv_iload hx hb dX9_term_155 (lv_at hl 0 rfl) ?_
                    refine lv_if_eq (tgt := 163) hx hb dX9_term_157 (by decide) (fun c_602 => ?_) (fun c_602 => absurd c_602 (by decide +kernel))
                    refine lv_iload hx hb dX9_term_163 (lv_at hl 1 rfl) ?_
                    refine lv_if_eq (tgt := 177) hx hb dX9_term_165 (by decide) (fun c_603 => ?_) (fun c_603 => ?_)
                    · refine lv_bipush (v := 60) hx hb dX9_term_177 (by decide) ?_
                      refine lv_iload_n hx hb dX9_term_179 rfl (lv_at hl 3 rfl) ?_
                      refine lv_imul hx hb dX9_term_180 ?_
                      refine lv_topi (fun z_604 ez_604 => ?_)
                      refine lv_iload_n hx hb dX9_term_181 rfl (lv_at hl 4 rfl) ?_
                      refine lv_iadd hx hb dX9_term_182 ?_
                      refine lv_topi (fun z_605 ez_605 => ?_)
                      refine lv_istore (lv' := [(9, .int z_605), (8, .int 0), (7, .int r_2), (0, .ref h0), (1, .int p0), (2, .int p1), (3, .int p2), (4, .int p3), (5, .int p4), (6, .int p5)]) hx hb dX9_term_183 hl (by decide) rfl (fun ls hl => ?_)
                      refine lv_aload_n hx hb dX9_term_185 rfl (lv_at hl 3 rfl) ?_
                      refine yget (ci := 9) (k := 4) (v := .ref (S.2.2.1 h0 4)) (C := RX9) (T := TX9) (N := 67) C0 hK hP hm_h0 hk_h0 (by decide) rfl inlX9 (by decide) mW108 (fun _ h9 => h9) rfl dX9_term_186 ?_
                      obtain ⟨hmy_606, hky_606⟩ := ySh.f9_4 hSh _ hm_h0 hk_h0
                      refine lv_iload hx hb dX9_term_189 (lv_at hl 0 rfl) ?_
                      refine lv_iconst (v := 2) hx hb dX9_term_191 (by decide) ?_
                      have hCC_607 := yMI.c hId_1
                      have F_608 := fnlt (rfl : (p2 : Int32).toInt = (p2 : Int32).toInt) (by decide +kernel : (0 : Int32).toInt = 0) c_3
                      have F_609 := fnlt (by decide +kernel : (4 : Int32).toInt = 4) (rfl : (p2 : Int32).toInt = (p2 : Int32).toInt) c_118
                      have F_610 := fnlt (rfl : (p3 : Int32).toInt = (p3 : Int32).toInt) (by decide +kernel : (0 : Int32).toInt = 0) c_241
                      have F_611 := fle (rfl : (p3 : Int32).toInt = (p3 : Int32).toInt) (by decide +kernel : (4 : Int32).toInt = 4) c_372
                      have F_612 := fne (rfl : (p3 : Int32).toInt = (p3 : Int32).toInt) (by decide +kernel : (1 : Int32).toInt = 1) c_373
                      have F_613 := feq (rfl : (p3 : Int32).toInt = (p3 : Int32).toInt) (by decide +kernel : (3 : Int32).toInt = 3) c_374
                      have F_614 := feq (by decide +kernel : (0 : Int32).toInt = 0) (by decide +kernel : (0 : Int32).toInt = 0) c_563
                      have F_615 := fnlt (rfl : (p4 : Int32).toInt = (p4 : Int32).toInt) (by decide +kernel : (0 : Int32).toInt = 0) c_564
                      have F_616 := fle (rfl : (p4 : Int32).toInt = (p4 : Int32).toInt) (by decide +kernel : (4 : Int32).toInt = 4) c_600
                      have F_617 := fne (rfl : (p3 : Int32).toInt = (p3 : Int32).toInt) (by decide +kernel : (4 : Int32).toInt = 4) c_601
                      have F_618 := feq (by decide +kernel : (0 : Int32).toInt = 0) (by decide +kernel : (0 : Int32).toInt = 0) c_602
                      have F_619 := feq (rfl : (r_2 : Int32).toInt = (r_2 : Int32).toInt) (by decide +kernel : (0 : Int32).toInt = 0) c_603
                      have T_621 : (z_604 : Int32).toInt = 60 * (p0 : Int32).toInt := tmul ez_604 (by decide +kernel : (60 : Int32).toInt = 60) (rfl : (p0 : Int32).toInt = (p0 : Int32).toInt) (by omega) (by omega)
                      have T_620 : (z_605 : Int32).toInt = (z_604 : Int32).toInt + (p1 : Int32).toInt := tadd ez_605 (rfl : (z_604 : Int32).toInt = (z_604 : Int32).toInt) (rfl : (p1 : Int32).toInt = (p1 : Int32).toInt) (by omega) (by omega)
                      refine yastB C0 hK hP hD hS hmy_606 hky_606 (by decide) rfl 1 rfl (xinT 2400 rfl (by omega) (by omega)) dX9_term_192 (fun H locs hP hD hS => ?_)
                      obtain ⟨d_622, ed_622⟩ : ∃ z : yD, z = ycs d_1 (S.2.2.1 h0 4) (upd (d_1.2.2.2.1 (S.2.2.1 h0 4)) (z_605 : Int32).toNatClampNeg (vp_nar .byte 2)) := ⟨_, rfl⟩
                      rw [← ed_622] at hP hD
                      have hgd_622 : yAg S [9, 34, 35, 36, 37, 38, 39, 40, 69] d d_622 := by rw [ed_622]; exact yAg.cs hgd_1 (by rw [hky_606]; decide)
                      have hsd_622 : yAg S [34] d_1 d_622 := by rw [ed_622]; exact yAg.cs yAg.rf (by rw [hky_606]; decide)
                      have hPod_622 : yPo S d_622 := by rw [ed_622]; exact hPod_1
                      have hfd_622 : yK [38] d d_622 h0 := yK.ag hfd_1 (show yAg S [34] d_1 d_622 from by rw [ed_622]; exact yAg.cs yAg.rf (by rw [hky_606]; decide)) (by rw [hk_h0]; decide)
                      have hId_622 : yMI S d_622 h0 := yMI.ag hId_1 hSh hm_h0 hk_h0 (show yAg S [34] d_1 d_622 from by rw [ed_622]; exact yAg.cs yAg.rf (by rw [hky_606]; decide)) (yK.ag (F := []) yK.rf (show yAg S [34] d_1 d_622 from by rw [ed_622]; exact yAg.cs yAg.rf (by rw [hky_606]; decide)) (by rw [hk_h0]; decide)) (by decide) (by decide)
                      have hE0d_622 : (d_622.1 h0 0).toInt = (d_1.1 h0 0).toInt := congrArg Int32.toInt ((yK.ag (F := []) yK.rf (show yAg S [34] d_1 d_622 from by rw [ed_622]; exact yAg.cs yAg.rf (by rw [hky_606]; decide)) (by rw [hk_h0]; decide)) 0 (by decide))
                      have hE1d_622 : (d_622.1 h0 1).toInt = (d_1.1 h0 1).toInt := congrArg Int32.toInt ((yK.ag (F := []) yK.rf (show yAg S [34] d_1 d_622 from by rw [ed_622]; exact yAg.cs yAg.rf (by rw [hky_606]; decide)) (by rw [hk_h0]; decide)) 1 (by decide))
                      have hE2d_622 : (d_622.1 h0 2).toInt = (d_1.1 h0 2).toInt := congrArg Int32.toInt ((yK.ag (F := []) yK.rf (show yAg S [34] d_1 d_622 from by rw [ed_622]; exact yAg.cs yAg.rf (by rw [hky_606]; decide)) (by rw [hk_h0]; decide)) 2 (by decide))
                      have hE3d_622 : (d_622.1 h0 3).toInt = (d_1.1 h0 3).toInt := congrArg Int32.toInt ((yK.ag (F := []) yK.rf (show yAg S [34] d_1 d_622 from by rw [ed_622]; exact yAg.cs yAg.rf (by rw [hky_606]; decide)) (by rw [hk_h0]; decide)) 3 (by decide))
                      have hE63d_622 : (d_622.1 h0 63).toInt = (d_1.1 h0 63).toInt := congrArg Int32.toInt ((yK.ag (F := []) yK.rf (show yAg S [34] d_1 d_622 from by rw [ed_622]; exact yAg.cs yAg.rf (by rw [hky_606]; decide)) (by rw [hk_h0]; decide)) 63 (by decide))
                      refine lv_aload_n hx hb dX9_term_193 rfl (lv_at hl 3 rfl) ?_
                      refine yget (ci := 9) (k := 5) (v := .ref (S.2.2.1 h0 5)) (C := RX9) (T := TX9) (N := 67) C0 hK hP hm_h0 hk_h0 (by decide) rfl inlX9 (by decide) mW109 (fun _ h9 => h9) rfl dX9_term_194 ?_
                      obtain ⟨hmy_623, hky_623⟩ := ySh.f9_5 hSh _ hm_h0 hk_h0
                      refine lv_iload hx hb dX9_term_197 (lv_at hl 0 rfl) ?_
                      refine lv_iload_n hx hb dX9_term_199 rfl (lv_at hl 6 rfl) ?_
                      refine lv_i2b hx hb dX9_term_200 rfl ?_
                      refine lv_topi (fun z_624 ez_624 => ?_)
                      have hCC_625 := yMI.c hId_622
                      refine yastB C0 hK hP hD hS hmy_623 hky_623 (by decide) rfl 1 rfl (xinT 2400 rfl (by omega) (by omega)) dX9_term_201 (fun H locs hP hD hS => ?_)
                      obtain ⟨d_626, ed_626⟩ : ∃ z : yD, z = ycs d_622 (S.2.2.1 h0 5) (upd (d_622.2.2.2.1 (S.2.2.1 h0 5)) (z_605 : Int32).toNatClampNeg (vp_nar .byte z_624)) := ⟨_, rfl⟩
                      rw [← ed_626] at hP hD
                      have hgd_626 : yAg S [9, 34, 35, 36, 37, 38, 39, 40, 69] d d_626 := by rw [ed_626]; exact yAg.cs hgd_622 (by rw [hky_623]; decide)
                      have hsd_626 : yAg S [35] d_622 d_626 := by rw [ed_626]; exact yAg.cs yAg.rf (by rw [hky_623]; decide)
                      have hPod_626 : yPo S d_626 := by rw [ed_626]; exact hPod_622
                      have hfd_626 : yK [38] d d_626 h0 := yK.ag hfd_622 (show yAg S [35] d_622 d_626 from by rw [ed_626]; exact yAg.cs yAg.rf (by rw [hky_623]; decide)) (by rw [hk_h0]; decide)
                      have hId_626 : yMI S d_626 h0 := yMI.ag hId_622 hSh hm_h0 hk_h0 (show yAg S [35] d_622 d_626 from by rw [ed_626]; exact yAg.cs yAg.rf (by rw [hky_623]; decide)) (yK.ag (F := []) yK.rf (show yAg S [35] d_622 d_626 from by rw [ed_626]; exact yAg.cs yAg.rf (by rw [hky_623]; decide)) (by rw [hk_h0]; decide)) (by decide) (by decide)
                      have hE0d_626 : (d_626.1 h0 0).toInt = (d_622.1 h0 0).toInt := congrArg Int32.toInt ((yK.ag (F := []) yK.rf (show yAg S [35] d_622 d_626 from by rw [ed_626]; exact yAg.cs yAg.rf (by rw [hky_623]; decide)) (by rw [hk_h0]; decide)) 0 (by decide))
                      have hE1d_626 : (d_626.1 h0 1).toInt = (d_622.1 h0 1).toInt := congrArg Int32.toInt ((yK.ag (F := []) yK.rf (show yAg S [35] d_622 d_626 from by rw [ed_626]; exact yAg.cs yAg.rf (by rw [hky_623]; decide)) (by rw [hk_h0]; decide)) 1 (by decide))
                      have hE2d_626 : (d_626.1 h0 2).toInt = (d_622.1 h0 2).toInt := congrArg Int32.toInt ((yK.ag (F := []) yK.rf (show yAg S [35] d_622 d_626 from by rw [ed_626]; exact yAg.cs yAg.rf (by rw [hky_623]; decide)) (by rw [hk_h0]; decide)) 2 (by decide))
                      have hE3d_626 : (d_626.1 h0 3).toInt = (d_622.1 h0 3).toInt := congrArg Int32.toInt ((yK.ag (F := []) yK.rf (show yAg S [35] d_622 d_626 from by rw [ed_626]; exact yAg.cs yAg.rf (by rw [hky_623]; decide)) (by rw [hk_h0]; decide)) 3 (by decide))
                      have hE63d_626 : (d_626.1 h0 63).toInt = (d_622.1 h0 63).toInt := congrArg Int32.toInt ((yK.ag (F := []) yK.rf (show yAg S [35] d_622 d_626 from by rw [ed_626]; exact yAg.cs yAg.rf (by rw [hky_623]; decide)) (by rw [hk_h0]; decide)) 63 (by decide))
                      refine lv_aload_n hx hb dX9_term_202 rfl (lv_at hl 3 rfl) ?_
                      refine yget (ci := 9) (k := 6) (v := .ref (S.2.2.1 h0 6)) (C := RX9) (T := TX9) (N := 67) C0 hK hP hm_h0 hk_h0 (by decide) rfl inlX9 (by decide) mW110 (fun _ h9 => h9) rfl dX9_term_203 ?_
                      obtain ⟨hmy_627, hky_627⟩ := ySh.f9_6 hSh _ hm_h0 hk_h0
                      refine lv_iload hx hb dX9_term_206 (lv_at hl 0 rfl) ?_
                      refine lv_iload hx hb dX9_term_208 (lv_at hl 7 rfl) ?_
                      refine lv_i2b hx hb dX9_term_210 rfl ?_
                      refine lv_topi (fun z_628 ez_628 => ?_)
                      have hCC_629 := yMI.c hId_626
                      refine yastB C0 hK hP hD hS hmy_627 hky_627 (by decide) rfl 1 rfl (xinT 2400 rfl (by omega) (by omega)) dX9_term_211 (fun H locs hP hD hS => ?_)
                      obtain ⟨d_630, ed_630⟩ : ∃ z : yD, z = ycs d_626 (S.2.2.1 h0 6) (upd (d_626.2.2.2.1 (S.2.2.1 h0 6)) (z_605 : Int32).toNatClampNeg (vp_nar .byte z_628)) := ⟨_, rfl⟩
                      rw [← ed_630] at hP hD
                      have hgd_630 : yAg S [9, 34, 35, 36, 37, 38, 39, 40, 69] d d_630 := by rw [ed_630]; exact yAg.cs hgd_626 (by rw [hky_627]; decide)
                      have hsd_630 : yAg S [36] d_626 d_630 := by rw [ed_630]; exact yAg.cs yAg.rf (by rw [hky_627]; decide)
                      have hPod_630 : yPo S d_630 := by rw [ed_630]; exact hPod_626
                      have hfd_630 : yK [38] d d_630 h0 := yK.ag hfd_626 (show yAg S [36] d_626 d_630 from by rw [ed_630]; exact yAg.cs yAg.rf (by rw [hky_627]; decide)) (by rw [hk_h0]; decide)
                      have hId_630 : yMI S d_630 h0 := yMI.ag hId_626 hSh hm_h0 hk_h0 (show yAg S [36] d_626 d_630 from by rw [ed_630]; exact yAg.cs yAg.rf (by rw [hky_627]; decide)) (yK.ag (F := []) yK.rf (show yAg S [36] d_626 d_630 from by rw [ed_630]; exact yAg.cs yAg.rf (by rw [hky_627]; decide)) (by rw [hk_h0]; decide)) (by decide) (by decide)
                      have hE0d_630 : (d_630.1 h0 0).toInt = (d_626.1 h0 0).toInt := congrArg Int32.toInt ((yK.ag (F := []) yK.rf (show yAg S [36] d_626 d_630 from by rw [ed_630]; exact yAg.cs yAg.rf (by rw [hky_627]; decide)) (by rw [hk_h0]; decide)) 0 (by decide))
                      have hE1d_630 : (d_630.1 h0 1).toInt = (d_626.1 h0 1).toInt := congrArg Int32.toInt ((yK.ag (F := []) yK.rf (show yAg S [36] d_626 d_630 from by rw [ed_630]; exact yAg.cs yAg.rf (by rw [hky_627]; decide)) (by rw [hk_h0]; decide)) 1 (by decide))
                      have hE2d_630 : (d_630.1 h0 2).toInt = (d_626.1 h0 2).toInt := congrArg Int32.toInt ((yK.ag (F := []) yK.rf (show yAg S [36] d_626 d_630 from by rw [ed_630]; exact yAg.cs yAg.rf (by rw [hky_627]; decide)) (by rw [hk_h0]; decide)) 2 (by decide))
                      have hE3d_630 : (d_630.1 h0 3).toInt = (d_626.1 h0 3).toInt := congrArg Int32.toInt ((yK.ag (F := []) yK.rf (show yAg S [36] d_626 d_630 from by rw [ed_630]; exact yAg.cs yAg.rf (by rw [hky_627]; decide)) (by rw [hk_h0]; decide)) 3 (by decide))
                      have hE63d_630 : (d_630.1 h0 63).toInt = (d_626.1 h0 63).toInt := congrArg Int32.toInt ((yK.ag (F := []) yK.rf (show yAg S [36] d_626 d_630 from by rw [ed_630]; exact yAg.cs yAg.rf (by rw [hky_627]; decide)) (by rw [hk_h0]; decide)) 63 (by decide))
                      refine lv_aload_n hx hb dX9_term_212 rfl (lv_at hl 3 rfl) ?_
                      refine yget (ci := 9) (k := 7) (v := .ref (S.2.2.1 h0 7)) (C := RX9) (T := TX9) (N := 67) C0 hK hP hm_h0 hk_h0 (by decide) rfl inlX9 (by decide) mW111 (fun _ h9 => h9) rfl dX9_term_213 ?_
                      obtain ⟨hmy_631, hky_631⟩ := ySh.f9_7 hSh _ hm_h0 hk_h0
                      refine lv_iload hx hb dX9_term_216 (lv_at hl 0 rfl) ?_
                      refine lv_iload hx hb dX9_term_218 (lv_at hl 8 rfl) ?_
                      have hCC_632 := yMI.c hId_630
                      refine yast C0 hK hP hD hS hmy_631 hky_631 (by decide) rfl 0 rfl (xinT 2400 rfl (by omega) (by omega)) dX9_term_220 (fun H locs hP hD hS => ?_)
                      obtain ⟨d_633, ed_633⟩ : ∃ z : yD, z = ycs d_630 (S.2.2.1 h0 7) (upd (d_630.2.2.2.1 (S.2.2.1 h0 7)) (z_605 : Int32).toNatClampNeg p4) := ⟨_, rfl⟩
                      rw [← ed_633] at hP hD
                      have hgd_633 : yAg S [9, 34, 35, 36, 37, 38, 39, 40, 69] d d_633 := by rw [ed_633]; exact yAg.cs hgd_630 (by rw [hky_631]; decide)
                      have hsd_633 : yAg S [37] d_630 d_633 := by rw [ed_633]; exact yAg.cs yAg.rf (by rw [hky_631]; decide)
                      have hPod_633 : yPo S d_633 := by rw [ed_633]; exact hPod_630
                      have hfd_633 : yK [38] d d_633 h0 := yK.ag hfd_630 (show yAg S [37] d_630 d_633 from by rw [ed_633]; exact yAg.cs yAg.rf (by rw [hky_631]; decide)) (by rw [hk_h0]; decide)
                      have hId_633 : yMI S d_633 h0 := yMI.ag hId_630 hSh hm_h0 hk_h0 (show yAg S [37] d_630 d_633 from by rw [ed_633]; exact yAg.cs yAg.rf (by rw [hky_631]; decide)) (yK.ag (F := []) yK.rf (show yAg S [37] d_630 d_633 from by rw [ed_633]; exact yAg.cs yAg.rf (by rw [hky_631]; decide)) (by rw [hk_h0]; decide)) (by decide) (by decide)
                      have hE0d_633 : (d_633.1 h0 0).toInt = (d_630.1 h0 0).toInt := congrArg Int32.toInt ((yK.ag (F := []) yK.rf (show yAg S [37] d_630 d_633 from by rw [ed_633]; exact yAg.cs yAg.rf (by rw [hky_631]; decide)) (by rw [hk_h0]; decide)) 0 (by decide))
                      have hE1d_633 : (d_633.1 h0 1).toInt = (d_630.1 h0 1).toInt := congrArg Int32.toInt ((yK.ag (F := []) yK.rf (show yAg S [37] d_630 d_633 from by rw [ed_633]; exact yAg.cs yAg.rf (by rw [hky_631]; decide)) (by rw [hk_h0]; decide)) 1 (by decide))
                      have hE2d_633 : (d_633.1 h0 2).toInt = (d_630.1 h0 2).toInt := congrArg Int32.toInt ((yK.ag (F := []) yK.rf (show yAg S [37] d_630 d_633 from by rw [ed_633]; exact yAg.cs yAg.rf (by rw [hky_631]; decide)) (by rw [hk_h0]; decide)) 2 (by decide))
                      have hE3d_633 : (d_633.1 h0 3).toInt = (d_630.1 h0 3).toInt := congrArg Int32.toInt ((yK.ag (F := []) yK.rf (show yAg S [37] d_630 d_633 from by rw [ed_633]; exact yAg.cs yAg.rf (by rw [hky_631]; decide)) (by rw [hk_h0]; decide)) 3 (by decide))
                      have hE63d_633 : (d_633.1 h0 63).toInt = (d_630.1 h0 63).toInt := congrArg Int32.toInt ((yK.ag (F := []) yK.rf (show yAg S [37] d_630 d_633 from by rw [ed_633]; exact yAg.cs yAg.rf (by rw [hky_631]; decide)) (by rw [hk_h0]; decide)) 63 (by decide))
                      refine lv_aload_n hx hb dX9_term_221 rfl (lv_at hl 3 rfl) ?_
                      refine yget (ci := 9) (k := 8) (v := .ref (S.2.2.1 h0 8)) (C := RX9) (T := TX9) (N := 67) C0 hK hP hm_h0 hk_h0 (by decide) rfl inlX9 (by decide) mW112 (fun _ h9 => h9) rfl dX9_term_222 ?_
                      obtain ⟨hmy_634, hky_634⟩ := ySh.f9_8 hSh _ hm_h0 hk_h0
                      refine lv_iload hx hb dX9_term_225 (lv_at hl 0 rfl) ?_
                      refine lv_iload hx hb dX9_term_227 (lv_at hl 9 rfl) ?_
                      have hCC_635 := yMI.c hId_633
                      refine yast C0 hK hP hD hS hmy_634 hky_634 (by decide) rfl 0 rfl (xinT 2400 rfl (by omega) (by omega)) dX9_term_229 (fun H locs hP hD hS => ?_)
                      obtain ⟨d_636, ed_636⟩ : ∃ z : yD, z = ycs d_633 (S.2.2.1 h0 8) (upd (d_633.2.2.2.1 (S.2.2.1 h0 8)) (z_605 : Int32).toNatClampNeg p5) := ⟨_, rfl⟩
                      rw [← ed_636] at hP hD
                      have hgd_636 : yAg S [9, 34, 35, 36, 37, 38, 39, 40, 69] d d_636 := by rw [ed_636]; exact yAg.cs hgd_633 (by rw [hky_634]; decide)
                      have hsd_636 : yAg S [38] d_633 d_636 := by rw [ed_636]; exact yAg.cs yAg.rf (by rw [hky_634]; decide)
                      have hPod_636 : yPo S d_636 := by rw [ed_636]; exact hPod_633
                      have hfd_636 : yK [38] d d_636 h0 := yK.ag hfd_633 (show yAg S [38] d_633 d_636 from by rw [ed_636]; exact yAg.cs yAg.rf (by rw [hky_634]; decide)) (by rw [hk_h0]; decide)
                      have hId_636 : yMI S d_636 h0 := yMI.ag hId_633 hSh hm_h0 hk_h0 (show yAg S [38] d_633 d_636 from by rw [ed_636]; exact yAg.cs yAg.rf (by rw [hky_634]; decide)) (yK.ag (F := []) yK.rf (show yAg S [38] d_633 d_636 from by rw [ed_636]; exact yAg.cs yAg.rf (by rw [hky_634]; decide)) (by rw [hk_h0]; decide)) (by decide) (by decide)
                      have hE0d_636 : (d_636.1 h0 0).toInt = (d_633.1 h0 0).toInt := congrArg Int32.toInt ((yK.ag (F := []) yK.rf (show yAg S [38] d_633 d_636 from by rw [ed_636]; exact yAg.cs yAg.rf (by rw [hky_634]; decide)) (by rw [hk_h0]; decide)) 0 (by decide))
                      have hE1d_636 : (d_636.1 h0 1).toInt = (d_633.1 h0 1).toInt := congrArg Int32.toInt ((yK.ag (F := []) yK.rf (show yAg S [38] d_633 d_636 from by rw [ed_636]; exact yAg.cs yAg.rf (by rw [hky_634]; decide)) (by rw [hk_h0]; decide)) 1 (by decide))
                      have hE2d_636 : (d_636.1 h0 2).toInt = (d_633.1 h0 2).toInt := congrArg Int32.toInt ((yK.ag (F := []) yK.rf (show yAg S [38] d_633 d_636 from by rw [ed_636]; exact yAg.cs yAg.rf (by rw [hky_634]; decide)) (by rw [hk_h0]; decide)) 2 (by decide))
                      have hE3d_636 : (d_636.1 h0 3).toInt = (d_633.1 h0 3).toInt := congrArg Int32.toInt ((yK.ag (F := []) yK.rf (show yAg S [38] d_633 d_636 from by rw [ed_636]; exact yAg.cs yAg.rf (by rw [hky_634]; decide)) (by rw [hk_h0]; decide)) 3 (by decide))
                      have hE63d_636 : (d_636.1 h0 63).toInt = (d_633.1 h0 63).toInt := congrArg Int32.toInt ((yK.ag (F := []) yK.rf (show yAg S [38] d_633 d_636 from by rw [ed_636]; exact yAg.cs yAg.rf (by rw [hky_634]; decide)) (by rw [hk_h0]; decide)) 63 (by decide))
                      refine lv_aload_n hx hb dX9_term_230 rfl (lv_at hl 3 rfl) ?_
                      refine yget (ci := 9) (k := 9) (v := .ref (S.2.2.1 h0 9)) (C := RX9) (T := TX9) (N := 67) C0 hK hP hm_h0 hk_h0 (by decide) rfl inlX9 (by decide) mW113 (fun _ h9 => h9) rfl dX9_term_231 ?_
                      obtain ⟨hmy_637, hky_637⟩ := ySh.f9_9 hSh _ hm_h0 hk_h0
                      refine lv_iload hx hb dX9_term_234 (lv_at hl 0 rfl) ?_
                      refine lv_iconst (v := 0) hx hb dX9_term_236 (by decide) ?_
                      have hCC_638 := yMI.c hId_636
                      refine yastB C0 hK hP hD hS hmy_637 hky_637 (by decide) rfl 1 rfl (xinT 2400 rfl (by omega) (by omega)) dX9_term_237 (fun H locs hP hD hS => ?_)
                      obtain ⟨d_639, ed_639⟩ : ∃ z : yD, z = ycs d_636 (S.2.2.1 h0 9) (upd (d_636.2.2.2.1 (S.2.2.1 h0 9)) (z_605 : Int32).toNatClampNeg (vp_nar .byte 0)) := ⟨_, rfl⟩
                      rw [← ed_639] at hP hD
                      have hgd_639 : yAg S [9, 34, 35, 36, 37, 38, 39, 40, 69] d d_639 := by rw [ed_639]; exact yAg.cs hgd_636 (by rw [hky_637]; decide)
                      have hsd_639 : yAg S [39] d_636 d_639 := by rw [ed_639]; exact yAg.cs yAg.rf (by rw [hky_637]; decide)
                      have hPod_639 : yPo S d_639 := by rw [ed_639]; exact hPod_636
                      have hfd_639 : yK [38] d d_639 h0 := yK.ag hfd_636 (show yAg S [39] d_636 d_639 from by rw [ed_639]; exact yAg.cs yAg.rf (by rw [hky_637]; decide)) (by rw [hk_h0]; decide)
                      have hId_639 : yMI S d_639 h0 := yMI.ag hId_636 hSh hm_h0 hk_h0 (show yAg S [39] d_636 d_639 from by rw [ed_639]; exact yAg.cs yAg.rf (by rw [hky_637]; decide)) (yK.ag (F := []) yK.rf (show yAg S [39] d_636 d_639 from by rw [ed_639]; exact yAg.cs yAg.rf (by rw [hky_637]; decide)) (by rw [hk_h0]; decide)) (by decide) (by decide)
                      have hE0d_639 : (d_639.1 h0 0).toInt = (d_636.1 h0 0).toInt := congrArg Int32.toInt ((yK.ag (F := []) yK.rf (show yAg S [39] d_636 d_639 from by rw [ed_639]; exact yAg.cs yAg.rf (by rw [hky_637]; decide)) (by rw [hk_h0]; decide)) 0 (by decide))
                      have hE1d_639 : (d_639.1 h0 1).toInt = (d_636.1 h0 1).toInt := congrArg Int32.toInt ((yK.ag (F := []) yK.rf (show yAg S [39] d_636 d_639 from by rw [ed_639]; exact yAg.cs yAg.rf (by rw [hky_637]; decide)) (by rw [hk_h0]; decide)) 1 (by decide))
                      have hE2d_639 : (d_639.1 h0 2).toInt = (d_636.1 h0 2).toInt := congrArg Int32.toInt ((yK.ag (F := []) yK.rf (show yAg S [39] d_636 d_639 from by rw [ed_639]; exact yAg.cs yAg.rf (by rw [hky_637]; decide)) (by rw [hk_h0]; decide)) 2 (by decide))
                      have hE3d_639 : (d_639.1 h0 3).toInt = (d_636.1 h0 3).toInt := congrArg Int32.toInt ((yK.ag (F := []) yK.rf (show yAg S [39] d_636 d_639 from by rw [ed_639]; exact yAg.cs yAg.rf (by rw [hky_637]; decide)) (by rw [hk_h0]; decide)) 3 (by decide))
                      have hE63d_639 : (d_639.1 h0 63).toInt = (d_636.1 h0 63).toInt := congrArg Int32.toInt ((yK.ag (F := []) yK.rf (show yAg S [39] d_636 d_639 from by rw [ed_639]; exact yAg.cs yAg.rf (by rw [hky_637]; decide)) (by rw [hk_h0]; decide)) 63 (by decide))
                      refine lv_aload_n hx hb dX9_term_238 rfl (lv_at hl 3 rfl) ?_
                      refine yget (ci := 9) (k := 10) (v := .ref (S.2.2.1 h0 10)) (C := RX9) (T := TX9) (N := 67) C0 hK hP hm_h0 hk_h0 (by decide) rfl inlX9 (by decide) mW114 (fun _ h9 => h9) rfl dX9_term_239 ?_
                      obtain ⟨hmy_640, hky_640⟩ := ySh.f9_10 hSh _ hm_h0 hk_h0
                      refine lv_iload hx hb dX9_term_242 (lv_at hl 0 rfl) ?_
                      refine lv_iconst (v := 0) hx hb dX9_term_244 (by decide) ?_
                      have hCC_641 := yMI.c hId_639
                      refine yast C0 hK hP hD hS hmy_640 hky_640 (by decide) rfl 0 rfl (xinT 2400 rfl (by omega) (by omega)) dX9_term_245 (fun H locs hP hD hS => ?_)
                      obtain ⟨d_642, ed_642⟩ : ∃ z : yD, z = ycs d_639 (S.2.2.1 h0 10) (upd (d_639.2.2.2.1 (S.2.2.1 h0 10)) (z_605 : Int32).toNatClampNeg 0) := ⟨_, rfl⟩
                      rw [← ed_642] at hP hD
                      have hgd_642 : yAg S [9, 34, 35, 36, 37, 38, 39, 40, 69] d d_642 := by rw [ed_642]; exact yAg.cs hgd_639 (by rw [hky_640]; decide)
                      have hsd_642 : yAg S [40] d_639 d_642 := by rw [ed_642]; exact yAg.cs yAg.rf (by rw [hky_640]; decide)
                      have hPod_642 : yPo S d_642 := by rw [ed_642]; exact hPod_639
                      have hfd_642 : yK [38] d d_642 h0 := yK.ag hfd_639 (show yAg S [40] d_639 d_642 from by rw [ed_642]; exact yAg.cs yAg.rf (by rw [hky_640]; decide)) (by rw [hk_h0]; decide)
                      have hId_642 : yMI S d_642 h0 := yMI.ag hId_639 hSh hm_h0 hk_h0 (show yAg S [40] d_639 d_642 from by rw [ed_642]; exact yAg.cs yAg.rf (by rw [hky_640]; decide)) (yK.ag (F := []) yK.rf (show yAg S [40] d_639 d_642 from by rw [ed_642]; exact yAg.cs yAg.rf (by rw [hky_640]; decide)) (by rw [hk_h0]; decide)) (by decide) (by decide)
                      have hE0d_642 : (d_642.1 h0 0).toInt = (d_639.1 h0 0).toInt := congrArg Int32.toInt ((yK.ag (F := []) yK.rf (show yAg S [40] d_639 d_642 from by rw [ed_642]; exact yAg.cs yAg.rf (by rw [hky_640]; decide)) (by rw [hk_h0]; decide)) 0 (by decide))
                      have hE1d_642 : (d_642.1 h0 1).toInt = (d_639.1 h0 1).toInt := congrArg Int32.toInt ((yK.ag (F := []) yK.rf (show yAg S [40] d_639 d_642 from by rw [ed_642]; exact yAg.cs yAg.rf (by rw [hky_640]; decide)) (by rw [hk_h0]; decide)) 1 (by decide))
                      have hE2d_642 : (d_642.1 h0 2).toInt = (d_639.1 h0 2).toInt := congrArg Int32.toInt ((yK.ag (F := []) yK.rf (show yAg S [40] d_639 d_642 from by rw [ed_642]; exact yAg.cs yAg.rf (by rw [hky_640]; decide)) (by rw [hk_h0]; decide)) 2 (by decide))
                      have hE3d_642 : (d_642.1 h0 3).toInt = (d_639.1 h0 3).toInt := congrArg Int32.toInt ((yK.ag (F := []) yK.rf (show yAg S [40] d_639 d_642 from by rw [ed_642]; exact yAg.cs yAg.rf (by rw [hky_640]; decide)) (by rw [hk_h0]; decide)) 3 (by decide))
                      have hE63d_642 : (d_642.1 h0 63).toInt = (d_639.1 h0 63).toInt := congrArg Int32.toInt ((yK.ag (F := []) yK.rf (show yAg S [40] d_639 d_642 from by rw [ed_642]; exact yAg.cs yAg.rf (by rw [hky_640]; decide)) (by rw [hk_h0]; decide)) 63 (by decide))
                      refine lv_iconst (v := 1) hx hb dX9_term_246 (by decide) ?_
                      have hCC_643 := yMI.c hId_642
                      rw [ez_624] at ed_626
                      rw [ez_628] at ed_630
                      exact W.zret (v := 1) (ty := .boolean) hx hb hr rfl (fun t ht hW => ⟨⟨1, d_642, rfl, ⟨hgd_642, (fun _ => hPod_642), hfd_642, ⟨hId_642, Or.inr ⟨by have h0_ : (1 : Int32).toInt = 1 := (by decide +kernel); omega, by omega, (zRow7 (zTr.ag zTr.rf hSh hm_h0 hk_h0 hsd_1 (by decide)) hSh hm_h0 hk_h0 (show (z_605 : Int32).toNatClampNeg = (60 * p0.toInt.toNat + p1.toInt.toNat) from (show (z_605 : Int32).toInt.toNat = _ by omega)) (show (z_605 : Int32).toNatClampNeg = (60 * p0.toInt.toNat + p1.toInt.toNat) from (show (z_605 : Int32).toInt.toNat = _ by omega)) (show (z_605 : Int32).toNatClampNeg = (60 * p0.toInt.toNat + p1.toInt.toNat) from (show (z_605 : Int32).toInt.toNat = _ by omega)) (show (z_605 : Int32).toNatClampNeg = (60 * p0.toInt.toNat + p1.toInt.toNat) from (show (z_605 : Int32).toInt.toNat = _ by omega)) (show (z_605 : Int32).toNatClampNeg = (60 * p0.toInt.toNat + p1.toInt.toNat) from (show (z_605 : Int32).toInt.toNat = _ by omega)) (show (z_605 : Int32).toNatClampNeg = (60 * p0.toInt.toNat + p1.toInt.toNat) from (show (z_605 : Int32).toInt.toNat = _ by omega)) (show (z_605 : Int32).toNatClampNeg = (60 * p0.toInt.toNat + p1.toInt.toNat) from (show (z_605 : Int32).toInt.toNat = _ by omega)) ed_622 ed_626 ed_630 ed_633 ed_636 ed_639 ed_642)⟩⟩⟩, by rw [ht]; exact hP, hD⟩, hS.F ht⟩) hS.2.2 dX9_term_247
                    · refine lv_aload_n hx hb dX9_term_168 rfl (lv_at hl 2 rfl) ?_
                      refine lv_iload hx hb dX9_term_169 (lv_at hl 1 rfl) ?_
                      have F_644 := fnlt (rfl : (p2 : Int32).toInt = (p2 : Int32).toInt) (by decide +kernel : (0 : Int32).toInt = 0) c_3
                      have F_645 := fnlt (by decide +kernel : (4 : Int32).toInt = 4) (rfl : (p2 : Int32).toInt = (p2 : Int32).toInt) c_118
                      have F_646 := fnlt (rfl : (p3 : Int32).toInt = (p3 : Int32).toInt) (by decide +kernel : (0 : Int32).toInt = 0) c_241
                      have F_647 := fle (rfl : (p3 : Int32).toInt = (p3 : Int32).toInt) (by decide +kernel : (4 : Int32).toInt = 4) c_372
                      have F_648 := fne (rfl : (p3 : Int32).toInt = (p3 : Int32).toInt) (by decide +kernel : (1 : Int32).toInt = 1) c_373
                      have F_649 := feq (rfl : (p3 : Int32).toInt = (p3 : Int32).toInt) (by decide +kernel : (3 : Int32).toInt = 3) c_374
                      have F_650 := feq (by decide +kernel : (0 : Int32).toInt = 0) (by decide +kernel : (0 : Int32).toInt = 0) c_563
                      have F_651 := fnlt (rfl : (p4 : Int32).toInt = (p4 : Int32).toInt) (by decide +kernel : (0 : Int32).toInt = 0) c_564
                      have F_652 := fle (rfl : (p4 : Int32).toInt = (p4 : Int32).toInt) (by decide +kernel : (4 : Int32).toInt = 4) c_600
                      have F_653 := fne (rfl : (p3 : Int32).toInt = (p3 : Int32).toInt) (by decide +kernel : (4 : Int32).toInt = 4) c_601
                      have F_654 := feq (by decide +kernel : (0 : Int32).toInt = 0) (by decide +kernel : (0 : Int32).toInt = 0) c_602
                      have F_655 := fne (rfl : (r_2 : Int32).toInt = (r_2 : Int32).toInt) (by decide +kernel : (0 : Int32).toInt = 0) c_603
                      refine yVwi (As := [.int r_2]) (rest := []) C0 (g_X9_no l G S d_1 h0 r_2 hSh hPod_1 hm_h0 hk_h0 (by refine ⟨?_, ?_⟩ <;> omega)) ok_X9_no (mW177 : Cond.methodLink RX9 168 yX9_no ∈ wsT) ⟨Nat.le_of_ble_eq_true rfl, Nat.le_of_ble_eq_true rfl⟩ hP hD hS hA hK hN hm_h0 hk_h0 (by decide) rfl rfl rfl hl.1 rfl (Nat.le_of_ble_eq_true rfl) ⟨Nat.le_of_ble_eq_true rfl, Nat.le_of_ble_eq_true rfl⟩ dX9_term_171 (fun r_656 d_657 H locs hr_656 hP hD hS => ?_)
                      obtain ⟨hgad_657, hpad_657, hfad_657, hxd_657⟩ := hr_656
                      have hfd_657 : yK [38] d d_657 h0 := yK.tr hfd_1 hfad_657 (by decide)
                      have hE0d_657 : (d_657.1 h0 0).toInt = (d_1.1 h0 0).toInt := congrArg Int32.toInt (hfad_657 0 (by decide))
                      have hE1d_657 : (d_657.1 h0 1).toInt = (d_1.1 h0 1).toInt := congrArg Int32.toInt (hfad_657 1 (by decide))
                      have hE2d_657 : (d_657.1 h0 2).toInt = (d_1.1 h0 2).toInt := congrArg Int32.toInt (hfad_657 2 (by decide))
                      have hE3d_657 : (d_657.1 h0 3).toInt = (d_1.1 h0 3).toInt := congrArg Int32.toInt (hfad_657 3 (by decide))
                      have hE63d_657 : (d_657.1 h0 63).toInt = (d_1.1 h0 63).toInt := congrArg Int32.toInt (hfad_657 63 (by decide))
                      have hId_657 : yMI S d_657 h0 := yMI.ag hId_1 hSh hm_h0 hk_h0 hgad_657 hfad_657 (by decide) (by decide)
                      have hgd_657 : yAg S [9, 34, 35, 36, 37, 38, 39, 40, 69] d d_657 := yAg.tr hgd_1 hgad_657 (by first | decide | exact fun _ h => h)
                      have hPod_657 : yPo S d_657 := hpad_657 hPod_1
                      refine lv_pop hx hb dX9_term_174 rfl ?_
                      refine lv_iconst (v := 0) hx hb dX9_term_175 (by decide) ?_
                      have hCC_658 := yMI.c hId_657
                      exact W.zret (v := 0) (ty := .boolean) hx hb hr rfl (fun t ht hW => ⟨⟨0, d_657, rfl, ⟨hgd_657, (fun _ => hPod_657), hfd_657, ⟨hId_657, Or.inl ⟨by have h0_ : (0 : Int32).toInt = 0 := (by decide +kernel); omega, by omega, (zTr.ag (zTr.ag zTr.rf hSh hm_h0 hk_h0 hsd_1 (by decide)) hSh hm_h0 hk_h0 hgad_657 (by decide))⟩⟩⟩, by rw [ht]; exact hP, hD⟩, hS.F ht⟩) hS.2.2 dX9_term_176
                  · refine lv_iload hx hb dX9_term_119 (lv_at hl 0 rfl) ?_
                    refine lv_if_ne (tgt := 148) hx hb dX9_term_121 (by decide) (fun c_659 => absurd c_659 (by decide +kernel)) (fun c_659 => ?_)
                    refine lv_iload hx hb dX9_term_124 (lv_at hl 7 rfl) ?_
                    refine lv_if_lt (tgt := 148) hx hb dX9_term_126 (by decide) (fun c_660 => absurd c_660 c_564) (fun c_660 => ?_)
                    refine lv_iload hx hb dX9_term_129 (lv_at hl 7 rfl) ?_
                    refine lv_ldc (v := 129600) hx hb hown (htl (.constant RX9 174 (129600)) mW221) dX9_term_131 ?_
                    refine lv_icmp_gt (tgt := 148) hx hb dX9_term_133 (by decide) (fun c_661 => ?_) (fun c_661 => ?_)
                    · refine lv_iconst (v := 1) hx hb dX9_term_148 (by decide) ?_
                      refine lv_goto (tgt := 153) hx hb dX9_term_149 (by decide) ?_
                      refine lv_istore (lv' := [(8, .int 1), (7, .int r_2), (0, .ref h0), (1, .int p0), (2, .int p1), (3, .int p2), (4, .int p3), (5, .int p4), (6, .int p5)]) hx hb dX9_term_153 hl (by decide) rfl (fun ls hl => ?_)
                      refine lv_iload hx hb dX9_term_155 (lv_at hl 0 rfl) ?_
                      refine lv_if_eq (tgt := 163) hx hb dX9_term_157 (by decide) (fun c_662 => absurd c_662 (by decide +kernel)) (fun c_662 => ?_)
                      refine lv_iconst (v := 1) hx hb dX9_term_160 (by decide) ?_
                      refine lv_istore (lv' := [(7, .int 1), (8, .int 1), (0, .ref h0), (1, .int p0), (2, .int p1), (3, .int p2), (4, .int p3), (5, .int p4), (6, .int p5)]) hx hb dX9_term_161 hl (by decide) rfl (fun ls hl => ?_)
                      refine lv_iload hx hb dX9_term_163 (lv_at hl 0 rfl) ?_
                      refine lv_if_eq (tgt := 177) hx hb dX9_term_165 (by decide) (fun c_663 => absurd c_663 (by decide +kernel)) (fun c_663 => ?_)
                      refine lv_aload_n hx hb dX9_term_168 rfl (lv_at hl 2 rfl) ?_
                      refine lv_iload hx hb dX9_term_169 (lv_at hl 0 rfl) ?_
                      refine yVwi (As := [.int 1]) (rest := []) C0 (g_X9_no l G S d_1 h0 1 hSh hPod_1 hm_h0 hk_h0 (by decide +kernel)) ok_X9_no (mW177 : Cond.methodLink RX9 168 yX9_no ∈ wsT) ⟨Nat.le_of_ble_eq_true rfl, Nat.le_of_ble_eq_true rfl⟩ hP hD hS hA hK hN hm_h0 hk_h0 (by decide) rfl rfl rfl hl.1 rfl (Nat.le_of_ble_eq_true rfl) ⟨Nat.le_of_ble_eq_true rfl, Nat.le_of_ble_eq_true rfl⟩ dX9_term_171 (fun r_664 d_665 H locs hr_664 hP hD hS => ?_)
                      obtain ⟨hgad_665, hpad_665, hfad_665, hxd_665⟩ := hr_664
                      have hfd_665 : yK [38] d d_665 h0 := yK.tr hfd_1 hfad_665 (by decide)
                      have hE0d_665 : (d_665.1 h0 0).toInt = (d_1.1 h0 0).toInt := congrArg Int32.toInt (hfad_665 0 (by decide))
                      have hE1d_665 : (d_665.1 h0 1).toInt = (d_1.1 h0 1).toInt := congrArg Int32.toInt (hfad_665 1 (by decide))
                      have hE2d_665 : (d_665.1 h0 2).toInt = (d_1.1 h0 2).toInt := congrArg Int32.toInt (hfad_665 2 (by decide))
                      have hE3d_665 : (d_665.1 h0 3).toInt = (d_1.1 h0 3).toInt := congrArg Int32.toInt (hfad_665 3 (by decide))
                      have hE63d_665 : (d_665.1 h0 63).toInt = (d_1.1 h0 63).toInt := congrArg Int32.toInt (hfad_665 63 (by decide))
                      have hId_665 : yMI S d_665 h0 := yMI.ag hId_1 hSh hm_h0 hk_h0 hgad_665 hfad_665 (by decide) (by decide)
                      have hgd_665 : yAg S [9, 34, 35, 36, 37, 38, 39, 40, 69] d d_665 := yAg.tr hgd_1 hgad_665 (by first | decide | exact fun _ h => h)
                      have hPod_665 : yPo S d_665 := hpad_665 hPod_1
                      refine lv_pop hx hb dX9_term_174 rfl ?_
                      refine lv_iconst (v := 0) hx hb dX9_term_175 (by decide) ?_
                      have hCC_666 := yMI.c hId_665
                      have F_667 := fnlt (rfl : (p2 : Int32).toInt = (p2 : Int32).toInt) (by decide +kernel : (0 : Int32).toInt = 0) c_3
                      have F_668 := fnlt (by decide +kernel : (4 : Int32).toInt = 4) (rfl : (p2 : Int32).toInt = (p2 : Int32).toInt) c_118
                      have F_669 := fnlt (rfl : (p3 : Int32).toInt = (p3 : Int32).toInt) (by decide +kernel : (0 : Int32).toInt = 0) c_241
                      have F_670 := fle (rfl : (p3 : Int32).toInt = (p3 : Int32).toInt) (by decide +kernel : (4 : Int32).toInt = 4) c_372
                      have F_671 := fne (rfl : (p3 : Int32).toInt = (p3 : Int32).toInt) (by decide +kernel : (1 : Int32).toInt = 1) c_373
                      have F_672 := feq (rfl : (p3 : Int32).toInt = (p3 : Int32).toInt) (by decide +kernel : (3 : Int32).toInt = 3) c_374
                      have F_673 := feq (by decide +kernel : (0 : Int32).toInt = 0) (by decide +kernel : (0 : Int32).toInt = 0) c_563
                      have F_674 := fnlt (rfl : (p4 : Int32).toInt = (p4 : Int32).toInt) (by decide +kernel : (0 : Int32).toInt = 0) c_564
                      have F_675 := fle (rfl : (p4 : Int32).toInt = (p4 : Int32).toInt) (by decide +kernel : (4 : Int32).toInt = 4) c_600
                      have F_676 := feq (rfl : (p3 : Int32).toInt = (p3 : Int32).toInt) (by decide +kernel : (4 : Int32).toInt = 4) c_601
                      have F_677 := feq (by decide +kernel : (0 : Int32).toInt = 0) (by decide +kernel : (0 : Int32).toInt = 0) c_659
                      have F_678 := fnlt (rfl : (p4 : Int32).toInt = (p4 : Int32).toInt) (by decide +kernel : (0 : Int32).toInt = 0) c_660
                      have F_679 := flt (by decide +kernel : (129600 : Int32).toInt = 129600) (rfl : (p4 : Int32).toInt = (p4 : Int32).toInt) c_661
                      have F_680 := fne (by decide +kernel : (1 : Int32).toInt = 1) (by decide +kernel : (0 : Int32).toInt = 0) c_662
                      have F_681 := fne (by decide +kernel : (1 : Int32).toInt = 1) (by decide +kernel : (0 : Int32).toInt = 0) c_663
                      exact W.zret (v := 0) (ty := .boolean) hx hb hr rfl (fun t ht hW => ⟨⟨0, d_665, rfl, ⟨hgd_665, (fun _ => hPod_665), hfd_665, ⟨hId_665, Or.inl ⟨by have h0_ : (0 : Int32).toInt = 0 := (by decide +kernel); omega, by omega, (zTr.ag (zTr.ag zTr.rf hSh hm_h0 hk_h0 hsd_1 (by decide)) hSh hm_h0 hk_h0 hgad_665 (by decide))⟩⟩⟩, by rw [ht]; exact hP, hD⟩, hS.F ht⟩) hS.2.2 dX9_term_176
                    · refine lv_iload hx hb dX9_term_136 (lv_at hl 8 rfl) ?_
                      refine lv_if_lt (tgt := 148) hx hb dX9_term_138 (by decide) (fun c_682 => ?_) (fun c_682 => ?_)
                      · refine lv_iconst (v := 1) hx hb dX9_term_148 (by decide) ?_
                        refine lv_goto (tgt := 153) hx hb dX9_term_149 (by decide) ?_
                        refine lv_istore (lv' := [(8, .int 1), (7, .int r_2), (0, .ref h0), (1, .int p0), (2, .int p1), (3, .int p2), (4, .int p3), (5, .int p4), (6, .int p5)]) hx hb dX9_term_153 hl (by decide) rfl (fun ls hl => ?_)
                        refine lv_iload hx hb dX9_term_155 (lv_at hl 0 rfl) ?_
                        refine lv_if_eq (tgt := 163) hx hb dX9_term_157 (by decide) (fun c_683 => absurd c_683 (by decide +kernel)) (fun c_683 => ?_)
                        refine lv_iconst (v := 1) hx hb dX9_term_160 (by decide) ?_
                        refine lv_istore (lv' := [(7, .int 1), (8, .int 1), (0, .ref h0), (1, .int p0), (2, .int p1), (3, .int p2), (4, .int p3), (5, .int p4), (6, .int p5)]) hx hb dX9_term_161 hl (by decide) rfl (fun ls hl => ?_)
                        refine lv_iload hx hb dX9_term_163 (lv_at hl 0 rfl) ?_
                        refine lv_if_eq (tgt := 177) hx hb dX9_term_165 (by decide) (fun c_684 => absurd c_684 (by decide +kernel)) (fun c_684 => ?_)
                        refine lv_aload_n hx hb dX9_term_168 rfl (lv_at hl 2 rfl) ?_
                        refine lv_iload hx hb dX9_term_169 (lv_at hl 0 rfl) ?_
                        refine yVwi (As := [.int 1]) (rest := []) C0 (g_X9_no l G S d_1 h0 1 hSh hPod_1 hm_h0 hk_h0 (by decide +kernel)) ok_X9_no (mW177 : Cond.methodLink RX9 168 yX9_no ∈ wsT) ⟨Nat.le_of_ble_eq_true rfl, Nat.le_of_ble_eq_true rfl⟩ hP hD hS hA hK hN hm_h0 hk_h0 (by decide) rfl rfl rfl hl.1 rfl (Nat.le_of_ble_eq_true rfl) ⟨Nat.le_of_ble_eq_true rfl, Nat.le_of_ble_eq_true rfl⟩ dX9_term_171 (fun r_685 d_686 H locs hr_685 hP hD hS => ?_)
                        obtain ⟨hgad_686, hpad_686, hfad_686, hxd_686⟩ := hr_685
                        have hfd_686 : yK [38] d d_686 h0 := yK.tr hfd_1 hfad_686 (by decide)
                        have hE0d_686 : (d_686.1 h0 0).toInt = (d_1.1 h0 0).toInt := congrArg Int32.toInt (hfad_686 0 (by decide))
                        have hE1d_686 : (d_686.1 h0 1).toInt = (d_1.1 h0 1).toInt := congrArg Int32.toInt (hfad_686 1 (by decide))
                        have hE2d_686 : (d_686.1 h0 2).toInt = (d_1.1 h0 2).toInt := congrArg Int32.toInt (hfad_686 2 (by decide))
                        have hE3d_686 : (d_686.1 h0 3).toInt = (d_1.1 h0 3).toInt := congrArg Int32.toInt (hfad_686 3 (by decide))
                        have hE63d_686 : (d_686.1 h0 63).toInt = (d_1.1 h0 63).toInt := congrArg Int32.toInt (hfad_686 63 (by decide))
                        have hId_686 : yMI S d_686 h0 := yMI.ag hId_1 hSh hm_h0 hk_h0 hgad_686 hfad_686 (by decide) (by decide)
                        have hgd_686 : yAg S [9, 34, 35, 36, 37, 38, 39, 40, 69] d d_686 := yAg.tr hgd_1 hgad_686 (by first | decide | exact fun _ h => h)
                        have hPod_686 : yPo S d_686 := hpad_686 hPod_1
                        refine lv_pop hx hb dX9_term_174 rfl ?_
                        refine lv_iconst (v := 0) hx hb dX9_term_175 (by decide) ?_
                        have hCC_687 := yMI.c hId_686
                        have F_688 := fnlt (rfl : (p2 : Int32).toInt = (p2 : Int32).toInt) (by decide +kernel : (0 : Int32).toInt = 0) c_3
                        have F_689 := fnlt (by decide +kernel : (4 : Int32).toInt = 4) (rfl : (p2 : Int32).toInt = (p2 : Int32).toInt) c_118
                        have F_690 := fnlt (rfl : (p3 : Int32).toInt = (p3 : Int32).toInt) (by decide +kernel : (0 : Int32).toInt = 0) c_241
                        have F_691 := fle (rfl : (p3 : Int32).toInt = (p3 : Int32).toInt) (by decide +kernel : (4 : Int32).toInt = 4) c_372
                        have F_692 := fne (rfl : (p3 : Int32).toInt = (p3 : Int32).toInt) (by decide +kernel : (1 : Int32).toInt = 1) c_373
                        have F_693 := feq (rfl : (p3 : Int32).toInt = (p3 : Int32).toInt) (by decide +kernel : (3 : Int32).toInt = 3) c_374
                        have F_694 := feq (by decide +kernel : (0 : Int32).toInt = 0) (by decide +kernel : (0 : Int32).toInt = 0) c_563
                        have F_695 := fnlt (rfl : (p4 : Int32).toInt = (p4 : Int32).toInt) (by decide +kernel : (0 : Int32).toInt = 0) c_564
                        have F_696 := fle (rfl : (p4 : Int32).toInt = (p4 : Int32).toInt) (by decide +kernel : (4 : Int32).toInt = 4) c_600
                        have F_697 := feq (rfl : (p3 : Int32).toInt = (p3 : Int32).toInt) (by decide +kernel : (4 : Int32).toInt = 4) c_601
                        have F_698 := feq (by decide +kernel : (0 : Int32).toInt = 0) (by decide +kernel : (0 : Int32).toInt = 0) c_659
                        have F_699 := fnlt (rfl : (p4 : Int32).toInt = (p4 : Int32).toInt) (by decide +kernel : (0 : Int32).toInt = 0) c_660
                        have F_700 := fnlt (by decide +kernel : (129600 : Int32).toInt = 129600) (rfl : (p4 : Int32).toInt = (p4 : Int32).toInt) c_661
                        have F_701 := flt (rfl : (p5 : Int32).toInt = (p5 : Int32).toInt) (by decide +kernel : (0 : Int32).toInt = 0) c_682
                        have F_702 := fne (by decide +kernel : (1 : Int32).toInt = 1) (by decide +kernel : (0 : Int32).toInt = 0) c_683
                        have F_703 := fne (by decide +kernel : (1 : Int32).toInt = 1) (by decide +kernel : (0 : Int32).toInt = 0) c_684
                        exact W.zret (v := 0) (ty := .boolean) hx hb hr rfl (fun t ht hW => ⟨⟨0, d_686, rfl, ⟨hgd_686, (fun _ => hPod_686), hfd_686, ⟨hId_686, Or.inl ⟨by have h0_ : (0 : Int32).toInt = 0 := (by decide +kernel); omega, by omega, (zTr.ag (zTr.ag zTr.rf hSh hm_h0 hk_h0 hsd_1 (by decide)) hSh hm_h0 hk_h0 hgad_686 (by decide))⟩⟩⟩, by rw [ht]; exact hP, hD⟩, hS.F ht⟩) hS.2.2 dX9_term_176
                      · refine lv_iload hx hb dX9_term_141 (lv_at hl 8 rfl) ?_
                        refine lv_ldc (v := 129600) hx hb hown (htl (.constant RX9 174 (129600)) mW221) dX9_term_143 ?_
                        refine lv_icmp_le (tgt := 152) hx hb dX9_term_145 (by decide) (fun c_704 => ?_) (fun c_704 => ?_)
                        · refine lv_iconst (v := 0) hx hb dX9_term_152 (by decide) ?_
                          refine lv_istore (lv' := [(8, .int 0), (7, .int r_2), (0, .ref h0), (1, .int p0), (2, .int p1), (3, .int p2), (4, .int p3), (5, .int p4), (6, .int p5)]) hx hb dX9_term_153 hl (by decide) rfl (fun ls hl => ?_)
                          refine lv_iload hx hb dX9_term_155 (lv_at hl 0 rfl) ?_
                          refine lv_if_eq (tgt := 163) hx hb dX9_term_157 (by decide) (fun c_705 => ?_) (fun c_705 => absurd c_705 (by decide +kernel))
                          refine lv_iload hx hb dX9_term_163 (lv_at hl 1 rfl) ?_
                          refine lv_if_eq (tgt := 177) hx hb dX9_term_165 (by decide) (fun c_706 => ?_) (fun c_706 => ?_)
                          · refine lv_bipush (v := 60) hx hb dX9_term_177 (by decide) ?_
                            refine lv_iload_n hx hb dX9_term_179 rfl (lv_at hl 3 rfl) ?_
                            refine lv_imul hx hb dX9_term_180 ?_
                            refine lv_topi (fun z_707 ez_707 => ?_)
                            refine lv_iload_n hx hb dX9_term_181 rfl (lv_at hl 4 rfl) ?_
                            refine lv_iadd hx hb dX9_term_182 ?_
                            refine lv_topi (fun z_708 ez_708 => ?_)
                            refine lv_istore (lv' := [(9, .int z_708), (8, .int 0), (7, .int r_2), (0, .ref h0), (1, .int p0), (2, .int p1), (3, .int p2), (4, .int p3), (5, .int p4), (6, .int p5)]) hx hb dX9_term_183 hl (by decide) rfl (fun ls hl => ?_)
                            refine lv_aload_n hx hb dX9_term_185 rfl (lv_at hl 3 rfl) ?_
                            refine yget (ci := 9) (k := 4) (v := .ref (S.2.2.1 h0 4)) (C := RX9) (T := TX9) (N := 67) C0 hK hP hm_h0 hk_h0 (by decide) rfl inlX9 (by decide) mW108 (fun _ h9 => h9) rfl dX9_term_186 ?_
                            obtain ⟨hmy_709, hky_709⟩ := ySh.f9_4 hSh _ hm_h0 hk_h0
                            refine lv_iload hx hb dX9_term_189 (lv_at hl 0 rfl) ?_
                            refine lv_iconst (v := 2) hx hb dX9_term_191 (by decide) ?_
                            have hCC_710 := yMI.c hId_1
                            have F_711 := fnlt (rfl : (p2 : Int32).toInt = (p2 : Int32).toInt) (by decide +kernel : (0 : Int32).toInt = 0) c_3
                            have F_712 := fnlt (by decide +kernel : (4 : Int32).toInt = 4) (rfl : (p2 : Int32).toInt = (p2 : Int32).toInt) c_118
                            have F_713 := fnlt (rfl : (p3 : Int32).toInt = (p3 : Int32).toInt) (by decide +kernel : (0 : Int32).toInt = 0) c_241
                            have F_714 := fle (rfl : (p3 : Int32).toInt = (p3 : Int32).toInt) (by decide +kernel : (4 : Int32).toInt = 4) c_372
                            have F_715 := fne (rfl : (p3 : Int32).toInt = (p3 : Int32).toInt) (by decide +kernel : (1 : Int32).toInt = 1) c_373
                            have F_716 := feq (rfl : (p3 : Int32).toInt = (p3 : Int32).toInt) (by decide +kernel : (3 : Int32).toInt = 3) c_374
                            have F_717 := feq (by decide +kernel : (0 : Int32).toInt = 0) (by decide +kernel : (0 : Int32).toInt = 0) c_563
                            have F_718 := fnlt (rfl : (p4 : Int32).toInt = (p4 : Int32).toInt) (by decide +kernel : (0 : Int32).toInt = 0) c_564
                            have F_719 := fle (rfl : (p4 : Int32).toInt = (p4 : Int32).toInt) (by decide +kernel : (4 : Int32).toInt = 4) c_600
                            have F_720 := feq (rfl : (p3 : Int32).toInt = (p3 : Int32).toInt) (by decide +kernel : (4 : Int32).toInt = 4) c_601
                            have F_721 := feq (by decide +kernel : (0 : Int32).toInt = 0) (by decide +kernel : (0 : Int32).toInt = 0) c_659
                            have F_722 := fnlt (rfl : (p4 : Int32).toInt = (p4 : Int32).toInt) (by decide +kernel : (0 : Int32).toInt = 0) c_660
                            have F_723 := fnlt (by decide +kernel : (129600 : Int32).toInt = 129600) (rfl : (p4 : Int32).toInt = (p4 : Int32).toInt) c_661
                            have F_724 := fnlt (rfl : (p5 : Int32).toInt = (p5 : Int32).toInt) (by decide +kernel : (0 : Int32).toInt = 0) c_682
                            have F_725 := fle (rfl : (p5 : Int32).toInt = (p5 : Int32).toInt) (by decide +kernel : (129600 : Int32).toInt = 129600) c_704
                            have F_726 := feq (by decide +kernel : (0 : Int32).toInt = 0) (by decide +kernel : (0 : Int32).toInt = 0) c_705
                            have F_727 := feq (rfl : (r_2 : Int32).toInt = (r_2 : Int32).toInt) (by decide +kernel : (0 : Int32).toInt = 0) c_706
                            have T_729 : (z_707 : Int32).toInt = 60 * (p0 : Int32).toInt := tmul ez_707 (by decide +kernel : (60 : Int32).toInt = 60) (rfl : (p0 : Int32).toInt = (p0 : Int32).toInt) (by omega) (by omega)
                            have T_728 : (z_708 : Int32).toInt = (z_707 : Int32).toInt + (p1 : Int32).toInt := tadd ez_708 (rfl : (z_707 : Int32).toInt = (z_707 : Int32).toInt) (rfl : (p1 : Int32).toInt = (p1 : Int32).toInt) (by omega) (by omega)
                            refine yastB C0 hK hP hD hS hmy_709 hky_709 (by decide) rfl 1 rfl (xinT 2400 rfl (by omega) (by omega)) dX9_term_192 (fun H locs hP hD hS => ?_)
                            obtain ⟨d_730, ed_730⟩ : ∃ z : yD, z = ycs d_1 (S.2.2.1 h0 4) (upd (d_1.2.2.2.1 (S.2.2.1 h0 4)) (z_708 : Int32).toNatClampNeg (vp_nar .byte 2)) := ⟨_, rfl⟩
                            rw [← ed_730] at hP hD
                            have hgd_730 : yAg S [9, 34, 35, 36, 37, 38, 39, 40, 69] d d_730 := by rw [ed_730]; exact yAg.cs hgd_1 (by rw [hky_709]; decide)
                            have hsd_730 : yAg S [34] d_1 d_730 := by rw [ed_730]; exact yAg.cs yAg.rf (by rw [hky_709]; decide)
                            have hPod_730 : yPo S d_730 := by rw [ed_730]; exact hPod_1
                            have hfd_730 : yK [38] d d_730 h0 := yK.ag hfd_1 (show yAg S [34] d_1 d_730 from by rw [ed_730]; exact yAg.cs yAg.rf (by rw [hky_709]; decide)) (by rw [hk_h0]; decide)
                            have hId_730 : yMI S d_730 h0 := yMI.ag hId_1 hSh hm_h0 hk_h0 (show yAg S [34] d_1 d_730 from by rw [ed_730]; exact yAg.cs yAg.rf (by rw [hky_709]; decide)) (yK.ag (F := []) yK.rf (show yAg S [34] d_1 d_730 from by rw [ed_730]; exact yAg.cs yAg.rf (by rw [hky_709]; decide)) (by rw [hk_h0]; decide)) (by decide) (by decide)
                            have hE0d_730 : (d_730.1 h0 0).toInt = (d_1.1 h0 0).toInt := congrArg Int32.toInt ((yK.ag (F := []) yK.rf (show yAg S [34] d_1 d_730 from by rw [ed_730]; exact yAg.cs yAg.rf (by rw [hky_709]; decide)) (by rw [hk_h0]; decide)) 0 (by decide))
                            have hE1d_730 : (d_730.1 h0 1).toInt = (d_1.1 h0 1).toInt := congrArg Int32.toInt ((yK.ag (F := []) yK.rf (show yAg S [34] d_1 d_730 from by rw [ed_730]; exact yAg.cs yAg.rf (by rw [hky_709]; decide)) (by rw [hk_h0]; decide)) 1 (by decide))
                            have hE2d_730 : (d_730.1 h0 2).toInt = (d_1.1 h0 2).toInt := congrArg Int32.toInt ((yK.ag (F := []) yK.rf (show yAg S [34] d_1 d_730 from by rw [ed_730]; exact yAg.cs yAg.rf (by rw [hky_709]; decide)) (by rw [hk_h0]; decide)) 2 (by decide))
                            have hE3d_730 : (d_730.1 h0 3).toInt = (d_1.1 h0 3).toInt := congrArg Int32.toInt ((yK.ag (F := []) yK.rf (show yAg S [34] d_1 d_730 from by rw [ed_730]; exact yAg.cs yAg.rf (by rw [hky_709]; decide)) (by rw [hk_h0]; decide)) 3 (by decide))
                            have hE63d_730 : (d_730.1 h0 63).toInt = (d_1.1 h0 63).toInt := congrArg Int32.toInt ((yK.ag (F := []) yK.rf (show yAg S [34] d_1 d_730 from by rw [ed_730]; exact yAg.cs yAg.rf (by rw [hky_709]; decide)) (by rw [hk_h0]; decide)) 63 (by decide))
                            refine lv_aload_n hx hb dX9_term_193 rfl (lv_at hl 3 rfl) ?_
                            refine yget (ci := 9) (k := 5) (v := .ref (S.2.2.1 h0 5)) (C := RX9) (T := TX9) (N := 67) C0 hK hP hm_h0 hk_h0 (by decide) rfl inlX9 (by decide) mW109 (fun _ h9 => h9) rfl dX9_term_194 ?_
                            obtain ⟨hmy_731, hky_731⟩ := ySh.f9_5 hSh _ hm_h0 hk_h0
                            refine lv_iload hx hb dX9_term_197 (lv_at hl 0 rfl) ?_
                            refine lv_iload_n hx hb dX9_term_199 rfl (lv_at hl 6 rfl) ?_
                            refine lv_i2b hx hb dX9_term_200 rfl ?_
                            refine lv_topi (fun z_732 ez_732 => ?_)
                            have hCC_733 := yMI.c hId_730
                            refine yastB C0 hK hP hD hS hmy_731 hky_731 (by decide) rfl 1 rfl (xinT 2400 rfl (by omega) (by omega)) dX9_term_201 (fun H locs hP hD hS => ?_)
                            obtain ⟨d_734, ed_734⟩ : ∃ z : yD, z = ycs d_730 (S.2.2.1 h0 5) (upd (d_730.2.2.2.1 (S.2.2.1 h0 5)) (z_708 : Int32).toNatClampNeg (vp_nar .byte z_732)) := ⟨_, rfl⟩
                            rw [← ed_734] at hP hD
                            have hgd_734 : yAg S [9, 34, 35, 36, 37, 38, 39, 40, 69] d d_734 := by rw [ed_734]; exact yAg.cs hgd_730 (by rw [hky_731]; decide)
                            have hsd_734 : yAg S [35] d_730 d_734 := by rw [ed_734]; exact yAg.cs yAg.rf (by rw [hky_731]; decide)
                            have hPod_734 : yPo S d_734 := by rw [ed_734]; exact hPod_730
                            have hfd_734 : yK [38] d d_734 h0 := yK.ag hfd_730 (show yAg S [35] d_730 d_734 from by rw [ed_734]; exact yAg.cs yAg.rf (by rw [hky_731]; decide)) (by rw [hk_h0]; decide)
                            have hId_734 : yMI S d_734 h0 := yMI.ag hId_730 hSh hm_h0 hk_h0 (show yAg S [35] d_730 d_734 from by rw [ed_734]; exact yAg.cs yAg.rf (by rw [hky_731]; decide)) (yK.ag (F := []) yK.rf (show yAg S [35] d_730 d_734 from by rw [ed_734]; exact yAg.cs yAg.rf (by rw [hky_731]; decide)) (by rw [hk_h0]; decide)) (by decide) (by decide)
                            have hE0d_734 : (d_734.1 h0 0).toInt = (d_730.1 h0 0).toInt := congrArg Int32.toInt ((yK.ag (F := []) yK.rf (show yAg S [35] d_730 d_734 from by rw [ed_734]; exact yAg.cs yAg.rf (by rw [hky_731]; decide)) (by rw [hk_h0]; decide)) 0 (by decide))
                            have hE1d_734 : (d_734.1 h0 1).toInt = (d_730.1 h0 1).toInt := congrArg Int32.toInt ((yK.ag (F := []) yK.rf (show yAg S [35] d_730 d_734 from by rw [ed_734]; exact yAg.cs yAg.rf (by rw [hky_731]; decide)) (by rw [hk_h0]; decide)) 1 (by decide))
                            have hE2d_734 : (d_734.1 h0 2).toInt = (d_730.1 h0 2).toInt := congrArg Int32.toInt ((yK.ag (F := []) yK.rf (show yAg S [35] d_730 d_734 from by rw [ed_734]; exact yAg.cs yAg.rf (by rw [hky_731]; decide)) (by rw [hk_h0]; decide)) 2 (by decide))
                            have hE3d_734 : (d_734.1 h0 3).toInt = (d_730.1 h0 3).toInt := congrArg Int32.toInt ((yK.ag (F := []) yK.rf (show yAg S [35] d_730 d_734 from by rw [ed_734]; exact yAg.cs yAg.rf (by rw [hky_731]; decide)) (by rw [hk_h0]; decide)) 3 (by decide))
                            have hE63d_734 : (d_734.1 h0 63).toInt = (d_730.1 h0 63).toInt := congrArg Int32.toInt ((yK.ag (F := []) yK.rf (show yAg S [35] d_730 d_734 from by rw [ed_734]; exact yAg.cs yAg.rf (by rw [hky_731]; decide)) (by rw [hk_h0]; decide)) 63 (by decide))
                            refine lv_aload_n hx hb dX9_term_202 rfl (lv_at hl 3 rfl) ?_
                            refine yget (ci := 9) (k := 6) (v := .ref (S.2.2.1 h0 6)) (C := RX9) (T := TX9) (N := 67) C0 hK hP hm_h0 hk_h0 (by decide) rfl inlX9 (by decide) mW110 (fun _ h9 => h9) rfl dX9_term_203 ?_
                            obtain ⟨hmy_735, hky_735⟩ := ySh.f9_6 hSh _ hm_h0 hk_h0
                            refine lv_iload hx hb dX9_term_206 (lv_at hl 0 rfl) ?_
                            refine lv_iload hx hb dX9_term_208 (lv_at hl 7 rfl) ?_
                            refine lv_i2b hx hb dX9_term_210 rfl ?_
                            refine lv_topi (fun z_736 ez_736 => ?_)
                            have hCC_737 := yMI.c hId_734
                            refine yastB C0 hK hP hD hS hmy_735 hky_735 (by decide) rfl 1 rfl (xinT 2400 rfl (by omega) (by omega)) dX9_term_211 (fun H locs hP hD hS => ?_)
                            obtain ⟨d_738, ed_738⟩ : ∃ z : yD, z = ycs d_734 (S.2.2.1 h0 6) (upd (d_734.2.2.2.1 (S.2.2.1 h0 6)) (z_708 : Int32).toNatClampNeg (vp_nar .byte z_736)) := ⟨_, rfl⟩
                            rw [← ed_738] at hP hD
                            have hgd_738 : yAg S [9, 34, 35, 36, 37, 38, 39, 40, 69] d d_738 := by rw [ed_738]; exact yAg.cs hgd_734 (by rw [hky_735]; decide)
                            have hsd_738 : yAg S [36] d_734 d_738 := by rw [ed_738]; exact yAg.cs yAg.rf (by rw [hky_735]; decide)
                            have hPod_738 : yPo S d_738 := by rw [ed_738]; exact hPod_734
                            have hfd_738 : yK [38] d d_738 h0 := yK.ag hfd_734 (show yAg S [36] d_734 d_738 from by rw [ed_738]; exact yAg.cs yAg.rf (by rw [hky_735]; decide)) (by rw [hk_h0]; decide)
                            have hId_738 : yMI S d_738 h0 := yMI.ag hId_734 hSh hm_h0 hk_h0 (show yAg S [36] d_734 d_738 from by rw [ed_738]; exact yAg.cs yAg.rf (by rw [hky_735]; decide)) (yK.ag (F := []) yK.rf (show yAg S [36] d_734 d_738 from by rw [ed_738]; exact yAg.cs yAg.rf (by rw [hky_735]; decide)) (by rw [hk_h0]; decide)) (by decide) (by decide)
                            have hE0d_738 : (d_738.1 h0 0).toInt = (d_734.1 h0 0).toInt := congrArg Int32.toInt ((yK.ag (F := []) yK.rf (show yAg S [36] d_734 d_738 from by rw [ed_738]; exact yAg.cs yAg.rf (by rw [hky_735]; decide)) (by rw [hk_h0]; decide)) 0 (by decide))
                            have hE1d_738 : (d_738.1 h0 1).toInt = (d_734.1 h0 1).toInt := congrArg Int32.toInt ((yK.ag (F := []) yK.rf (show yAg S [36] d_734 d_738 from by rw [ed_738]; exact yAg.cs yAg.rf (by rw [hky_735]; decide)) (by rw [hk_h0]; decide)) 1 (by decide))
                            have hE2d_738 : (d_738.1 h0 2).toInt = (d_734.1 h0 2).toInt := congrArg Int32.toInt ((yK.ag (F := []) yK.rf (show yAg S [36] d_734 d_738 from by rw [ed_738]; exact yAg.cs yAg.rf (by rw [hky_735]; decide)) (by rw [hk_h0]; decide)) 2 (by decide))
                            have hE3d_738 : (d_738.1 h0 3).toInt = (d_734.1 h0 3).toInt := congrArg Int32.toInt ((yK.ag (F := []) yK.rf (show yAg S [36] d_734 d_738 from by rw [ed_738]; exact yAg.cs yAg.rf (by rw [hky_735]; decide)) (by rw [hk_h0]; decide)) 3 (by decide))
                            have hE63d_738 : (d_738.1 h0 63).toInt = (d_734.1 h0 63).toInt := congrArg Int32.toInt ((yK.ag (F := []) yK.rf (show yAg S [36] d_734 d_738 from by rw [ed_738]; exact yAg.cs yAg.rf (by rw [hky_735]; decide)) (by rw [hk_h0]; decide)) 63 (by decide))
                            refine lv_aload_n hx hb dX9_term_212 rfl (lv_at hl 3 rfl) ?_
                            refine yget (ci := 9) (k := 7) (v := .ref (S.2.2.1 h0 7)) (C := RX9) (T := TX9) (N := 67) C0 hK hP hm_h0 hk_h0 (by decide) rfl inlX9 (by decide) mW111 (fun _ h9 => h9) rfl dX9_term_213 ?_
                            obtain ⟨hmy_739, hky_739⟩ := ySh.f9_7 hSh _ hm_h0 hk_h0
                            refine lv_iload hx hb dX9_term_216 (lv_at hl 0 rfl) ?_
                            refine lv_iload hx hb dX9_term_218 (lv_at hl 8 rfl) ?_
                            have hCC_740 := yMI.c hId_738
                            refine yast C0 hK hP hD hS hmy_739 hky_739 (by decide) rfl 0 rfl (xinT 2400 rfl (by omega) (by omega)) dX9_term_220 (fun H locs hP hD hS => ?_)
                            obtain ⟨d_741, ed_741⟩ : ∃ z : yD, z = ycs d_738 (S.2.2.1 h0 7) (upd (d_738.2.2.2.1 (S.2.2.1 h0 7)) (z_708 : Int32).toNatClampNeg p4) := ⟨_, rfl⟩
                            rw [← ed_741] at hP hD
                            have hgd_741 : yAg S [9, 34, 35, 36, 37, 38, 39, 40, 69] d d_741 := by rw [ed_741]; exact yAg.cs hgd_738 (by rw [hky_739]; decide)
                            have hsd_741 : yAg S [37] d_738 d_741 := by rw [ed_741]; exact yAg.cs yAg.rf (by rw [hky_739]; decide)
                            have hPod_741 : yPo S d_741 := by rw [ed_741]; exact hPod_738
                            have hfd_741 : yK [38] d d_741 h0 := yK.ag hfd_738 (show yAg S [37] d_738 d_741 from by rw [ed_741]; exact yAg.cs yAg.rf (by rw [hky_739]; decide)) (by rw [hk_h0]; decide)
                            have hId_741 : yMI S d_741 h0 := yMI.ag hId_738 hSh hm_h0 hk_h0 (show yAg S [37] d_738 d_741 from by rw [ed_741]; exact yAg.cs yAg.rf (by rw [hky_739]; decide)) (yK.ag (F := []) yK.rf (show yAg S [37] d_738 d_741 from by rw [ed_741]; exact yAg.cs yAg.rf (by rw [hky_739]; decide)) (by rw [hk_h0]; decide)) (by decide) (by decide)
                            have hE0d_741 : (d_741.1 h0 0).toInt = (d_738.1 h0 0).toInt := congrArg Int32.toInt ((yK.ag (F := []) yK.rf (show yAg S [37] d_738 d_741 from by rw [ed_741]; exact yAg.cs yAg.rf (by rw [hky_739]; decide)) (by rw [hk_h0]; decide)) 0 (by decide))
                            have hE1d_741 : (d_741.1 h0 1).toInt = (d_738.1 h0 1).toInt := congrArg Int32.toInt ((yK.ag (F := []) yK.rf (show yAg S [37] d_738 d_741 from by rw [ed_741]; exact yAg.cs yAg.rf (by rw [hky_739]; decide)) (by rw [hk_h0]; decide)) 1 (by decide))
                            have hE2d_741 : (d_741.1 h0 2).toInt = (d_738.1 h0 2).toInt := congrArg Int32.toInt ((yK.ag (F := []) yK.rf (show yAg S [37] d_738 d_741 from by rw [ed_741]; exact yAg.cs yAg.rf (by rw [hky_739]; decide)) (by rw [hk_h0]; decide)) 2 (by decide))
                            have hE3d_741 : (d_741.1 h0 3).toInt = (d_738.1 h0 3).toInt := congrArg Int32.toInt ((yK.ag (F := []) yK.rf (show yAg S [37] d_738 d_741 from by rw [ed_741]; exact yAg.cs yAg.rf (by rw [hky_739]; decide)) (by rw [hk_h0]; decide)) 3 (by decide))
                            have hE63d_741 : (d_741.1 h0 63).toInt = (d_738.1 h0 63).toInt := congrArg Int32.toInt ((yK.ag (F := []) yK.rf (show yAg S [37] d_738 d_741 from by rw [ed_741]; exact yAg.cs yAg.rf (by rw [hky_739]; decide)) (by rw [hk_h0]; decide)) 63 (by decide))
                            refine lv_aload_n hx hb dX9_term_221 rfl (lv_at hl 3 rfl) ?_
                            refine yget (ci := 9) (k := 8) (v := .ref (S.2.2.1 h0 8)) (C := RX9) (T := TX9) (N := 67) C0 hK hP hm_h0 hk_h0 (by decide) rfl inlX9 (by decide) mW112 (fun _ h9 => h9) rfl dX9_term_222 ?_
                            obtain ⟨hmy_742, hky_742⟩ := ySh.f9_8 hSh _ hm_h0 hk_h0
                            refine lv_iload hx hb dX9_term_225 (lv_at hl 0 rfl) ?_
                            refine lv_iload hx hb dX9_term_227 (lv_at hl 9 rfl) ?_
                            have hCC_743 := yMI.c hId_741
                            refine yast C0 hK hP hD hS hmy_742 hky_742 (by decide) rfl 0 rfl (xinT 2400 rfl (by omega) (by omega)) dX9_term_229 (fun H locs hP hD hS => ?_)
                            obtain ⟨d_744, ed_744⟩ : ∃ z : yD, z = ycs d_741 (S.2.2.1 h0 8) (upd (d_741.2.2.2.1 (S.2.2.1 h0 8)) (z_708 : Int32).toNatClampNeg p5) := ⟨_, rfl⟩
                            rw [← ed_744] at hP hD
                            have hgd_744 : yAg S [9, 34, 35, 36, 37, 38, 39, 40, 69] d d_744 := by rw [ed_744]; exact yAg.cs hgd_741 (by rw [hky_742]; decide)
                            have hsd_744 : yAg S [38] d_741 d_744 := by rw [ed_744]; exact yAg.cs yAg.rf (by rw [hky_742]; decide)
                            have hPod_744 : yPo S d_744 := by rw [ed_744]; exact hPod_741
                            have hfd_744 : yK [38] d d_744 h0 := yK.ag hfd_741 (show yAg S [38] d_741 d_744 from by rw [ed_744]; exact yAg.cs yAg.rf (by rw [hky_742]; decide)) (by rw [hk_h0]; decide)
                            have hId_744 : yMI S d_744 h0 := yMI.ag hId_741 hSh hm_h0 hk_h0 (show yAg S [38] d_741 d_744 from by rw [ed_744]; exact yAg.cs yAg.rf (by rw [hky_742]; decide)) (yK.ag (F := []) yK.rf (show yAg S [38] d_741 d_744 from by rw [ed_744]; exact yAg.cs yAg.rf (by rw [hky_742]; decide)) (by rw [hk_h0]; decide)) (by decide) (by decide)
                            have hE0d_744 : (d_744.1 h0 0).toInt = (d_741.1 h0 0).toInt := congrArg Int32.toInt ((yK.ag (F := []) yK.rf (show yAg S [38] d_741 d_744 from by rw [ed_744]; exact yAg.cs yAg.rf (by rw [hky_742]; decide)) (by rw [hk_h0]; decide)) 0 (by decide))
                            have hE1d_744 : (d_744.1 h0 1).toInt = (d_741.1 h0 1).toInt := congrArg Int32.toInt ((yK.ag (F := []) yK.rf (show yAg S [38] d_741 d_744 from by rw [ed_744]; exact yAg.cs yAg.rf (by rw [hky_742]; decide)) (by rw [hk_h0]; decide)) 1 (by decide))
                            have hE2d_744 : (d_744.1 h0 2).toInt = (d_741.1 h0 2).toInt := congrArg Int32.toInt ((yK.ag (F := []) yK.rf (show yAg S [38] d_741 d_744 from by rw [ed_744]; exact yAg.cs yAg.rf (by rw [hky_742]; decide)) (by rw [hk_h0]; decide)) 2 (by decide))
                            have hE3d_744 : (d_744.1 h0 3).toInt = (d_741.1 h0 3).toInt := congrArg Int32.toInt ((yK.ag (F := []) yK.rf (show yAg S [38] d_741 d_744 from by rw [ed_744]; exact yAg.cs yAg.rf (by rw [hky_742]; decide)) (by rw [hk_h0]; decide)) 3 (by decide))
                            have hE63d_744 : (d_744.1 h0 63).toInt = (d_741.1 h0 63).toInt := congrArg Int32.toInt ((yK.ag (F := []) yK.rf (show yAg S [38] d_741 d_744 from by rw [ed_744]; exact yAg.cs yAg.rf (by rw [hky_742]; decide)) (by rw [hk_h0]; decide)) 63 (by decide))
                            refine lv_aload_n hx hb dX9_term_230 rfl (lv_at hl 3 rfl) ?_
                            refine yget (ci := 9) (k := 9) (v := .ref (S.2.2.1 h0 9)) (C := RX9) (T := TX9) (N := 67) C0 hK hP hm_h0 hk_h0 (by decide) rfl inlX9 (by decide) mW113 (fun _ h9 => h9) rfl dX9_term_231 ?_
                            obtain ⟨hmy_745, hky_745⟩ := ySh.f9_9 hSh _ hm_h0 hk_h0
                            refine lv_iload hx hb dX9_term_234 (lv_at hl 0 rfl) ?_
                            refine lv_iconst (v := 0) hx hb dX9_term_236 (by decide) ?_
                            have hCC_746 := yMI.c hId_744
                            refine yastB C0 hK hP hD hS hmy_745 hky_745 (by decide) rfl 1 rfl (xinT 2400 rfl (by omega) (by omega)) dX9_term_237 (fun H locs hP hD hS => ?_)
                            obtain ⟨d_747, ed_747⟩ : ∃ z : yD, z = ycs d_744 (S.2.2.1 h0 9) (upd (d_744.2.2.2.1 (S.2.2.1 h0 9)) (z_708 : Int32).toNatClampNeg (vp_nar .byte 0)) := ⟨_, rfl⟩
                            rw [← ed_747] at hP hD
                            have hgd_747 : yAg S [9, 34, 35, 36, 37, 38, 39, 40, 69] d d_747 := by rw [ed_747]; exact yAg.cs hgd_744 (by rw [hky_745]; decide)
                            have hsd_747 : yAg S [39] d_744 d_747 := by rw [ed_747]; exact yAg.cs yAg.rf (by rw [hky_745]; decide)
                            have hPod_747 : yPo S d_747 := by rw [ed_747]; exact hPod_744
                            have hfd_747 : yK [38] d d_747 h0 := yK.ag hfd_744 (show yAg S [39] d_744 d_747 from by rw [ed_747]; exact yAg.cs yAg.rf (by rw [hky_745]; decide)) (by rw [hk_h0]; decide)
                            have hId_747 : yMI S d_747 h0 := yMI.ag hId_744 hSh hm_h0 hk_h0 (show yAg S [39] d_744 d_747 from by rw [ed_747]; exact yAg.cs yAg.rf (by rw [hky_745]; decide)) (yK.ag (F := []) yK.rf (show yAg S [39] d_744 d_747 from by rw [ed_747]; exact yAg.cs yAg.rf (by rw [hky_745]; decide)) (by rw [hk_h0]; decide)) (by decide) (by decide)
                            have hE0d_747 : (d_747.1 h0 0).toInt = (d_744.1 h0 0).toInt := congrArg Int32.toInt ((yK.ag (F := []) yK.rf (show yAg S [39] d_744 d_747 from by rw [ed_747]; exact yAg.cs yAg.rf (by rw [hky_745]; decide)) (by rw [hk_h0]; decide)) 0 (by decide))
                            have hE1d_747 : (d_747.1 h0 1).toInt = (d_744.1 h0 1).toInt := congrArg Int32.toInt ((yK.ag (F := []) yK.rf (show yAg S [39] d_744 d_747 from by rw [ed_747]; exact yAg.cs yAg.rf (by rw [hky_745]; decide)) (by rw [hk_h0]; decide)) 1 (by decide))
                            have hE2d_747 : (d_747.1 h0 2).toInt = (d_744.1 h0 2).toInt := congrArg Int32.toInt ((yK.ag (F := []) yK.rf (show yAg S [39] d_744 d_747 from by rw [ed_747]; exact yAg.cs yAg.rf (by rw [hky_745]; decide)) (by rw [hk_h0]; decide)) 2 (by decide))
                            have hE3d_747 : (d_747.1 h0 3).toInt = (d_744.1 h0 3).toInt := congrArg Int32.toInt ((yK.ag (F := []) yK.rf (show yAg S [39] d_744 d_747 from by rw [ed_747]; exact yAg.cs yAg.rf (by rw [hky_745]; decide)) (by rw [hk_h0]; decide)) 3 (by decide))
                            have hE63d_747 : (d_747.1 h0 63).toInt = (d_744.1 h0 63).toInt := congrArg Int32.toInt ((yK.ag (F := []) yK.rf (show yAg S [39] d_744 d_747 from by rw [ed_747]; exact yAg.cs yAg.rf (by rw [hky_745]; decide)) (by rw [hk_h0]; decide)) 63 (by decide))
                            refine lv_aload_n hx hb dX9_term_238 rfl (lv_at hl 3 rfl) ?_
                            refine yget (ci := 9) (k := 10) (v := .ref (S.2.2.1 h0 10)) (C := RX9) (T := TX9) (N := 67) C0 hK hP hm_h0 hk_h0 (by decide) rfl inlX9 (by decide) mW114 (fun _ h9 => h9) rfl dX9_term_239 ?_
                            obtain ⟨hmy_748, hky_748⟩ := ySh.f9_10 hSh _ hm_h0 hk_h0
                            refine lv_iload hx hb dX9_term_242 (lv_at hl 0 rfl) ?_
                            refine lv_iconst (v := 0) hx hb dX9_term_244 (by decide) ?_
                            have hCC_749 := yMI.c hId_747
                            refine yast C0 hK hP hD hS hmy_748 hky_748 (by decide) rfl 0 rfl (xinT 2400 rfl (by omega) (by omega)) dX9_term_245 (fun H locs hP hD hS => ?_)
                            obtain ⟨d_750, ed_750⟩ : ∃ z : yD, z = ycs d_747 (S.2.2.1 h0 10) (upd (d_747.2.2.2.1 (S.2.2.1 h0 10)) (z_708 : Int32).toNatClampNeg 0) := ⟨_, rfl⟩
                            rw [← ed_750] at hP hD
                            have hgd_750 : yAg S [9, 34, 35, 36, 37, 38, 39, 40, 69] d d_750 := by rw [ed_750]; exact yAg.cs hgd_747 (by rw [hky_748]; decide)
                            have hsd_750 : yAg S [40] d_747 d_750 := by rw [ed_750]; exact yAg.cs yAg.rf (by rw [hky_748]; decide)
                            have hPod_750 : yPo S d_750 := by rw [ed_750]; exact hPod_747
                            have hfd_750 : yK [38] d d_750 h0 := yK.ag hfd_747 (show yAg S [40] d_747 d_750 from by rw [ed_750]; exact yAg.cs yAg.rf (by rw [hky_748]; decide)) (by rw [hk_h0]; decide)
                            have hId_750 : yMI S d_750 h0 := yMI.ag hId_747 hSh hm_h0 hk_h0 (show yAg S [40] d_747 d_750 from by rw [ed_750]; exact yAg.cs yAg.rf (by rw [hky_748]; decide)) (yK.ag (F := []) yK.rf (show yAg S [40] d_747 d_750 from by rw [ed_750]; exact yAg.cs yAg.rf (by rw [hky_748]; decide)) (by rw [hk_h0]; decide)) (by decide) (by decide)
                            have hE0d_750 : (d_750.1 h0 0).toInt = (d_747.1 h0 0).toInt := congrArg Int32.toInt ((yK.ag (F := []) yK.rf (show yAg S [40] d_747 d_750 from by rw [ed_750]; exact yAg.cs yAg.rf (by rw [hky_748]; decide)) (by rw [hk_h0]; decide)) 0 (by decide))
                            have hE1d_750 : (d_750.1 h0 1).toInt = (d_747.1 h0 1).toInt := congrArg Int32.toInt ((yK.ag (F := []) yK.rf (show yAg S [40] d_747 d_750 from by rw [ed_750]; exact yAg.cs yAg.rf (by rw [hky_748]; decide)) (by rw [hk_h0]; decide)) 1 (by decide))
                            have hE2d_750 : (d_750.1 h0 2).toInt = (d_747.1 h0 2).toInt := congrArg Int32.toInt ((yK.ag (F := []) yK.rf (show yAg S [40] d_747 d_750 from by rw [ed_750]; exact yAg.cs yAg.rf (by rw [hky_748]; decide)) (by rw [hk_h0]; decide)) 2 (by decide))
                            have hE3d_750 : (d_750.1 h0 3).toInt = (d_747.1 h0 3).toInt := congrArg Int32.toInt ((yK.ag (F := []) yK.rf (show yAg S [40] d_747 d_750 from by rw [ed_750]; exact yAg.cs yAg.rf (by rw [hky_748]; decide)) (by rw [hk_h0]; decide)) 3 (by decide))
                            have hE63d_750 : (d_750.1 h0 63).toInt = (d_747.1 h0 63).toInt := congrArg Int32.toInt ((yK.ag (F := []) yK.rf (show yAg S [40] d_747 d_750 from by rw [ed_750]; exact yAg.cs yAg.rf (by rw [hky_748]; decide)) (by rw [hk_h0]; decide)) 63 (by decide))
                            refine lv_iconst (v := 1) hx hb dX9_term_246 (by decide) ?_
                            have hCC_751 := yMI.c hId_750
                            rw [ez_732] at ed_734
                            rw [ez_736] at ed_738
                            exact W.zret (v := 1) (ty := .boolean) hx hb hr rfl (fun t ht hW => ⟨⟨1, d_750, rfl, ⟨hgd_750, (fun _ => hPod_750), hfd_750, ⟨hId_750, Or.inr ⟨by have h0_ : (1 : Int32).toInt = 1 := (by decide +kernel); omega, by omega, (zRow7 (zTr.ag zTr.rf hSh hm_h0 hk_h0 hsd_1 (by decide)) hSh hm_h0 hk_h0 (show (z_708 : Int32).toNatClampNeg = (60 * p0.toInt.toNat + p1.toInt.toNat) from (show (z_708 : Int32).toInt.toNat = _ by omega)) (show (z_708 : Int32).toNatClampNeg = (60 * p0.toInt.toNat + p1.toInt.toNat) from (show (z_708 : Int32).toInt.toNat = _ by omega)) (show (z_708 : Int32).toNatClampNeg = (60 * p0.toInt.toNat + p1.toInt.toNat) from (show (z_708 : Int32).toInt.toNat = _ by omega)) (show (z_708 : Int32).toNatClampNeg = (60 * p0.toInt.toNat + p1.toInt.toNat) from (show (z_708 : Int32).toInt.toNat = _ by omega)) (show (z_708 : Int32).toNatClampNeg = (60 * p0.toInt.toNat + p1.toInt.toNat) from (show (z_708 : Int32).toInt.toNat = _ by omega)) (show (z_708 : Int32).toNatClampNeg = (60 * p0.toInt.toNat + p1.toInt.toNat) from (show (z_708 : Int32).toInt.toNat = _ by omega)) (show (z_708 : Int32).toNatClampNeg = (60 * p0.toInt.toNat + p1.toInt.toNat) from (show (z_708 : Int32).toInt.toNat = _ by omega)) ed_730 ed_734 ed_738 ed_741 ed_744 ed_747 ed_750)⟩⟩⟩, by rw [ht]; exact hP, hD⟩, hS.F ht⟩) hS.2.2 dX9_term_247
                          · refine lv_aload_n hx hb dX9_term_168 rfl (lv_at hl 2 rfl) ?_
                            refine lv_iload hx hb dX9_term_169 (lv_at hl 1 rfl) ?_
                            have F_752 := fnlt (rfl : (p2 : Int32).toInt = (p2 : Int32).toInt) (by decide +kernel : (0 : Int32).toInt = 0) c_3
                            have F_753 := fnlt (by decide +kernel : (4 : Int32).toInt = 4) (rfl : (p2 : Int32).toInt = (p2 : Int32).toInt) c_118
                            have F_754 := fnlt (rfl : (p3 : Int32).toInt = (p3 : Int32).toInt) (by decide +kernel : (0 : Int32).toInt = 0) c_241
                            have F_755 := fle (rfl : (p3 : Int32).toInt = (p3 : Int32).toInt) (by decide +kernel : (4 : Int32).toInt = 4) c_372
                            have F_756 := fne (rfl : (p3 : Int32).toInt = (p3 : Int32).toInt) (by decide +kernel : (1 : Int32).toInt = 1) c_373
                            have F_757 := feq (rfl : (p3 : Int32).toInt = (p3 : Int32).toInt) (by decide +kernel : (3 : Int32).toInt = 3) c_374
                            have F_758 := feq (by decide +kernel : (0 : Int32).toInt = 0) (by decide +kernel : (0 : Int32).toInt = 0) c_563
                            have F_759 := fnlt (rfl : (p4 : Int32).toInt = (p4 : Int32).toInt) (by decide +kernel : (0 : Int32).toInt = 0) c_564
                            have F_760 := fle (rfl : (p4 : Int32).toInt = (p4 : Int32).toInt) (by decide +kernel : (4 : Int32).toInt = 4) c_600
                            have F_761 := feq (rfl : (p3 : Int32).toInt = (p3 : Int32).toInt) (by decide +kernel : (4 : Int32).toInt = 4) c_601
                            have F_762 := feq (by decide +kernel : (0 : Int32).toInt = 0) (by decide +kernel : (0 : Int32).toInt = 0) c_659
                            have F_763 := fnlt (rfl : (p4 : Int32).toInt = (p4 : Int32).toInt) (by decide +kernel : (0 : Int32).toInt = 0) c_660
                            have F_764 := fnlt (by decide +kernel : (129600 : Int32).toInt = 129600) (rfl : (p4 : Int32).toInt = (p4 : Int32).toInt) c_661
                            have F_765 := fnlt (rfl : (p5 : Int32).toInt = (p5 : Int32).toInt) (by decide +kernel : (0 : Int32).toInt = 0) c_682
                            have F_766 := fle (rfl : (p5 : Int32).toInt = (p5 : Int32).toInt) (by decide +kernel : (129600 : Int32).toInt = 129600) c_704
                            have F_767 := feq (by decide +kernel : (0 : Int32).toInt = 0) (by decide +kernel : (0 : Int32).toInt = 0) c_705
                            have F_768 := fne (rfl : (r_2 : Int32).toInt = (r_2 : Int32).toInt) (by decide +kernel : (0 : Int32).toInt = 0) c_706
                            refine yVwi (As := [.int r_2]) (rest := []) C0 (g_X9_no l G S d_1 h0 r_2 hSh hPod_1 hm_h0 hk_h0 (by refine ⟨?_, ?_⟩ <;> omega)) ok_X9_no (mW177 : Cond.methodLink RX9 168 yX9_no ∈ wsT) ⟨Nat.le_of_ble_eq_true rfl, Nat.le_of_ble_eq_true rfl⟩ hP hD hS hA hK hN hm_h0 hk_h0 (by decide) rfl rfl rfl hl.1 rfl (Nat.le_of_ble_eq_true rfl) ⟨Nat.le_of_ble_eq_true rfl, Nat.le_of_ble_eq_true rfl⟩ dX9_term_171 (fun r_769 d_770 H locs hr_769 hP hD hS => ?_)
                            obtain ⟨hgad_770, hpad_770, hfad_770, hxd_770⟩ := hr_769
                            have hfd_770 : yK [38] d d_770 h0 := yK.tr hfd_1 hfad_770 (by decide)
                            have hE0d_770 : (d_770.1 h0 0).toInt = (d_1.1 h0 0).toInt := congrArg Int32.toInt (hfad_770 0 (by decide))
                            have hE1d_770 : (d_770.1 h0 1).toInt = (d_1.1 h0 1).toInt := congrArg Int32.toInt (hfad_770 1 (by decide))
                            have hE2d_770 : (d_770.1 h0 2).toInt = (d_1.1 h0 2).toInt := congrArg Int32.toInt (hfad_770 2 (by decide))
                            have hE3d_770 : (d_770.1 h0 3).toInt = (d_1.1 h0 3).toInt := congrArg Int32.toInt (hfad_770 3 (by decide))
                            have hE63d_770 : (d_770.1 h0 63).toInt = (d_1.1 h0 63).toInt := congrArg Int32.toInt (hfad_770 63 (by decide))
                            have hId_770 : yMI S d_770 h0 := yMI.ag hId_1 hSh hm_h0 hk_h0 hgad_770 hfad_770 (by decide) (by decide)
                            have hgd_770 : yAg S [9, 34, 35, 36, 37, 38, 39, 40, 69] d d_770 := yAg.tr hgd_1 hgad_770 (by first | decide | exact fun _ h => h)
                            have hPod_770 : yPo S d_770 := hpad_770 hPod_1
                            refine lv_pop hx hb dX9_term_174 rfl ?_
                            refine lv_iconst (v := 0) hx hb dX9_term_175 (by decide) ?_
                            have hCC_771 := yMI.c hId_770
                            exact W.zret (v := 0) (ty := .boolean) hx hb hr rfl (fun t ht hW => ⟨⟨0, d_770, rfl, ⟨hgd_770, (fun _ => hPod_770), hfd_770, ⟨hId_770, Or.inl ⟨by have h0_ : (0 : Int32).toInt = 0 := (by decide +kernel); omega, by omega, (zTr.ag (zTr.ag zTr.rf hSh hm_h0 hk_h0 hsd_1 (by decide)) hSh hm_h0 hk_h0 hgad_770 (by decide))⟩⟩⟩, by rw [ht]; exact hP, hD⟩, hS.F ht⟩) hS.2.2 dX9_term_176
                        · refine lv_iconst (v := 1) hx hb dX9_term_148 (by decide) ?_
                          refine lv_goto (tgt := 153) hx hb dX9_term_149 (by decide) ?_
                          refine lv_istore (lv' := [(8, .int 1), (7, .int r_2), (0, .ref h0), (1, .int p0), (2, .int p1), (3, .int p2), (4, .int p3), (5, .int p4), (6, .int p5)]) hx hb dX9_term_153 hl (by decide) rfl (fun ls hl => ?_)
                          refine lv_iload hx hb dX9_term_155 (lv_at hl 0 rfl) ?_
                          refine lv_if_eq (tgt := 163) hx hb dX9_term_157 (by decide) (fun c_772 => absurd c_772 (by decide +kernel)) (fun c_772 => ?_)
                          refine lv_iconst (v := 1) hx hb dX9_term_160 (by decide) ?_
                          refine lv_istore (lv' := [(7, .int 1), (8, .int 1), (0, .ref h0), (1, .int p0), (2, .int p1), (3, .int p2), (4, .int p3), (5, .int p4), (6, .int p5)]) hx hb dX9_term_161 hl (by decide) rfl (fun ls hl => ?_)
                          refine lv_iload hx hb dX9_term_163 (lv_at hl 0 rfl) ?_
                          refine lv_if_eq (tgt := 177) hx hb dX9_term_165 (by decide) (fun c_773 => absurd c_773 (by decide +kernel)) (fun c_773 => ?_)
                          refine lv_aload_n hx hb dX9_term_168 rfl (lv_at hl 2 rfl) ?_
                          refine lv_iload hx hb dX9_term_169 (lv_at hl 0 rfl) ?_
                          refine yVwi (As := [.int 1]) (rest := []) C0 (g_X9_no l G S d_1 h0 1 hSh hPod_1 hm_h0 hk_h0 (by decide +kernel)) ok_X9_no (mW177 : Cond.methodLink RX9 168 yX9_no ∈ wsT) ⟨Nat.le_of_ble_eq_true rfl, Nat.le_of_ble_eq_true rfl⟩ hP hD hS hA hK hN hm_h0 hk_h0 (by decide) rfl rfl rfl hl.1 rfl (Nat.le_of_ble_eq_true rfl) ⟨Nat.le_of_ble_eq_true rfl, Nat.le_of_ble_eq_true rfl⟩ dX9_term_171 (fun r_774 d_775 H locs hr_774 hP hD hS => ?_)
                          obtain ⟨hgad_775, hpad_775, hfad_775, hxd_775⟩ := hr_774
                          have hfd_775 : yK [38] d d_775 h0 := yK.tr hfd_1 hfad_775 (by decide)
                          have hE0d_775 : (d_775.1 h0 0).toInt = (d_1.1 h0 0).toInt := congrArg Int32.toInt (hfad_775 0 (by decide))
                          have hE1d_775 : (d_775.1 h0 1).toInt = (d_1.1 h0 1).toInt := congrArg Int32.toInt (hfad_775 1 (by decide))
                          have hE2d_775 : (d_775.1 h0 2).toInt = (d_1.1 h0 2).toInt := congrArg Int32.toInt (hfad_775 2 (by decide))
                          have hE3d_775 : (d_775.1 h0 3).toInt = (d_1.1 h0 3).toInt := congrArg Int32.toInt (hfad_775 3 (by decide))
                          have hE63d_775 : (d_775.1 h0 63).toInt = (d_1.1 h0 63).toInt := congrArg Int32.toInt (hfad_775 63 (by decide))
                          have hId_775 : yMI S d_775 h0 := yMI.ag hId_1 hSh hm_h0 hk_h0 hgad_775 hfad_775 (by decide) (by decide)
                          have hgd_775 : yAg S [9, 34, 35, 36, 37, 38, 39, 40, 69] d d_775 := yAg.tr hgd_1 hgad_775 (by first | decide | exact fun _ h => h)
                          have hPod_775 : yPo S d_775 := hpad_775 hPod_1
                          refine lv_pop hx hb dX9_term_174 rfl ?_
                          refine lv_iconst (v := 0) hx hb dX9_term_175 (by decide) ?_
                          have hCC_776 := yMI.c hId_775
                          have F_777 := fnlt (rfl : (p2 : Int32).toInt = (p2 : Int32).toInt) (by decide +kernel : (0 : Int32).toInt = 0) c_3
                          have F_778 := fnlt (by decide +kernel : (4 : Int32).toInt = 4) (rfl : (p2 : Int32).toInt = (p2 : Int32).toInt) c_118
                          have F_779 := fnlt (rfl : (p3 : Int32).toInt = (p3 : Int32).toInt) (by decide +kernel : (0 : Int32).toInt = 0) c_241
                          have F_780 := fle (rfl : (p3 : Int32).toInt = (p3 : Int32).toInt) (by decide +kernel : (4 : Int32).toInt = 4) c_372
                          have F_781 := fne (rfl : (p3 : Int32).toInt = (p3 : Int32).toInt) (by decide +kernel : (1 : Int32).toInt = 1) c_373
                          have F_782 := feq (rfl : (p3 : Int32).toInt = (p3 : Int32).toInt) (by decide +kernel : (3 : Int32).toInt = 3) c_374
                          have F_783 := feq (by decide +kernel : (0 : Int32).toInt = 0) (by decide +kernel : (0 : Int32).toInt = 0) c_563
                          have F_784 := fnlt (rfl : (p4 : Int32).toInt = (p4 : Int32).toInt) (by decide +kernel : (0 : Int32).toInt = 0) c_564
                          have F_785 := fle (rfl : (p4 : Int32).toInt = (p4 : Int32).toInt) (by decide +kernel : (4 : Int32).toInt = 4) c_600
                          have F_786 := feq (rfl : (p3 : Int32).toInt = (p3 : Int32).toInt) (by decide +kernel : (4 : Int32).toInt = 4) c_601
                          have F_787 := feq (by decide +kernel : (0 : Int32).toInt = 0) (by decide +kernel : (0 : Int32).toInt = 0) c_659
                          have F_788 := fnlt (rfl : (p4 : Int32).toInt = (p4 : Int32).toInt) (by decide +kernel : (0 : Int32).toInt = 0) c_660
                          have F_789 := fnlt (by decide +kernel : (129600 : Int32).toInt = 129600) (rfl : (p4 : Int32).toInt = (p4 : Int32).toInt) c_661
                          have F_790 := fnlt (rfl : (p5 : Int32).toInt = (p5 : Int32).toInt) (by decide +kernel : (0 : Int32).toInt = 0) c_682
                          have F_791 := fnle (rfl : (p5 : Int32).toInt = (p5 : Int32).toInt) (by decide +kernel : (129600 : Int32).toInt = 129600) c_704
                          have F_792 := fne (by decide +kernel : (1 : Int32).toInt = 1) (by decide +kernel : (0 : Int32).toInt = 0) c_772
                          have F_793 := fne (by decide +kernel : (1 : Int32).toInt = 1) (by decide +kernel : (0 : Int32).toInt = 0) c_773
                          exact W.zret (v := 0) (ty := .boolean) hx hb hr rfl (fun t ht hW => ⟨⟨0, d_775, rfl, ⟨hgd_775, (fun _ => hPod_775), hfd_775, ⟨hId_775, Or.inl ⟨by have h0_ : (0 : Int32).toInt = 0 := (by decide +kernel); omega, by omega, (zTr.ag (zTr.ag zTr.rf hSh hm_h0 hk_h0 hsd_1 (by decide)) hSh hm_h0 hk_h0 hgad_775 (by decide))⟩⟩⟩, by rw [ht]; exact hP, hD⟩, hS.F ht⟩) hS.2.2 dX9_term_176
                · refine lv_iconst (v := 1) hx hb dX9_term_106 (by decide) ?_
                  refine lv_goto (tgt := 111) hx hb dX9_term_107 (by decide) ?_
                  refine lv_istore (lv' := [(8, .int 1), (7, .int r_2), (0, .ref h0), (1, .int p0), (2, .int p1), (3, .int p2), (4, .int p3), (5, .int p4), (6, .int p5)]) hx hb dX9_term_111 hl (by decide) rfl (fun ls hl => ?_)
                  refine lv_iload hx hb dX9_term_113 (lv_at hl 6 rfl) ?_
                  refine lv_iconst (v := 4) hx hb dX9_term_115 (by decide) ?_
                  refine lv_icmp_ne (tgt := 155) hx hb dX9_term_116 (by decide) (fun c_794 => ?_) (fun c_794 => ?_)
                  · refine lv_iload hx hb dX9_term_155 (lv_at hl 0 rfl) ?_
                    refine lv_if_eq (tgt := 163) hx hb dX9_term_157 (by decide) (fun c_795 => absurd c_795 (by decide +kernel)) (fun c_795 => ?_)
                    refine lv_iconst (v := 1) hx hb dX9_term_160 (by decide) ?_
                    refine lv_istore (lv' := [(7, .int 1), (8, .int 1), (0, .ref h0), (1, .int p0), (2, .int p1), (3, .int p2), (4, .int p3), (5, .int p4), (6, .int p5)]) hx hb dX9_term_161 hl (by decide) rfl (fun ls hl => ?_)
                    refine lv_iload hx hb dX9_term_163 (lv_at hl 0 rfl) ?_
                    refine lv_if_eq (tgt := 177) hx hb dX9_term_165 (by decide) (fun c_796 => absurd c_796 (by decide +kernel)) (fun c_796 => ?_)
                    refine lv_aload_n hx hb dX9_term_168 rfl (lv_at hl 2 rfl) ?_
                    refine lv_iload hx hb dX9_term_169 (lv_at hl 0 rfl) ?_
                    refine yVwi (As := [.int 1]) (rest := []) C0 (g_X9_no l G S d_1 h0 1 hSh hPod_1 hm_h0 hk_h0 (by decide +kernel)) ok_X9_no (mW177 : Cond.methodLink RX9 168 yX9_no ∈ wsT) ⟨Nat.le_of_ble_eq_true rfl, Nat.le_of_ble_eq_true rfl⟩ hP hD hS hA hK hN hm_h0 hk_h0 (by decide) rfl rfl rfl hl.1 rfl (Nat.le_of_ble_eq_true rfl) ⟨Nat.le_of_ble_eq_true rfl, Nat.le_of_ble_eq_true rfl⟩ dX9_term_171 (fun r_797 d_798 H locs hr_797 hP hD hS => ?_)
                    obtain ⟨hgad_798, hpad_798, hfad_798, hxd_798⟩ := hr_797
                    have hfd_798 : yK [38] d d_798 h0 := yK.tr hfd_1 hfad_798 (by decide)
                    have hE0d_798 : (d_798.1 h0 0).toInt = (d_1.1 h0 0).toInt := congrArg Int32.toInt (hfad_798 0 (by decide))
                    have hE1d_798 : (d_798.1 h0 1).toInt = (d_1.1 h0 1).toInt := congrArg Int32.toInt (hfad_798 1 (by decide))
                    have hE2d_798 : (d_798.1 h0 2).toInt = (d_1.1 h0 2).toInt := congrArg Int32.toInt (hfad_798 2 (by decide))
                    have hE3d_798 : (d_798.1 h0 3).toInt = (d_1.1 h0 3).toInt := congrArg Int32.toInt (hfad_798 3 (by decide))
                    have hE63d_798 : (d_798.1 h0 63).toInt = (d_1.1 h0 63).toInt := congrArg Int32.toInt (hfad_798 63 (by decide))
                    have hId_798 : yMI S d_798 h0 := yMI.ag hId_1 hSh hm_h0 hk_h0 hgad_798 hfad_798 (by decide) (by decide)
                    have hgd_798 : yAg S [9, 34, 35, 36, 37, 38, 39, 40, 69] d d_798 := yAg.tr hgd_1 hgad_798 (by first | decide | exact fun _ h => h)
                    have hPod_798 : yPo S d_798 := hpad_798 hPod_1
                    refine lv_pop hx hb dX9_term_174 rfl ?_
                    refine lv_iconst (v := 0) hx hb dX9_term_175 (by decide) ?_
                    have hCC_799 := yMI.c hId_798
                    have F_800 := fnlt (rfl : (p2 : Int32).toInt = (p2 : Int32).toInt) (by decide +kernel : (0 : Int32).toInt = 0) c_3
                    have F_801 := fnlt (by decide +kernel : (4 : Int32).toInt = 4) (rfl : (p2 : Int32).toInt = (p2 : Int32).toInt) c_118
                    have F_802 := fnlt (rfl : (p3 : Int32).toInt = (p3 : Int32).toInt) (by decide +kernel : (0 : Int32).toInt = 0) c_241
                    have F_803 := fle (rfl : (p3 : Int32).toInt = (p3 : Int32).toInt) (by decide +kernel : (4 : Int32).toInt = 4) c_372
                    have F_804 := fne (rfl : (p3 : Int32).toInt = (p3 : Int32).toInt) (by decide +kernel : (1 : Int32).toInt = 1) c_373
                    have F_805 := feq (rfl : (p3 : Int32).toInt = (p3 : Int32).toInt) (by decide +kernel : (3 : Int32).toInt = 3) c_374
                    have F_806 := feq (by decide +kernel : (0 : Int32).toInt = 0) (by decide +kernel : (0 : Int32).toInt = 0) c_563
                    have F_807 := fnlt (rfl : (p4 : Int32).toInt = (p4 : Int32).toInt) (by decide +kernel : (0 : Int32).toInt = 0) c_564
                    have F_808 := fnle (rfl : (p4 : Int32).toInt = (p4 : Int32).toInt) (by decide +kernel : (4 : Int32).toInt = 4) c_600
                    have F_809 := fne (rfl : (p3 : Int32).toInt = (p3 : Int32).toInt) (by decide +kernel : (4 : Int32).toInt = 4) c_794
                    have F_810 := fne (by decide +kernel : (1 : Int32).toInt = 1) (by decide +kernel : (0 : Int32).toInt = 0) c_795
                    have F_811 := fne (by decide +kernel : (1 : Int32).toInt = 1) (by decide +kernel : (0 : Int32).toInt = 0) c_796
                    exact W.zret (v := 0) (ty := .boolean) hx hb hr rfl (fun t ht hW => ⟨⟨0, d_798, rfl, ⟨hgd_798, (fun _ => hPod_798), hfd_798, ⟨hId_798, Or.inl ⟨by have h0_ : (0 : Int32).toInt = 0 := (by decide +kernel); omega, by omega, (zTr.ag (zTr.ag zTr.rf hSh hm_h0 hk_h0 hsd_1 (by decide)) hSh hm_h0 hk_h0 hgad_798 (by decide))⟩⟩⟩, by rw [ht]; exact hP, hD⟩, hS.F ht⟩) hS.2.2 dX9_term_176
                  · refine lv_iload hx hb dX9_term_119 (lv_at hl 0 rfl) ?_
                    refine lv_if_ne (tgt := 148) hx hb dX9_term_121 (by decide) (fun c_812 => ?_) (fun c_812 => absurd c_812 (by decide +kernel))
                    refine lv_iconst (v := 1) hx hb dX9_term_148 (by decide) ?_
                    refine lv_goto (tgt := 153) hx hb dX9_term_149 (by decide) ?_
                    refine lv_istore (lv' := [(8, .int 1), (7, .int r_2), (0, .ref h0), (1, .int p0), (2, .int p1), (3, .int p2), (4, .int p3), (5, .int p4), (6, .int p5)]) hx hb dX9_term_153 hl (by decide) rfl (fun ls hl => ?_)
                    refine lv_iload hx hb dX9_term_155 (lv_at hl 0 rfl) ?_
                    refine lv_if_eq (tgt := 163) hx hb dX9_term_157 (by decide) (fun c_813 => absurd c_813 (by decide +kernel)) (fun c_813 => ?_)
                    refine lv_iconst (v := 1) hx hb dX9_term_160 (by decide) ?_
                    refine lv_istore (lv' := [(7, .int 1), (8, .int 1), (0, .ref h0), (1, .int p0), (2, .int p1), (3, .int p2), (4, .int p3), (5, .int p4), (6, .int p5)]) hx hb dX9_term_161 hl (by decide) rfl (fun ls hl => ?_)
                    refine lv_iload hx hb dX9_term_163 (lv_at hl 0 rfl) ?_
                    refine lv_if_eq (tgt := 177) hx hb dX9_term_165 (by decide) (fun c_814 => absurd c_814 (by decide +kernel)) (fun c_814 => ?_)
                    refine lv_aload_n hx hb dX9_term_168 rfl (lv_at hl 2 rfl) ?_
                    refine lv_iload hx hb dX9_term_169 (lv_at hl 0 rfl) ?_
                    refine yVwi (As := [.int 1]) (rest := []) C0 (g_X9_no l G S d_1 h0 1 hSh hPod_1 hm_h0 hk_h0 (by decide +kernel)) ok_X9_no (mW177 : Cond.methodLink RX9 168 yX9_no ∈ wsT) ⟨Nat.le_of_ble_eq_true rfl, Nat.le_of_ble_eq_true rfl⟩ hP hD hS hA hK hN hm_h0 hk_h0 (by decide) rfl rfl rfl hl.1 rfl (Nat.le_of_ble_eq_true rfl) ⟨Nat.le_of_ble_eq_true rfl, Nat.le_of_ble_eq_true rfl⟩ dX9_term_171 (fun r_815 d_816 H locs hr_815 hP hD hS => ?_)
                    obtain ⟨hgad_816, hpad_816, hfad_816, hxd_816⟩ := hr_815
                    have hfd_816 : yK [38] d d_816 h0 := yK.tr hfd_1 hfad_816 (by decide)
                    have hE0d_816 : (d_816.1 h0 0).toInt = (d_1.1 h0 0).toInt := congrArg Int32.toInt (hfad_816 0 (by decide))
                    have hE1d_816 : (d_816.1 h0 1).toInt = (d_1.1 h0 1).toInt := congrArg Int32.toInt (hfad_816 1 (by decide))
                    have hE2d_816 : (d_816.1 h0 2).toInt = (d_1.1 h0 2).toInt := congrArg Int32.toInt (hfad_816 2 (by decide))
                    have hE3d_816 : (d_816.1 h0 3).toInt = (d_1.1 h0 3).toInt := congrArg Int32.toInt (hfad_816 3 (by decide))
                    have hE63d_816 : (d_816.1 h0 63).toInt = (d_1.1 h0 63).toInt := congrArg Int32.toInt (hfad_816 63 (by decide))
                    have hId_816 : yMI S d_816 h0 := yMI.ag hId_1 hSh hm_h0 hk_h0 hgad_816 hfad_816 (by decide) (by decide)
                    have hgd_816 : yAg S [9, 34, 35, 36, 37, 38, 39, 40, 69] d d_816 := yAg.tr hgd_1 hgad_816 (by first | decide | exact fun _ h => h)
                    have hPod_816 : yPo S d_816 := hpad_816 hPod_1
                    refine lv_pop hx hb dX9_term_174 rfl ?_
                    refine lv_iconst (v := 0) hx hb dX9_term_175 (by decide) ?_
                    have hCC_817 := yMI.c hId_816
                    have F_818 := fnlt (rfl : (p2 : Int32).toInt = (p2 : Int32).toInt) (by decide +kernel : (0 : Int32).toInt = 0) c_3
                    have F_819 := fnlt (by decide +kernel : (4 : Int32).toInt = 4) (rfl : (p2 : Int32).toInt = (p2 : Int32).toInt) c_118
                    have F_820 := fnlt (rfl : (p3 : Int32).toInt = (p3 : Int32).toInt) (by decide +kernel : (0 : Int32).toInt = 0) c_241
                    have F_821 := fle (rfl : (p3 : Int32).toInt = (p3 : Int32).toInt) (by decide +kernel : (4 : Int32).toInt = 4) c_372
                    have F_822 := fne (rfl : (p3 : Int32).toInt = (p3 : Int32).toInt) (by decide +kernel : (1 : Int32).toInt = 1) c_373
                    have F_823 := feq (rfl : (p3 : Int32).toInt = (p3 : Int32).toInt) (by decide +kernel : (3 : Int32).toInt = 3) c_374
                    have F_824 := feq (by decide +kernel : (0 : Int32).toInt = 0) (by decide +kernel : (0 : Int32).toInt = 0) c_563
                    have F_825 := fnlt (rfl : (p4 : Int32).toInt = (p4 : Int32).toInt) (by decide +kernel : (0 : Int32).toInt = 0) c_564
                    have F_826 := fnle (rfl : (p4 : Int32).toInt = (p4 : Int32).toInt) (by decide +kernel : (4 : Int32).toInt = 4) c_600
                    have F_827 := feq (rfl : (p3 : Int32).toInt = (p3 : Int32).toInt) (by decide +kernel : (4 : Int32).toInt = 4) c_794
                    have F_828 := fne (by decide +kernel : (1 : Int32).toInt = 1) (by decide +kernel : (0 : Int32).toInt = 0) c_812
                    have F_829 := fne (by decide +kernel : (1 : Int32).toInt = 1) (by decide +kernel : (0 : Int32).toInt = 0) c_813
                    have F_830 := fne (by decide +kernel : (1 : Int32).toInt = 1) (by decide +kernel : (0 : Int32).toInt = 0) c_814
                    exact W.zret (v := 0) (ty := .boolean) hx hb hr rfl (fun t ht hW => ⟨⟨0, d_816, rfl, ⟨hgd_816, (fun _ => hPod_816), hfd_816, ⟨hId_816, Or.inl ⟨by have h0_ : (0 : Int32).toInt = 0 := (by decide +kernel); omega, by omega, (zTr.ag (zTr.ag zTr.rf hSh hm_h0 hk_h0 hsd_1 (by decide)) hSh hm_h0 hk_h0 hgad_816 (by decide))⟩⟩⟩, by rw [ht]; exact hP, hD⟩, hS.F ht⟩) hS.2.2 dX9_term_176
          · refine lv_iload hx hb dX9_term_46 (lv_at hl 0 rfl) ?_
            refine lv_if_ne (tgt := 77) hx hb dX9_term_48 (by decide) (fun c_831 => absurd c_831 (by decide +kernel)) (fun c_831 => ?_)
            refine lv_iload hx hb dX9_term_51 (lv_at hl 7 rfl) ?_
            refine lv_if_lt (tgt := 77) hx hb dX9_term_53 (by decide) (fun c_832 => ?_) (fun c_832 => ?_)
            · refine lv_iconst (v := 1) hx hb dX9_term_77 (by decide) ?_
              refine lv_goto (tgt := 82) hx hb dX9_term_78 (by decide) ?_
              refine lv_istore (lv' := [(8, .int 1), (7, .int r_2), (0, .ref h0), (1, .int p0), (2, .int p1), (3, .int p2), (4, .int p3), (5, .int p4), (6, .int p5)]) hx hb dX9_term_82 hl (by decide) rfl (fun ls hl => ?_)
              refine lv_iload hx hb dX9_term_84 (lv_at hl 6 rfl) ?_
              refine lv_iconst (v := 3) hx hb dX9_term_86 (by decide) ?_
              refine lv_icmp_ne (tgt := 113) hx hb dX9_term_87 (by decide) (fun c_833 => ?_) (fun c_833 => ?_)
              · refine lv_iload hx hb dX9_term_113 (lv_at hl 6 rfl) ?_
                refine lv_iconst (v := 4) hx hb dX9_term_115 (by decide) ?_
                refine lv_icmp_ne (tgt := 155) hx hb dX9_term_116 (by decide) (fun c_834 => ?_) (fun c_834 => ?_)
                · refine lv_iload hx hb dX9_term_155 (lv_at hl 0 rfl) ?_
                  refine lv_if_eq (tgt := 163) hx hb dX9_term_157 (by decide) (fun c_835 => absurd c_835 (by decide +kernel)) (fun c_835 => ?_)
                  refine lv_iconst (v := 1) hx hb dX9_term_160 (by decide) ?_
                  refine lv_istore (lv' := [(7, .int 1), (8, .int 1), (0, .ref h0), (1, .int p0), (2, .int p1), (3, .int p2), (4, .int p3), (5, .int p4), (6, .int p5)]) hx hb dX9_term_161 hl (by decide) rfl (fun ls hl => ?_)
                  refine lv_iload hx hb dX9_term_163 (lv_at hl 0 rfl) ?_
                  refine lv_if_eq (tgt := 177) hx hb dX9_term_165 (by decide) (fun c_836 => absurd c_836 (by decide +kernel)) (fun c_836 => ?_)
                  refine lv_aload_n hx hb dX9_term_168 rfl (lv_at hl 2 rfl) ?_
                  refine lv_iload hx hb dX9_term_169 (lv_at hl 0 rfl) ?_
                  refine yVwi (As := [.int 1]) (rest := []) C0 (g_X9_no l G S d_1 h0 1 hSh hPod_1 hm_h0 hk_h0 (by decide +kernel)) ok_X9_no (mW177 : Cond.methodLink RX9 168 yX9_no ∈ wsT) ⟨Nat.le_of_ble_eq_true rfl, Nat.le_of_ble_eq_true rfl⟩ hP hD hS hA hK hN hm_h0 hk_h0 (by decide) rfl rfl rfl hl.1 rfl (Nat.le_of_ble_eq_true rfl) ⟨Nat.le_of_ble_eq_true rfl, Nat.le_of_ble_eq_true rfl⟩ dX9_term_171 (fun r_837 d_838 H locs hr_837 hP hD hS => ?_)
                  obtain ⟨hgad_838, hpad_838, hfad_838, hxd_838⟩ := hr_837
                  have hfd_838 : yK [38] d d_838 h0 := yK.tr hfd_1 hfad_838 (by decide)
                  have hE0d_838 : (d_838.1 h0 0).toInt = (d_1.1 h0 0).toInt := congrArg Int32.toInt (hfad_838 0 (by decide))
                  have hE1d_838 : (d_838.1 h0 1).toInt = (d_1.1 h0 1).toInt := congrArg Int32.toInt (hfad_838 1 (by decide))
                  have hE2d_838 : (d_838.1 h0 2).toInt = (d_1.1 h0 2).toInt := congrArg Int32.toInt (hfad_838 2 (by decide))
                  have hE3d_838 : (d_838.1 h0 3).toInt = (d_1.1 h0 3).toInt := congrArg Int32.toInt (hfad_838 3 (by decide))
                  have hE63d_838 : (d_838.1 h0 63).toInt = (d_1.1 h0 63).toInt := congrArg Int32.toInt (hfad_838 63 (by decide))
                  have hId_838 : yMI S d_838 h0 := yMI.ag hId_1 hSh hm_h0 hk_h0 hgad_838 hfad_838 (by decide) (by decide)
                  have hgd_838 : yAg S [9, 34, 35, 36, 37, 38, 39, 40, 69] d d_838 := yAg.tr hgd_1 hgad_838 (by first | decide | exact fun _ h => h)
                  have hPod_838 : yPo S d_838 := hpad_838 hPod_1
                  refine lv_pop hx hb dX9_term_174 rfl ?_
                  refine lv_iconst (v := 0) hx hb dX9_term_175 (by decide) ?_
                  have hCC_839 := yMI.c hId_838
                  have F_840 := fnlt (rfl : (p2 : Int32).toInt = (p2 : Int32).toInt) (by decide +kernel : (0 : Int32).toInt = 0) c_3
                  have F_841 := fnlt (by decide +kernel : (4 : Int32).toInt = 4) (rfl : (p2 : Int32).toInt = (p2 : Int32).toInt) c_118
                  have F_842 := fnlt (rfl : (p3 : Int32).toInt = (p3 : Int32).toInt) (by decide +kernel : (0 : Int32).toInt = 0) c_241
                  have F_843 := fle (rfl : (p3 : Int32).toInt = (p3 : Int32).toInt) (by decide +kernel : (4 : Int32).toInt = 4) c_372
                  have F_844 := feq (rfl : (p3 : Int32).toInt = (p3 : Int32).toInt) (by decide +kernel : (1 : Int32).toInt = 1) c_373
                  have F_845 := feq (by decide +kernel : (0 : Int32).toInt = 0) (by decide +kernel : (0 : Int32).toInt = 0) c_831
                  have F_846 := flt (rfl : (p4 : Int32).toInt = (p4 : Int32).toInt) (by decide +kernel : (0 : Int32).toInt = 0) c_832
                  have F_847 := fne (rfl : (p3 : Int32).toInt = (p3 : Int32).toInt) (by decide +kernel : (3 : Int32).toInt = 3) c_833
                  have F_848 := fne (rfl : (p3 : Int32).toInt = (p3 : Int32).toInt) (by decide +kernel : (4 : Int32).toInt = 4) c_834
                  have F_849 := fne (by decide +kernel : (1 : Int32).toInt = 1) (by decide +kernel : (0 : Int32).toInt = 0) c_835
                  have F_850 := fne (by decide +kernel : (1 : Int32).toInt = 1) (by decide +kernel : (0 : Int32).toInt = 0) c_836
                  exact W.zret (v := 0) (ty := .boolean) hx hb hr rfl (fun t ht hW => ⟨⟨0, d_838, rfl, ⟨hgd_838, (fun _ => hPod_838), hfd_838, ⟨hId_838, Or.inl ⟨by have h0_ : (0 : Int32).toInt = 0 := (by decide +kernel); omega, by omega, (zTr.ag (zTr.ag zTr.rf hSh hm_h0 hk_h0 hsd_1 (by decide)) hSh hm_h0 hk_h0 hgad_838 (by decide))⟩⟩⟩, by rw [ht]; exact hP, hD⟩, hS.F ht⟩) hS.2.2 dX9_term_176
                · refine lv_iload hx hb dX9_term_119 (lv_at hl 0 rfl) ?_
                  refine lv_if_ne (tgt := 148) hx hb dX9_term_121 (by decide) (fun c_851 => ?_) (fun c_851 => absurd c_851 (by decide +kernel))
                  refine lv_iconst (v := 1) hx hb dX9_term_148 (by decide) ?_
                  refine lv_goto (tgt := 153) hx hb dX9_term_149 (by decide) ?_
                  refine lv_istore (lv' := [(8, .int 1), (7, .int r_2), (0, .ref h0), (1, .int p0), (2, .int p1), (3, .int p2), (4, .int p3), (5, .int p4), (6, .int p5)]) hx hb dX9_term_153 hl (by decide) rfl (fun ls hl => ?_)
                  refine lv_iload hx hb dX9_term_155 (lv_at hl 0 rfl) ?_
                  refine lv_if_eq (tgt := 163) hx hb dX9_term_157 (by decide) (fun c_852 => absurd c_852 (by decide +kernel)) (fun c_852 => ?_)
                  refine lv_iconst (v := 1) hx hb dX9_term_160 (by decide) ?_
                  refine lv_istore (lv' := [(7, .int 1), (8, .int 1), (0, .ref h0), (1, .int p0), (2, .int p1), (3, .int p2), (4, .int p3), (5, .int p4), (6, .int p5)]) hx hb dX9_term_161 hl (by decide) rfl (fun ls hl => ?_)
                  refine lv_iload hx hb dX9_term_163 (lv_at hl 0 rfl) ?_
                  refine lv_if_eq (tgt := 177) hx hb dX9_term_165 (by decide) (fun c_853 => absurd c_853 (by decide +kernel)) (fun c_853 => ?_)
                  refine lv_aload_n hx hb dX9_term_168 rfl (lv_at hl 2 rfl) ?_
                  refine lv_iload hx hb dX9_term_169 (lv_at hl 0 rfl) ?_
                  refine yVwi (As := [.int 1]) (rest := []) C0 (g_X9_no l G S d_1 h0 1 hSh hPod_1 hm_h0 hk_h0 (by decide +kernel)) ok_X9_no (mW177 : Cond.methodLink RX9 168 yX9_no ∈ wsT) ⟨Nat.le_of_ble_eq_true rfl, Nat.le_of_ble_eq_true rfl⟩ hP hD hS hA hK hN hm_h0 hk_h0 (by decide) rfl rfl rfl hl.1 rfl (Nat.le_of_ble_eq_true rfl) ⟨Nat.le_of_ble_eq_true rfl, Nat.le_of_ble_eq_true rfl⟩ dX9_term_171 (fun r_854 d_855 H locs hr_854 hP hD hS => ?_)
                  obtain ⟨hgad_855, hpad_855, hfad_855, hxd_855⟩ := hr_854
                  have hfd_855 : yK [38] d d_855 h0 := yK.tr hfd_1 hfad_855 (by decide)
                  have hE0d_855 : (d_855.1 h0 0).toInt = (d_1.1 h0 0).toInt := congrArg Int32.toInt (hfad_855 0 (by decide))
                  have hE1d_855 : (d_855.1 h0 1).toInt = (d_1.1 h0 1).toInt := congrArg Int32.toInt (hfad_855 1 (by decide))
                  have hE2d_855 : (d_855.1 h0 2).toInt = (d_1.1 h0 2).toInt := congrArg Int32.toInt (hfad_855 2 (by decide))
                  have hE3d_855 : (d_855.1 h0 3).toInt = (d_1.1 h0 3).toInt := congrArg Int32.toInt (hfad_855 3 (by decide))
                  have hE63d_855 : (d_855.1 h0 63).toInt = (d_1.1 h0 63).toInt := congrArg Int32.toInt (hfad_855 63 (by decide))
                  have hId_855 : yMI S d_855 h0 := yMI.ag hId_1 hSh hm_h0 hk_h0 hgad_855 hfad_855 (by decide) (by decide)
                  have hgd_855 : yAg S [9, 34, 35, 36, 37, 38, 39, 40, 69] d d_855 := yAg.tr hgd_1 hgad_855 (by first | decide | exact fun _ h => h)
                  have hPod_855 : yPo S d_855 := hpad_855 hPod_1
                  refine lv_pop hx hb dX9_term_174 rfl ?_
                  refine lv_iconst (v := 0) hx hb dX9_term_175 (by decide) ?_
                  have hCC_856 := yMI.c hId_855
                  have F_857 := fnlt (rfl : (p2 : Int32).toInt = (p2 : Int32).toInt) (by decide +kernel : (0 : Int32).toInt = 0) c_3
                  have F_858 := fnlt (by decide +kernel : (4 : Int32).toInt = 4) (rfl : (p2 : Int32).toInt = (p2 : Int32).toInt) c_118
                  have F_859 := fnlt (rfl : (p3 : Int32).toInt = (p3 : Int32).toInt) (by decide +kernel : (0 : Int32).toInt = 0) c_241
                  have F_860 := fle (rfl : (p3 : Int32).toInt = (p3 : Int32).toInt) (by decide +kernel : (4 : Int32).toInt = 4) c_372
                  have F_861 := feq (rfl : (p3 : Int32).toInt = (p3 : Int32).toInt) (by decide +kernel : (1 : Int32).toInt = 1) c_373
                  have F_862 := feq (by decide +kernel : (0 : Int32).toInt = 0) (by decide +kernel : (0 : Int32).toInt = 0) c_831
                  have F_863 := flt (rfl : (p4 : Int32).toInt = (p4 : Int32).toInt) (by decide +kernel : (0 : Int32).toInt = 0) c_832
                  have F_864 := fne (rfl : (p3 : Int32).toInt = (p3 : Int32).toInt) (by decide +kernel : (3 : Int32).toInt = 3) c_833
                  have F_865 := feq (rfl : (p3 : Int32).toInt = (p3 : Int32).toInt) (by decide +kernel : (4 : Int32).toInt = 4) c_834
                  have F_866 := fne (by decide +kernel : (1 : Int32).toInt = 1) (by decide +kernel : (0 : Int32).toInt = 0) c_851
                  have F_867 := fne (by decide +kernel : (1 : Int32).toInt = 1) (by decide +kernel : (0 : Int32).toInt = 0) c_852
                  have F_868 := fne (by decide +kernel : (1 : Int32).toInt = 1) (by decide +kernel : (0 : Int32).toInt = 0) c_853
                  exact W.zret (v := 0) (ty := .boolean) hx hb hr rfl (fun t ht hW => ⟨⟨0, d_855, rfl, ⟨hgd_855, (fun _ => hPod_855), hfd_855, ⟨hId_855, Or.inl ⟨by have h0_ : (0 : Int32).toInt = 0 := (by decide +kernel); omega, by omega, (zTr.ag (zTr.ag zTr.rf hSh hm_h0 hk_h0 hsd_1 (by decide)) hSh hm_h0 hk_h0 hgad_855 (by decide))⟩⟩⟩, by rw [ht]; exact hP, hD⟩, hS.F ht⟩) hS.2.2 dX9_term_176
              · refine lv_iload hx hb dX9_term_90 (lv_at hl 0 rfl) ?_
                refine lv_if_ne (tgt := 106) hx hb dX9_term_92 (by decide) (fun c_869 => ?_) (fun c_869 => absurd c_869 (by decide +kernel))
                refine lv_iconst (v := 1) hx hb dX9_term_106 (by decide) ?_
                refine lv_goto (tgt := 111) hx hb dX9_term_107 (by decide) ?_
                refine lv_istore (lv' := [(8, .int 1), (7, .int r_2), (0, .ref h0), (1, .int p0), (2, .int p1), (3, .int p2), (4, .int p3), (5, .int p4), (6, .int p5)]) hx hb dX9_term_111 hl (by decide) rfl (fun ls hl => ?_)
                refine lv_iload hx hb dX9_term_113 (lv_at hl 6 rfl) ?_
                refine lv_iconst (v := 4) hx hb dX9_term_115 (by decide) ?_
                refine lv_icmp_ne (tgt := 155) hx hb dX9_term_116 (by decide) (fun c_870 => ?_) (fun c_870 => ?_)
                · refine lv_iload hx hb dX9_term_155 (lv_at hl 0 rfl) ?_
                  refine lv_if_eq (tgt := 163) hx hb dX9_term_157 (by decide) (fun c_871 => absurd c_871 (by decide +kernel)) (fun c_871 => ?_)
                  refine lv_iconst (v := 1) hx hb dX9_term_160 (by decide) ?_
                  refine lv_istore (lv' := [(7, .int 1), (8, .int 1), (0, .ref h0), (1, .int p0), (2, .int p1), (3, .int p2), (4, .int p3), (5, .int p4), (6, .int p5)]) hx hb dX9_term_161 hl (by decide) rfl (fun ls hl => ?_)
                  refine lv_iload hx hb dX9_term_163 (lv_at hl 0 rfl) ?_
                  refine lv_if_eq (tgt := 177) hx hb dX9_term_165 (by decide) (fun c_872 => absurd c_872 (by decide +kernel)) (fun c_872 => ?_)
                  refine lv_aload_n hx hb dX9_term_168 rfl (lv_at hl 2 rfl) ?_
                  refine lv_iload hx hb dX9_term_169 (lv_at hl 0 rfl) ?_
                  refine yVwi (As := [.int 1]) (rest := []) C0 (g_X9_no l G S d_1 h0 1 hSh hPod_1 hm_h0 hk_h0 (by decide +kernel)) ok_X9_no (mW177 : Cond.methodLink RX9 168 yX9_no ∈ wsT) ⟨Nat.le_of_ble_eq_true rfl, Nat.le_of_ble_eq_true rfl⟩ hP hD hS hA hK hN hm_h0 hk_h0 (by decide) rfl rfl rfl hl.1 rfl (Nat.le_of_ble_eq_true rfl) ⟨Nat.le_of_ble_eq_true rfl, Nat.le_of_ble_eq_true rfl⟩ dX9_term_171 (fun r_873 d_874 H locs hr_873 hP hD hS => ?_)
                  obtain ⟨hgad_874, hpad_874, hfad_874, hxd_874⟩ := hr_873
                  have hfd_874 : yK [38] d d_874 h0 := yK.tr hfd_1 hfad_874 (by decide)
                  have hE0d_874 : (d_874.1 h0 0).toInt = (d_1.1 h0 0).toInt := congrArg Int32.toInt (hfad_874 0 (by decide))
                  have hE1d_874 : (d_874.1 h0 1).toInt = (d_1.1 h0 1).toInt := congrArg Int32.toInt (hfad_874 1 (by decide))
                  have hE2d_874 : (d_874.1 h0 2).toInt = (d_1.1 h0 2).toInt := congrArg Int32.toInt (hfad_874 2 (by decide))
                  have hE3d_874 : (d_874.1 h0 3).toInt = (d_1.1 h0 3).toInt := congrArg Int32.toInt (hfad_874 3 (by decide))
                  have hE63d_874 : (d_874.1 h0 63).toInt = (d_1.1 h0 63).toInt := congrArg Int32.toInt (hfad_874 63 (by decide))
                  have hId_874 : yMI S d_874 h0 := yMI.ag hId_1 hSh hm_h0 hk_h0 hgad_874 hfad_874 (by decide) (by decide)
                  have hgd_874 : yAg S [9, 34, 35, 36, 37, 38, 39, 40, 69] d d_874 := yAg.tr hgd_1 hgad_874 (by first | decide | exact fun _ h => h)
                  have hPod_874 : yPo S d_874 := hpad_874 hPod_1
                  refine lv_pop hx hb dX9_term_174 rfl ?_
                  refine lv_iconst (v := 0) hx hb dX9_term_175 (by decide) ?_
                  have hCC_875 := yMI.c hId_874
                  have F_876 := fnlt (rfl : (p2 : Int32).toInt = (p2 : Int32).toInt) (by decide +kernel : (0 : Int32).toInt = 0) c_3
                  have F_877 := fnlt (by decide +kernel : (4 : Int32).toInt = 4) (rfl : (p2 : Int32).toInt = (p2 : Int32).toInt) c_118
                  have F_878 := fnlt (rfl : (p3 : Int32).toInt = (p3 : Int32).toInt) (by decide +kernel : (0 : Int32).toInt = 0) c_241
                  have F_879 := fle (rfl : (p3 : Int32).toInt = (p3 : Int32).toInt) (by decide +kernel : (4 : Int32).toInt = 4) c_372
                  have F_880 := feq (rfl : (p3 : Int32).toInt = (p3 : Int32).toInt) (by decide +kernel : (1 : Int32).toInt = 1) c_373
                  have F_881 := feq (by decide +kernel : (0 : Int32).toInt = 0) (by decide +kernel : (0 : Int32).toInt = 0) c_831
                  have F_882 := flt (rfl : (p4 : Int32).toInt = (p4 : Int32).toInt) (by decide +kernel : (0 : Int32).toInt = 0) c_832
                  have F_883 := feq (rfl : (p3 : Int32).toInt = (p3 : Int32).toInt) (by decide +kernel : (3 : Int32).toInt = 3) c_833
                  have F_884 := fne (by decide +kernel : (1 : Int32).toInt = 1) (by decide +kernel : (0 : Int32).toInt = 0) c_869
                  have F_885 := fne (rfl : (p3 : Int32).toInt = (p3 : Int32).toInt) (by decide +kernel : (4 : Int32).toInt = 4) c_870
                  have F_886 := fne (by decide +kernel : (1 : Int32).toInt = 1) (by decide +kernel : (0 : Int32).toInt = 0) c_871
                  have F_887 := fne (by decide +kernel : (1 : Int32).toInt = 1) (by decide +kernel : (0 : Int32).toInt = 0) c_872
                  exact W.zret (v := 0) (ty := .boolean) hx hb hr rfl (fun t ht hW => ⟨⟨0, d_874, rfl, ⟨hgd_874, (fun _ => hPod_874), hfd_874, ⟨hId_874, Or.inl ⟨by have h0_ : (0 : Int32).toInt = 0 := (by decide +kernel); omega, by omega, (zTr.ag (zTr.ag zTr.rf hSh hm_h0 hk_h0 hsd_1 (by decide)) hSh hm_h0 hk_h0 hgad_874 (by decide))⟩⟩⟩, by rw [ht]; exact hP, hD⟩, hS.F ht⟩) hS.2.2 dX9_term_176
                · refine lv_iload hx hb dX9_term_119 (lv_at hl 0 rfl) ?_
                  refine lv_if_ne (tgt := 148) hx hb dX9_term_121 (by decide) (fun c_888 => ?_) (fun c_888 => absurd c_888 (by decide +kernel))
                  refine lv_iconst (v := 1) hx hb dX9_term_148 (by decide) ?_
                  refine lv_goto (tgt := 153) hx hb dX9_term_149 (by decide) ?_
                  refine lv_istore (lv' := [(8, .int 1), (7, .int r_2), (0, .ref h0), (1, .int p0), (2, .int p1), (3, .int p2), (4, .int p3), (5, .int p4), (6, .int p5)]) hx hb dX9_term_153 hl (by decide) rfl (fun ls hl => ?_)
                  refine lv_iload hx hb dX9_term_155 (lv_at hl 0 rfl) ?_
                  refine lv_if_eq (tgt := 163) hx hb dX9_term_157 (by decide) (fun c_889 => absurd c_889 (by decide +kernel)) (fun c_889 => ?_)
                  refine lv_iconst (v := 1) hx hb dX9_term_160 (by decide) ?_
                  refine lv_istore (lv' := [(7, .int 1), (8, .int 1), (0, .ref h0), (1, .int p0), (2, .int p1), (3, .int p2), (4, .int p3), (5, .int p4), (6, .int p5)]) hx hb dX9_term_161 hl (by decide) rfl (fun ls hl => ?_)
                  refine lv_iload hx hb dX9_term_163 (lv_at hl 0 rfl) ?_
                  refine lv_if_eq (tgt := 177) hx hb dX9_term_165 (by decide) (fun c_890 => absurd c_890 (by decide +kernel)) (fun c_890 => ?_)
                  refine lv_aload_n hx hb dX9_term_168 rfl (lv_at hl 2 rfl) ?_
                  refine lv_iload hx hb dX9_term_169 (lv_at hl 0 rfl) ?_
                  refine yVwi (As := [.int 1]) (rest := []) C0 (g_X9_no l G S d_1 h0 1 hSh hPod_1 hm_h0 hk_h0 (by decide +kernel)) ok_X9_no (mW177 : Cond.methodLink RX9 168 yX9_no ∈ wsT) ⟨Nat.le_of_ble_eq_true rfl, Nat.le_of_ble_eq_true rfl⟩ hP hD hS hA hK hN hm_h0 hk_h0 (by decide) rfl rfl rfl hl.1 rfl (Nat.le_of_ble_eq_true rfl) ⟨Nat.le_of_ble_eq_true rfl, Nat.le_of_ble_eq_true rfl⟩ dX9_term_171 (fun r_891 d_892 H locs hr_891 hP hD hS => ?_)
                  obtain ⟨hgad_892, hpad_892, hfad_892, hxd_892⟩ := hr_891
                  have hfd_892 : yK [38] d d_892 h0 := yK.tr hfd_1 hfad_892 (by decide)
                  have hE0d_892 : (d_892.1 h0 0).toInt = (d_1.1 h0 0).toInt := congrArg Int32.toInt (hfad_892 0 (by decide))
                  have hE1d_892 : (d_892.1 h0 1).toInt = (d_1.1 h0 1).toInt := congrArg Int32.toInt (hfad_892 1 (by decide))
                  have hE2d_892 : (d_892.1 h0 2).toInt = (d_1.1 h0 2).toInt := congrArg Int32.toInt (hfad_892 2 (by decide))
                  have hE3d_892 : (d_892.1 h0 3).toInt = (d_1.1 h0 3).toInt := congrArg Int32.toInt (hfad_892 3 (by decide))
                  have hE63d_892 : (d_892.1 h0 63).toInt = (d_1.1 h0 63).toInt := congrArg Int32.toInt (hfad_892 63 (by decide))
                  have hId_892 : yMI S d_892 h0 := yMI.ag hId_1 hSh hm_h0 hk_h0 hgad_892 hfad_892 (by decide) (by decide)
                  have hgd_892 : yAg S [9, 34, 35, 36, 37, 38, 39, 40, 69] d d_892 := yAg.tr hgd_1 hgad_892 (by first | decide | exact fun _ h => h)
                  have hPod_892 : yPo S d_892 := hpad_892 hPod_1
                  refine lv_pop hx hb dX9_term_174 rfl ?_
                  refine lv_iconst (v := 0) hx hb dX9_term_175 (by decide) ?_
                  have hCC_893 := yMI.c hId_892
                  have F_894 := fnlt (rfl : (p2 : Int32).toInt = (p2 : Int32).toInt) (by decide +kernel : (0 : Int32).toInt = 0) c_3
                  have F_895 := fnlt (by decide +kernel : (4 : Int32).toInt = 4) (rfl : (p2 : Int32).toInt = (p2 : Int32).toInt) c_118
                  have F_896 := fnlt (rfl : (p3 : Int32).toInt = (p3 : Int32).toInt) (by decide +kernel : (0 : Int32).toInt = 0) c_241
                  have F_897 := fle (rfl : (p3 : Int32).toInt = (p3 : Int32).toInt) (by decide +kernel : (4 : Int32).toInt = 4) c_372
                  have F_898 := feq (rfl : (p3 : Int32).toInt = (p3 : Int32).toInt) (by decide +kernel : (1 : Int32).toInt = 1) c_373
                  have F_899 := feq (by decide +kernel : (0 : Int32).toInt = 0) (by decide +kernel : (0 : Int32).toInt = 0) c_831
                  have F_900 := flt (rfl : (p4 : Int32).toInt = (p4 : Int32).toInt) (by decide +kernel : (0 : Int32).toInt = 0) c_832
                  have F_901 := feq (rfl : (p3 : Int32).toInt = (p3 : Int32).toInt) (by decide +kernel : (3 : Int32).toInt = 3) c_833
                  have F_902 := fne (by decide +kernel : (1 : Int32).toInt = 1) (by decide +kernel : (0 : Int32).toInt = 0) c_869
                  have F_903 := feq (rfl : (p3 : Int32).toInt = (p3 : Int32).toInt) (by decide +kernel : (4 : Int32).toInt = 4) c_870
                  have F_904 := fne (by decide +kernel : (1 : Int32).toInt = 1) (by decide +kernel : (0 : Int32).toInt = 0) c_888
                  have F_905 := fne (by decide +kernel : (1 : Int32).toInt = 1) (by decide +kernel : (0 : Int32).toInt = 0) c_889
                  have F_906 := fne (by decide +kernel : (1 : Int32).toInt = 1) (by decide +kernel : (0 : Int32).toInt = 0) c_890
                  exact W.zret (v := 0) (ty := .boolean) hx hb hr rfl (fun t ht hW => ⟨⟨0, d_892, rfl, ⟨hgd_892, (fun _ => hPod_892), hfd_892, ⟨hId_892, Or.inl ⟨by have h0_ : (0 : Int32).toInt = 0 := (by decide +kernel); omega, by omega, (zTr.ag (zTr.ag zTr.rf hSh hm_h0 hk_h0 hsd_1 (by decide)) hSh hm_h0 hk_h0 hgad_892 (by decide))⟩⟩⟩, by rw [ht]; exact hP, hD⟩, hS.F ht⟩) hS.2.2 dX9_term_176
            · refine lv_iload hx hb dX9_term_56 (lv_at hl 7 rfl) ?_
              refine lv_sipush (v := 1440) hx hb dX9_term_58 (by decide) ?_
              refine lv_icmp_gt (tgt := 77) hx hb dX9_term_61 (by decide) (fun c_907 => ?_) (fun c_907 => ?_)
              · refine lv_iconst (v := 1) hx hb dX9_term_77 (by decide) ?_
                refine lv_goto (tgt := 82) hx hb dX9_term_78 (by decide) ?_
                refine lv_istore (lv' := [(8, .int 1), (7, .int r_2), (0, .ref h0), (1, .int p0), (2, .int p1), (3, .int p2), (4, .int p3), (5, .int p4), (6, .int p5)]) hx hb dX9_term_82 hl (by decide) rfl (fun ls hl => ?_)
                refine lv_iload hx hb dX9_term_84 (lv_at hl 6 rfl) ?_
                refine lv_iconst (v := 3) hx hb dX9_term_86 (by decide) ?_
                refine lv_icmp_ne (tgt := 113) hx hb dX9_term_87 (by decide) (fun c_908 => ?_) (fun c_908 => ?_)
                · refine lv_iload hx hb dX9_term_113 (lv_at hl 6 rfl) ?_
                  refine lv_iconst (v := 4) hx hb dX9_term_115 (by decide) ?_
                  refine lv_icmp_ne (tgt := 155) hx hb dX9_term_116 (by decide) (fun c_909 => ?_) (fun c_909 => ?_)
                  · refine lv_iload hx hb dX9_term_155 (lv_at hl 0 rfl) ?_
                    refine lv_if_eq (tgt := 163) hx hb dX9_term_157 (by decide) (fun c_910 => absurd c_910 (by decide +kernel)) (fun c_910 => ?_)
                    refine lv_iconst (v := 1) hx hb dX9_term_160 (by decide) ?_
                    refine lv_istore (lv' := [(7, .int 1), (8, .int 1), (0, .ref h0), (1, .int p0), (2, .int p1), (3, .int p2), (4, .int p3), (5, .int p4), (6, .int p5)]) hx hb dX9_term_161 hl (by decide) rfl (fun ls hl => ?_)
                    refine lv_iload hx hb dX9_term_163 (lv_at hl 0 rfl) ?_
                    refine lv_if_eq (tgt := 177) hx hb dX9_term_165 (by decide) (fun c_911 => absurd c_911 (by decide +kernel)) (fun c_911 => ?_)
                    refine lv_aload_n hx hb dX9_term_168 rfl (lv_at hl 2 rfl) ?_
                    refine lv_iload hx hb dX9_term_169 (lv_at hl 0 rfl) ?_
                    refine yVwi (As := [.int 1]) (rest := []) C0 (g_X9_no l G S d_1 h0 1 hSh hPod_1 hm_h0 hk_h0 (by decide +kernel)) ok_X9_no (mW177 : Cond.methodLink RX9 168 yX9_no ∈ wsT) ⟨Nat.le_of_ble_eq_true rfl, Nat.le_of_ble_eq_true rfl⟩ hP hD hS hA hK hN hm_h0 hk_h0 (by decide) rfl rfl rfl hl.1 rfl (Nat.le_of_ble_eq_true rfl) ⟨Nat.le_of_ble_eq_true rfl, Nat.le_of_ble_eq_true rfl⟩ dX9_term_171 (fun r_912 d_913 H locs hr_912 hP hD hS => ?_)
                    obtain ⟨hgad_913, hpad_913, hfad_913, hxd_913⟩ := hr_912
                    have hfd_913 : yK [38] d d_913 h0 := yK.tr hfd_1 hfad_913 (by decide)
                    have hE0d_913 : (d_913.1 h0 0).toInt = (d_1.1 h0 0).toInt := congrArg Int32.toInt (hfad_913 0 (by decide))
                    have hE1d_913 : (d_913.1 h0 1).toInt = (d_1.1 h0 1).toInt := congrArg Int32.toInt (hfad_913 1 (by decide))
                    have hE2d_913 : (d_913.1 h0 2).toInt = (d_1.1 h0 2).toInt := congrArg Int32.toInt (hfad_913 2 (by decide))
                    have hE3d_913 : (d_913.1 h0 3).toInt = (d_1.1 h0 3).toInt := congrArg Int32.toInt (hfad_913 3 (by decide))
                    have hE63d_913 : (d_913.1 h0 63).toInt = (d_1.1 h0 63).toInt := congrArg Int32.toInt (hfad_913 63 (by decide))
                    have hId_913 : yMI S d_913 h0 := yMI.ag hId_1 hSh hm_h0 hk_h0 hgad_913 hfad_913 (by decide) (by decide)
                    have hgd_913 : yAg S [9, 34, 35, 36, 37, 38, 39, 40, 69] d d_913 := yAg.tr hgd_1 hgad_913 (by first | decide | exact fun _ h => h)
                    have hPod_913 : yPo S d_913 := hpad_913 hPod_1
                    refine lv_pop hx hb dX9_term_174 rfl ?_
                    refine lv_iconst (v := 0) hx hb dX9_term_175 (by decide) ?_
                    have hCC_914 := yMI.c hId_913
                    have F_915 := fnlt (rfl : (p2 : Int32).toInt = (p2 : Int32).toInt) (by decide +kernel : (0 : Int32).toInt = 0) c_3
                    have F_916 := fnlt (by decide +kernel : (4 : Int32).toInt = 4) (rfl : (p2 : Int32).toInt = (p2 : Int32).toInt) c_118
                    have F_917 := fnlt (rfl : (p3 : Int32).toInt = (p3 : Int32).toInt) (by decide +kernel : (0 : Int32).toInt = 0) c_241
                    have F_918 := fle (rfl : (p3 : Int32).toInt = (p3 : Int32).toInt) (by decide +kernel : (4 : Int32).toInt = 4) c_372
                    have F_919 := feq (rfl : (p3 : Int32).toInt = (p3 : Int32).toInt) (by decide +kernel : (1 : Int32).toInt = 1) c_373
                    have F_920 := feq (by decide +kernel : (0 : Int32).toInt = 0) (by decide +kernel : (0 : Int32).toInt = 0) c_831
                    have F_921 := fnlt (rfl : (p4 : Int32).toInt = (p4 : Int32).toInt) (by decide +kernel : (0 : Int32).toInt = 0) c_832
                    have F_922 := flt (by decide +kernel : (1440 : Int32).toInt = 1440) (rfl : (p4 : Int32).toInt = (p4 : Int32).toInt) c_907
                    have F_923 := fne (rfl : (p3 : Int32).toInt = (p3 : Int32).toInt) (by decide +kernel : (3 : Int32).toInt = 3) c_908
                    have F_924 := fne (rfl : (p3 : Int32).toInt = (p3 : Int32).toInt) (by decide +kernel : (4 : Int32).toInt = 4) c_909
                    have F_925 := fne (by decide +kernel : (1 : Int32).toInt = 1) (by decide +kernel : (0 : Int32).toInt = 0) c_910
                    have F_926 := fne (by decide +kernel : (1 : Int32).toInt = 1) (by decide +kernel : (0 : Int32).toInt = 0) c_911
                    exact W.zret (v := 0) (ty := .boolean) hx hb hr rfl (fun t ht hW => ⟨⟨0, d_913, rfl, ⟨hgd_913, (fun _ => hPod_913), hfd_913, ⟨hId_913, Or.inl ⟨by have h0_ : (0 : Int32).toInt = 0 := (by decide +kernel); omega, by omega, (zTr.ag (zTr.ag zTr.rf hSh hm_h0 hk_h0 hsd_1 (by decide)) hSh hm_h0 hk_h0 hgad_913 (by decide))⟩⟩⟩, by rw [ht]; exact hP, hD⟩, hS.F ht⟩) hS.2.2 dX9_term_176
                  · refine lv_iload hx hb dX9_term_119 (lv_at hl 0 rfl) ?_
                    refine lv_if_ne (tgt := 148) hx hb dX9_term_121 (by decide) (fun c_927 => ?_) (fun c_927 => absurd c_927 (by decide +kernel))
                    refine lv_iconst (v := 1) hx hb dX9_term_148 (by decide) ?_
                    refine lv_goto (tgt := 153) hx hb dX9_term_149 (by decide) ?_
                    refine lv_istore (lv' := [(8, .int 1), (7, .int r_2), (0, .ref h0), (1, .int p0), (2, .int p1), (3, .int p2), (4, .int p3), (5, .int p4), (6, .int p5)]) hx hb dX9_term_153 hl (by decide) rfl (fun ls hl => ?_)
                    refine lv_iload hx hb dX9_term_155 (lv_at hl 0 rfl) ?_
                    refine lv_if_eq (tgt := 163) hx hb dX9_term_157 (by decide) (fun c_928 => absurd c_928 (by decide +kernel)) (fun c_928 => ?_)
                    refine lv_iconst (v := 1) hx hb dX9_term_160 (by decide) ?_
                    refine lv_istore (lv' := [(7, .int 1), (8, .int 1), (0, .ref h0), (1, .int p0), (2, .int p1), (3, .int p2), (4, .int p3), (5, .int p4), (6, .int p5)]) hx hb dX9_term_161 hl (by decide) rfl (fun ls hl => ?_)
                    refine lv_iload hx hb dX9_term_163 (lv_at hl 0 rfl) ?_
                    refine lv_if_eq (tgt := 177) hx hb dX9_term_165 (by decide) (fun c_929 => absurd c_929 (by decide +kernel)) (fun c_929 => ?_)
                    refine lv_aload_n hx hb dX9_term_168 rfl (lv_at hl 2 rfl) ?_
                    refine lv_iload hx hb dX9_term_169 (lv_at hl 0 rfl) ?_
                    refine yVwi (As := [.int 1]) (rest := []) C0 (g_X9_no l G S d_1 h0 1 hSh hPod_1 hm_h0 hk_h0 (by decide +kernel)) ok_X9_no (mW177 : Cond.methodLink RX9 168 yX9_no ∈ wsT) ⟨Nat.le_of_ble_eq_true rfl, Nat.le_of_ble_eq_true rfl⟩ hP hD hS hA hK hN hm_h0 hk_h0 (by decide) rfl rfl rfl hl.1 rfl (Nat.le_of_ble_eq_true rfl) ⟨Nat.le_of_ble_eq_true rfl, Nat.le_of_ble_eq_true rfl⟩ dX9_term_171 (fun r_930 d_931 H locs hr_930 hP hD hS => ?_)
                    obtain ⟨hgad_931, hpad_931, hfad_931, hxd_931⟩ := hr_930
                    have hfd_931 : yK [38] d d_931 h0 := yK.tr hfd_1 hfad_931 (by decide)
                    have hE0d_931 : (d_931.1 h0 0).toInt = (d_1.1 h0 0).toInt := congrArg Int32.toInt (hfad_931 0 (by decide))
                    have hE1d_931 : (d_931.1 h0 1).toInt = (d_1.1 h0 1).toInt := congrArg Int32.toInt (hfad_931 1 (by decide))
                    have hE2d_931 : (d_931.1 h0 2).toInt = (d_1.1 h0 2).toInt := congrArg Int32.toInt (hfad_931 2 (by decide))
                    have hE3d_931 : (d_931.1 h0 3).toInt = (d_1.1 h0 3).toInt := congrArg Int32.toInt (hfad_931 3 (by decide))
                    have hE63d_931 : (d_931.1 h0 63).toInt = (d_1.1 h0 63).toInt := congrArg Int32.toInt (hfad_931 63 (by decide))
                    have hId_931 : yMI S d_931 h0 := yMI.ag hId_1 hSh hm_h0 hk_h0 hgad_931 hfad_931 (by decide) (by decide)
                    have hgd_931 : yAg S [9, 34, 35, 36, 37, 38, 39, 40, 69] d d_931 := yAg.tr hgd_1 hgad_931 (by first | decide | exact fun _ h => h)
                    have hPod_931 : yPo S d_931 := hpad_931 hPod_1
                    refine lv_pop hx hb dX9_term_174 rfl ?_
                    refine lv_iconst (v := 0) hx hb dX9_term_175 (by decide) ?_
                    have hCC_932 := yMI.c hId_931
                    have F_933 := fnlt (rfl : (p2 : Int32).toInt = (p2 : Int32).toInt) (by decide +kernel : (0 : Int32).toInt = 0) c_3
                    have F_934 := fnlt (by decide +kernel : (4 : Int32).toInt = 4) (rfl : (p2 : Int32).toInt = (p2 : Int32).toInt) c_118
                    have F_935 := fnlt (rfl : (p3 : Int32).toInt = (p3 : Int32).toInt) (by decide +kernel : (0 : Int32).toInt = 0) c_241
                    have F_936 := fle (rfl : (p3 : Int32).toInt = (p3 : Int32).toInt) (by decide +kernel : (4 : Int32).toInt = 4) c_372
                    have F_937 := feq (rfl : (p3 : Int32).toInt = (p3 : Int32).toInt) (by decide +kernel : (1 : Int32).toInt = 1) c_373
                    have F_938 := feq (by decide +kernel : (0 : Int32).toInt = 0) (by decide +kernel : (0 : Int32).toInt = 0) c_831
                    have F_939 := fnlt (rfl : (p4 : Int32).toInt = (p4 : Int32).toInt) (by decide +kernel : (0 : Int32).toInt = 0) c_832
                    have F_940 := flt (by decide +kernel : (1440 : Int32).toInt = 1440) (rfl : (p4 : Int32).toInt = (p4 : Int32).toInt) c_907
                    have F_941 := fne (rfl : (p3 : Int32).toInt = (p3 : Int32).toInt) (by decide +kernel : (3 : Int32).toInt = 3) c_908
                    have F_942 := feq (rfl : (p3 : Int32).toInt = (p3 : Int32).toInt) (by decide +kernel : (4 : Int32).toInt = 4) c_909
                    have F_943 := fne (by decide +kernel : (1 : Int32).toInt = 1) (by decide +kernel : (0 : Int32).toInt = 0) c_927
                    have F_944 := fne (by decide +kernel : (1 : Int32).toInt = 1) (by decide +kernel : (0 : Int32).toInt = 0) c_928
                    have F_945 := fne (by decide +kernel : (1 : Int32).toInt = 1) (by decide +kernel : (0 : Int32).toInt = 0) c_929
                    exact W.zret (v := 0) (ty := .boolean) hx hb hr rfl (fun t ht hW => ⟨⟨0, d_931, rfl, ⟨hgd_931, (fun _ => hPod_931), hfd_931, ⟨hId_931, Or.inl ⟨by have h0_ : (0 : Int32).toInt = 0 := (by decide +kernel); omega, by omega, (zTr.ag (zTr.ag zTr.rf hSh hm_h0 hk_h0 hsd_1 (by decide)) hSh hm_h0 hk_h0 hgad_931 (by decide))⟩⟩⟩, by rw [ht]; exact hP, hD⟩, hS.F ht⟩) hS.2.2 dX9_term_176
                · refine lv_iload hx hb dX9_term_90 (lv_at hl 0 rfl) ?_
                  refine lv_if_ne (tgt := 106) hx hb dX9_term_92 (by decide) (fun c_946 => ?_) (fun c_946 => absurd c_946 (by decide +kernel))
                  refine lv_iconst (v := 1) hx hb dX9_term_106 (by decide) ?_
                  refine lv_goto (tgt := 111) hx hb dX9_term_107 (by decide) ?_
                  refine lv_istore (lv' := [(8, .int 1), (7, .int r_2), (0, .ref h0), (1, .int p0), (2, .int p1), (3, .int p2), (4, .int p3), (5, .int p4), (6, .int p5)]) hx hb dX9_term_111 hl (by decide) rfl (fun ls hl => ?_)
                  refine lv_iload hx hb dX9_term_113 (lv_at hl 6 rfl) ?_
                  refine lv_iconst (v := 4) hx hb dX9_term_115 (by decide) ?_
                  refine lv_icmp_ne (tgt := 155) hx hb dX9_term_116 (by decide) (fun c_947 => ?_) (fun c_947 => ?_)
                  · refine lv_iload hx hb dX9_term_155 (lv_at hl 0 rfl) ?_
                    refine lv_if_eq (tgt := 163) hx hb dX9_term_157 (by decide) (fun c_948 => absurd c_948 (by decide +kernel)) (fun c_948 => ?_)
                    refine lv_iconst (v := 1) hx hb dX9_term_160 (by decide) ?_
                    refine lv_istore (lv' := [(7, .int 1), (8, .int 1), (0, .ref h0), (1, .int p0), (2, .int p1), (3, .int p2), (4, .int p3), (5, .int p4), (6, .int p5)]) hx hb dX9_term_161 hl (by decide) rfl (fun ls hl => ?_)
                    refine lv_iload hx hb dX9_term_163 (lv_at hl 0 rfl) ?_
                    refine lv_if_eq (tgt := 177) hx hb dX9_term_165 (by decide) (fun c_949 => absurd c_949 (by decide +kernel)) (fun c_949 => ?_)
                    refine lv_aload_n hx hb dX9_term_168 rfl (lv_at hl 2 rfl) ?_
                    refine lv_iload hx hb dX9_term_169 (lv_at hl 0 rfl) ?_
                    refine yVwi (As := [.int 1]) (rest := []) C0 (g_X9_no l G S d_1 h0 1 hSh hPod_1 hm_h0 hk_h0 (by decide +kernel)) ok_X9_no (mW177 : Cond.methodLink RX9 168 yX9_no ∈ wsT) ⟨Nat.le_of_ble_eq_true rfl, Nat.le_of_ble_eq_true rfl⟩ hP hD hS hA hK hN hm_h0 hk_h0 (by decide) rfl rfl rfl hl.1 rfl (Nat.le_of_ble_eq_true rfl) ⟨Nat.le_of_ble_eq_true rfl, Nat.le_of_ble_eq_true rfl⟩ dX9_term_171 (fun r_950 d_951 H locs hr_950 hP hD hS => ?_)
                    obtain ⟨hgad_951, hpad_951, hfad_951, hxd_951⟩ := hr_950
                    have hfd_951 : yK [38] d d_951 h0 := yK.tr hfd_1 hfad_951 (by decide)
                    have hE0d_951 : (d_951.1 h0 0).toInt = (d_1.1 h0 0).toInt := congrArg Int32.toInt (hfad_951 0 (by decide))
                    have hE1d_951 : (d_951.1 h0 1).toInt = (d_1.1 h0 1).toInt := congrArg Int32.toInt (hfad_951 1 (by decide))
                    have hE2d_951 : (d_951.1 h0 2).toInt = (d_1.1 h0 2).toInt := congrArg Int32.toInt (hfad_951 2 (by decide))
                    have hE3d_951 : (d_951.1 h0 3).toInt = (d_1.1 h0 3).toInt := congrArg Int32.toInt (hfad_951 3 (by decide))
                    have hE63d_951 : (d_951.1 h0 63).toInt = (d_1.1 h0 63).toInt := congrArg Int32.toInt (hfad_951 63 (by decide))
                    have hId_951 : yMI S d_951 h0 := yMI.ag hId_1 hSh hm_h0 hk_h0 hgad_951 hfad_951 (by decide) (by decide)
                    have hgd_951 : yAg S [9, 34, 35, 36, 37, 38, 39, 40, 69] d d_951 := yAg.tr hgd_1 hgad_951 (by first | decide | exact fun _ h => h)
                    have hPod_951 : yPo S d_951 := hpad_951 hPod_1
                    refine lv_pop hx hb dX9_term_174 rfl ?_
                    refine lv_iconst (v := 0) hx hb dX9_term_175 (by decide) ?_
                    have hCC_952 := yMI.c hId_951
                    have F_953 := fnlt (rfl : (p2 : Int32).toInt = (p2 : Int32).toInt) (by decide +kernel : (0 : Int32).toInt = 0) c_3
                    have F_954 := fnlt (by decide +kernel : (4 : Int32).toInt = 4) (rfl : (p2 : Int32).toInt = (p2 : Int32).toInt) c_118
                    have F_955 := fnlt (rfl : (p3 : Int32).toInt = (p3 : Int32).toInt) (by decide +kernel : (0 : Int32).toInt = 0) c_241
                    have F_956 := fle (rfl : (p3 : Int32).toInt = (p3 : Int32).toInt) (by decide +kernel : (4 : Int32).toInt = 4) c_372
                    have F_957 := feq (rfl : (p3 : Int32).toInt = (p3 : Int32).toInt) (by decide +kernel : (1 : Int32).toInt = 1) c_373
                    have F_958 := feq (by decide +kernel : (0 : Int32).toInt = 0) (by decide +kernel : (0 : Int32).toInt = 0) c_831
                    have F_959 := fnlt (rfl : (p4 : Int32).toInt = (p4 : Int32).toInt) (by decide +kernel : (0 : Int32).toInt = 0) c_832
                    have F_960 := flt (by decide +kernel : (1440 : Int32).toInt = 1440) (rfl : (p4 : Int32).toInt = (p4 : Int32).toInt) c_907
                    have F_961 := feq (rfl : (p3 : Int32).toInt = (p3 : Int32).toInt) (by decide +kernel : (3 : Int32).toInt = 3) c_908
                    have F_962 := fne (by decide +kernel : (1 : Int32).toInt = 1) (by decide +kernel : (0 : Int32).toInt = 0) c_946
                    have F_963 := fne (rfl : (p3 : Int32).toInt = (p3 : Int32).toInt) (by decide +kernel : (4 : Int32).toInt = 4) c_947
                    have F_964 := fne (by decide +kernel : (1 : Int32).toInt = 1) (by decide +kernel : (0 : Int32).toInt = 0) c_948
                    have F_965 := fne (by decide +kernel : (1 : Int32).toInt = 1) (by decide +kernel : (0 : Int32).toInt = 0) c_949
                    exact W.zret (v := 0) (ty := .boolean) hx hb hr rfl (fun t ht hW => ⟨⟨0, d_951, rfl, ⟨hgd_951, (fun _ => hPod_951), hfd_951, ⟨hId_951, Or.inl ⟨by have h0_ : (0 : Int32).toInt = 0 := (by decide +kernel); omega, by omega, (zTr.ag (zTr.ag zTr.rf hSh hm_h0 hk_h0 hsd_1 (by decide)) hSh hm_h0 hk_h0 hgad_951 (by decide))⟩⟩⟩, by rw [ht]; exact hP, hD⟩, hS.F ht⟩) hS.2.2 dX9_term_176
                  · refine lv_iload hx hb dX9_term_119 (lv_at hl 0 rfl) ?_
                    refine lv_if_ne (tgt := 148) hx hb dX9_term_121 (by decide) (fun c_966 => ?_) (fun c_966 => absurd c_966 (by decide +kernel))
                    refine lv_iconst (v := 1) hx hb dX9_term_148 (by decide) ?_
                    refine lv_goto (tgt := 153) hx hb dX9_term_149 (by decide) ?_
                    refine lv_istore (lv' := [(8, .int 1), (7, .int r_2), (0, .ref h0), (1, .int p0), (2, .int p1), (3, .int p2), (4, .int p3), (5, .int p4), (6, .int p5)]) hx hb dX9_term_153 hl (by decide) rfl (fun ls hl => ?_)
                    refine lv_iload hx hb dX9_term_155 (lv_at hl 0 rfl) ?_
                    refine lv_if_eq (tgt := 163) hx hb dX9_term_157 (by decide) (fun c_967 => absurd c_967 (by decide +kernel)) (fun c_967 => ?_)
                    refine lv_iconst (v := 1) hx hb dX9_term_160 (by decide) ?_
                    refine lv_istore (lv' := [(7, .int 1), (8, .int 1), (0, .ref h0), (1, .int p0), (2, .int p1), (3, .int p2), (4, .int p3), (5, .int p4), (6, .int p5)]) hx hb dX9_term_161 hl (by decide) rfl (fun ls hl => ?_)
                    refine lv_iload hx hb dX9_term_163 (lv_at hl 0 rfl) ?_
                    refine lv_if_eq (tgt := 177) hx hb dX9_term_165 (by decide) (fun c_968 => absurd c_968 (by decide +kernel)) (fun c_968 => ?_)
                    refine lv_aload_n hx hb dX9_term_168 rfl (lv_at hl 2 rfl) ?_
                    refine lv_iload hx hb dX9_term_169 (lv_at hl 0 rfl) ?_
                    refine yVwi (As := [.int 1]) (rest := []) C0 (g_X9_no l G S d_1 h0 1 hSh hPod_1 hm_h0 hk_h0 (by decide +kernel)) ok_X9_no (mW177 : Cond.methodLink RX9 168 yX9_no ∈ wsT) ⟨Nat.le_of_ble_eq_true rfl, Nat.le_of_ble_eq_true rfl⟩ hP hD hS hA hK hN hm_h0 hk_h0 (by decide) rfl rfl rfl hl.1 rfl (Nat.le_of_ble_eq_true rfl) ⟨Nat.le_of_ble_eq_true rfl, Nat.le_of_ble_eq_true rfl⟩ dX9_term_171 (fun r_969 d_970 H locs hr_969 hP hD hS => ?_)
                    obtain ⟨hgad_970, hpad_970, hfad_970, hxd_970⟩ := hr_969
                    have hfd_970 : yK [38] d d_970 h0 := yK.tr hfd_1 hfad_970 (by decide)
                    have hE0d_970 : (d_970.1 h0 0).toInt = (d_1.1 h0 0).toInt := congrArg Int32.toInt (hfad_970 0 (by decide))
                    have hE1d_970 : (d_970.1 h0 1).toInt = (d_1.1 h0 1).toInt := congrArg Int32.toInt (hfad_970 1 (by decide))
                    have hE2d_970 : (d_970.1 h0 2).toInt = (d_1.1 h0 2).toInt := congrArg Int32.toInt (hfad_970 2 (by decide))
                    have hE3d_970 : (d_970.1 h0 3).toInt = (d_1.1 h0 3).toInt := congrArg Int32.toInt (hfad_970 3 (by decide))
                    have hE63d_970 : (d_970.1 h0 63).toInt = (d_1.1 h0 63).toInt := congrArg Int32.toInt (hfad_970 63 (by decide))
                    have hId_970 : yMI S d_970 h0 := yMI.ag hId_1 hSh hm_h0 hk_h0 hgad_970 hfad_970 (by decide) (by decide)
                    have hgd_970 : yAg S [9, 34, 35, 36, 37, 38, 39, 40, 69] d d_970 := yAg.tr hgd_1 hgad_970 (by first | decide | exact fun _ h => h)
                    have hPod_970 : yPo S d_970 := hpad_970 hPod_1
                    refine lv_pop hx hb dX9_term_174 rfl ?_
                    refine lv_iconst (v := 0) hx hb dX9_term_175 (by decide) ?_
                    have hCC_971 := yMI.c hId_970
                    have F_972 := fnlt (rfl : (p2 : Int32).toInt = (p2 : Int32).toInt) (by decide +kernel : (0 : Int32).toInt = 0) c_3
                    have F_973 := fnlt (by decide +kernel : (4 : Int32).toInt = 4) (rfl : (p2 : Int32).toInt = (p2 : Int32).toInt) c_118
                    have F_974 := fnlt (rfl : (p3 : Int32).toInt = (p3 : Int32).toInt) (by decide +kernel : (0 : Int32).toInt = 0) c_241
                    have F_975 := fle (rfl : (p3 : Int32).toInt = (p3 : Int32).toInt) (by decide +kernel : (4 : Int32).toInt = 4) c_372
                    have F_976 := feq (rfl : (p3 : Int32).toInt = (p3 : Int32).toInt) (by decide +kernel : (1 : Int32).toInt = 1) c_373
                    have F_977 := feq (by decide +kernel : (0 : Int32).toInt = 0) (by decide +kernel : (0 : Int32).toInt = 0) c_831
                    have F_978 := fnlt (rfl : (p4 : Int32).toInt = (p4 : Int32).toInt) (by decide +kernel : (0 : Int32).toInt = 0) c_832
                    have F_979 := flt (by decide +kernel : (1440 : Int32).toInt = 1440) (rfl : (p4 : Int32).toInt = (p4 : Int32).toInt) c_907
                    have F_980 := feq (rfl : (p3 : Int32).toInt = (p3 : Int32).toInt) (by decide +kernel : (3 : Int32).toInt = 3) c_908
                    have F_981 := fne (by decide +kernel : (1 : Int32).toInt = 1) (by decide +kernel : (0 : Int32).toInt = 0) c_946
                    have F_982 := feq (rfl : (p3 : Int32).toInt = (p3 : Int32).toInt) (by decide +kernel : (4 : Int32).toInt = 4) c_947
                    have F_983 := fne (by decide +kernel : (1 : Int32).toInt = 1) (by decide +kernel : (0 : Int32).toInt = 0) c_966
                    have F_984 := fne (by decide +kernel : (1 : Int32).toInt = 1) (by decide +kernel : (0 : Int32).toInt = 0) c_967
                    have F_985 := fne (by decide +kernel : (1 : Int32).toInt = 1) (by decide +kernel : (0 : Int32).toInt = 0) c_968
                    exact W.zret (v := 0) (ty := .boolean) hx hb hr rfl (fun t ht hW => ⟨⟨0, d_970, rfl, ⟨hgd_970, (fun _ => hPod_970), hfd_970, ⟨hId_970, Or.inl ⟨by have h0_ : (0 : Int32).toInt = 0 := (by decide +kernel); omega, by omega, (zTr.ag (zTr.ag zTr.rf hSh hm_h0 hk_h0 hsd_1 (by decide)) hSh hm_h0 hk_h0 hgad_970 (by decide))⟩⟩⟩, by rw [ht]; exact hP, hD⟩, hS.F ht⟩) hS.2.2 dX9_term_176
              · refine lv_iload hx hb dX9_term_64 (lv_at hl 8 rfl) ?_
                refine lv_if_lt (tgt := 77) hx hb dX9_term_66 (by decide) (fun c_986 => ?_) (fun c_986 => ?_)
                · refine lv_iconst (v := 1) hx hb dX9_term_77 (by decide) ?_
                  refine lv_goto (tgt := 82) hx hb dX9_term_78 (by decide) ?_
                  refine lv_istore (lv' := [(8, .int 1), (7, .int r_2), (0, .ref h0), (1, .int p0), (2, .int p1), (3, .int p2), (4, .int p3), (5, .int p4), (6, .int p5)]) hx hb dX9_term_82 hl (by decide) rfl (fun ls hl => ?_)
                  refine lv_iload hx hb dX9_term_84 (lv_at hl 6 rfl) ?_
                  refine lv_iconst (v := 3) hx hb dX9_term_86 (by decide) ?_
                  refine lv_icmp_ne (tgt := 113) hx hb dX9_term_87 (by decide) (fun c_987 => ?_) (fun c_987 => ?_)
                  · refine lv_iload hx hb dX9_term_113 (lv_at hl 6 rfl) ?_
                    refine lv_iconst (v := 4) hx hb dX9_term_115 (by decide) ?_
                    refine lv_icmp_ne (tgt := 155) hx hb dX9_term_116 (by decide) (fun c_988 => ?_) (fun c_988 => ?_)
                    · refine lv_iload hx hb dX9_term_155 (lv_at hl 0 rfl) ?_
                      refine lv_if_eq (tgt := 163) hx hb dX9_term_157 (by decide) (fun c_989 => absurd c_989 (by decide +kernel)) (fun c_989 => ?_)
                      refine lv_iconst (v := 1) hx hb dX9_term_160 (by decide) ?_
                      refine lv_istore (lv' := [(7, .int 1), (8, .int 1), (0, .ref h0), (1, .int p0), (2, .int p1), (3, .int p2), (4, .int p3), (5, .int p4), (6, .int p5)]) hx hb dX9_term_161 hl (by decide) rfl (fun ls hl => ?_)
                      refine lv_iload hx hb dX9_term_163 (lv_at hl 0 rfl) ?_
                      refine lv_if_eq (tgt := 177) hx hb dX9_term_165 (by decide) (fun c_990 => absurd c_990 (by decide +kernel)) (fun c_990 => ?_)
                      refine lv_aload_n hx hb dX9_term_168 rfl (lv_at hl 2 rfl) ?_
                      refine lv_iload hx hb dX9_term_169 (lv_at hl 0 rfl) ?_
                      refine yVwi (As := [.int 1]) (rest := []) C0 (g_X9_no l G S d_1 h0 1 hSh hPod_1 hm_h0 hk_h0 (by decide +kernel)) ok_X9_no (mW177 : Cond.methodLink RX9 168 yX9_no ∈ wsT) ⟨Nat.le_of_ble_eq_true rfl, Nat.le_of_ble_eq_true rfl⟩ hP hD hS hA hK hN hm_h0 hk_h0 (by decide) rfl rfl rfl hl.1 rfl (Nat.le_of_ble_eq_true rfl) ⟨Nat.le_of_ble_eq_true rfl, Nat.le_of_ble_eq_true rfl⟩ dX9_term_171 (fun r_991 d_992 H locs hr_991 hP hD hS => ?_)
                      obtain ⟨hgad_992, hpad_992, hfad_992, hxd_992⟩ := hr_991
                      have hfd_992 : yK [38] d d_992 h0 := yK.tr hfd_1 hfad_992 (by decide)
                      have hE0d_992 : (d_992.1 h0 0).toInt = (d_1.1 h0 0).toInt := congrArg Int32.toInt (hfad_992 0 (by decide))
                      have hE1d_992 : (d_992.1 h0 1).toInt = (d_1.1 h0 1).toInt := congrArg Int32.toInt (hfad_992 1 (by decide))
                      have hE2d_992 : (d_992.1 h0 2).toInt = (d_1.1 h0 2).toInt := congrArg Int32.toInt (hfad_992 2 (by decide))
                      have hE3d_992 : (d_992.1 h0 3).toInt = (d_1.1 h0 3).toInt := congrArg Int32.toInt (hfad_992 3 (by decide))
                      have hE63d_992 : (d_992.1 h0 63).toInt = (d_1.1 h0 63).toInt := congrArg Int32.toInt (hfad_992 63 (by decide))
                      have hId_992 : yMI S d_992 h0 := yMI.ag hId_1 hSh hm_h0 hk_h0 hgad_992 hfad_992 (by decide) (by decide)
                      have hgd_992 : yAg S [9, 34, 35, 36, 37, 38, 39, 40, 69] d d_992 := yAg.tr hgd_1 hgad_992 (by first | decide | exact fun _ h => h)
                      have hPod_992 : yPo S d_992 := hpad_992 hPod_1
                      refine lv_pop hx hb dX9_term_174 rfl ?_
                      refine lv_iconst (v := 0) hx hb dX9_term_175 (by decide) ?_
                      have hCC_993 := yMI.c hId_992
                      have F_994 := fnlt (rfl : (p2 : Int32).toInt = (p2 : Int32).toInt) (by decide +kernel : (0 : Int32).toInt = 0) c_3
                      have F_995 := fnlt (by decide +kernel : (4 : Int32).toInt = 4) (rfl : (p2 : Int32).toInt = (p2 : Int32).toInt) c_118
                      have F_996 := fnlt (rfl : (p3 : Int32).toInt = (p3 : Int32).toInt) (by decide +kernel : (0 : Int32).toInt = 0) c_241
                      have F_997 := fle (rfl : (p3 : Int32).toInt = (p3 : Int32).toInt) (by decide +kernel : (4 : Int32).toInt = 4) c_372
                      have F_998 := feq (rfl : (p3 : Int32).toInt = (p3 : Int32).toInt) (by decide +kernel : (1 : Int32).toInt = 1) c_373
                      have F_999 := feq (by decide +kernel : (0 : Int32).toInt = 0) (by decide +kernel : (0 : Int32).toInt = 0) c_831
                      have F_1000 := fnlt (rfl : (p4 : Int32).toInt = (p4 : Int32).toInt) (by decide +kernel : (0 : Int32).toInt = 0) c_832
                      have F_1001 := fnlt (by decide +kernel : (1440 : Int32).toInt = 1440) (rfl : (p4 : Int32).toInt = (p4 : Int32).toInt) c_907
                      have F_1002 := flt (rfl : (p5 : Int32).toInt = (p5 : Int32).toInt) (by decide +kernel : (0 : Int32).toInt = 0) c_986
                      have F_1003 := fne (rfl : (p3 : Int32).toInt = (p3 : Int32).toInt) (by decide +kernel : (3 : Int32).toInt = 3) c_987
                      have F_1004 := fne (rfl : (p3 : Int32).toInt = (p3 : Int32).toInt) (by decide +kernel : (4 : Int32).toInt = 4) c_988
                      have F_1005 := fne (by decide +kernel : (1 : Int32).toInt = 1) (by decide +kernel : (0 : Int32).toInt = 0) c_989
                      have F_1006 := fne (by decide +kernel : (1 : Int32).toInt = 1) (by decide +kernel : (0 : Int32).toInt = 0) c_990
                      exact W.zret (v := 0) (ty := .boolean) hx hb hr rfl (fun t ht hW => ⟨⟨0, d_992, rfl, ⟨hgd_992, (fun _ => hPod_992), hfd_992, ⟨hId_992, Or.inl ⟨by have h0_ : (0 : Int32).toInt = 0 := (by decide +kernel); omega, by omega, (zTr.ag (zTr.ag zTr.rf hSh hm_h0 hk_h0 hsd_1 (by decide)) hSh hm_h0 hk_h0 hgad_992 (by decide))⟩⟩⟩, by rw [ht]; exact hP, hD⟩, hS.F ht⟩) hS.2.2 dX9_term_176
                    · refine lv_iload hx hb dX9_term_119 (lv_at hl 0 rfl) ?_
                      refine lv_if_ne (tgt := 148) hx hb dX9_term_121 (by decide) (fun c_1007 => ?_) (fun c_1007 => absurd c_1007 (by decide +kernel))
                      refine lv_iconst (v := 1) hx hb dX9_term_148 (by decide) ?_
                      refine lv_goto (tgt := 153) hx hb dX9_term_149 (by decide) ?_
                      refine lv_istore (lv' := [(8, .int 1), (7, .int r_2), (0, .ref h0), (1, .int p0), (2, .int p1), (3, .int p2), (4, .int p3), (5, .int p4), (6, .int p5)]) hx hb dX9_term_153 hl (by decide) rfl (fun ls hl => ?_)
                      refine lv_iload hx hb dX9_term_155 (lv_at hl 0 rfl) ?_
                      refine lv_if_eq (tgt := 163) hx hb dX9_term_157 (by decide) (fun c_1008 => absurd c_1008 (by decide +kernel)) (fun c_1008 => ?_)
                      refine lv_iconst (v := 1) hx hb dX9_term_160 (by decide) ?_
                      refine lv_istore (lv' := [(7, .int 1), (8, .int 1), (0, .ref h0), (1, .int p0), (2, .int p1), (3, .int p2), (4, .int p3), (5, .int p4), (6, .int p5)]) hx hb dX9_term_161 hl (by decide) rfl (fun ls hl => ?_)
                      refine lv_iload hx hb dX9_term_163 (lv_at hl 0 rfl) ?_
                      refine lv_if_eq (tgt := 177) hx hb dX9_term_165 (by decide) (fun c_1009 => absurd c_1009 (by decide +kernel)) (fun c_1009 => ?_)
                      refine lv_aload_n hx hb dX9_term_168 rfl (lv_at hl 2 rfl) ?_
                      refine lv_iload hx hb dX9_term_169 (lv_at hl 0 rfl) ?_
                      refine yVwi (As := [.int 1]) (rest := []) C0 (g_X9_no l G S d_1 h0 1 hSh hPod_1 hm_h0 hk_h0 (by decide +kernel)) ok_X9_no (mW177 : Cond.methodLink RX9 168 yX9_no ∈ wsT) ⟨Nat.le_of_ble_eq_true rfl, Nat.le_of_ble_eq_true rfl⟩ hP hD hS hA hK hN hm_h0 hk_h0 (by decide) rfl rfl rfl hl.1 rfl (Nat.le_of_ble_eq_true rfl) ⟨Nat.le_of_ble_eq_true rfl, Nat.le_of_ble_eq_true rfl⟩ dX9_term_171 (fun r_1010 d_1011 H locs hr_1010 hP hD hS => ?_)
                      obtain ⟨hgad_1011, hpad_1011, hfad_1011, hxd_1011⟩ := hr_1010
                      have hfd_1011 : yK [38] d d_1011 h0 := yK.tr hfd_1 hfad_1011 (by decide)
                      have hE0d_1011 : (d_1011.1 h0 0).toInt = (d_1.1 h0 0).toInt := congrArg Int32.toInt (hfad_1011 0 (by decide))
                      have hE1d_1011 : (d_1011.1 h0 1).toInt = (d_1.1 h0 1).toInt := congrArg Int32.toInt (hfad_1011 1 (by decide))
                      have hE2d_1011 : (d_1011.1 h0 2).toInt = (d_1.1 h0 2).toInt := congrArg Int32.toInt (hfad_1011 2 (by decide))
                      have hE3d_1011 : (d_1011.1 h0 3).toInt = (d_1.1 h0 3).toInt := congrArg Int32.toInt (hfad_1011 3 (by decide))
                      have hE63d_1011 : (d_1011.1 h0 63).toInt = (d_1.1 h0 63).toInt := congrArg Int32.toInt (hfad_1011 63 (by decide))
                      have hId_1011 : yMI S d_1011 h0 := yMI.ag hId_1 hSh hm_h0 hk_h0 hgad_1011 hfad_1011 (by decide) (by decide)
                      have hgd_1011 : yAg S [9, 34, 35, 36, 37, 38, 39, 40, 69] d d_1011 := yAg.tr hgd_1 hgad_1011 (by first | decide | exact fun _ h => h)
                      have hPod_1011 : yPo S d_1011 := hpad_1011 hPod_1
                      refine lv_pop hx hb dX9_term_174 rfl ?_
                      refine lv_iconst (v := 0) hx hb dX9_term_175 (by decide) ?_
                      have hCC_1012 := yMI.c hId_1011
                      have F_1013 := fnlt (rfl : (p2 : Int32).toInt = (p2 : Int32).toInt) (by decide +kernel : (0 : Int32).toInt = 0) c_3
                      have F_1014 := fnlt (by decide +kernel : (4 : Int32).toInt = 4) (rfl : (p2 : Int32).toInt = (p2 : Int32).toInt) c_118
                      have F_1015 := fnlt (rfl : (p3 : Int32).toInt = (p3 : Int32).toInt) (by decide +kernel : (0 : Int32).toInt = 0) c_241
                      have F_1016 := fle (rfl : (p3 : Int32).toInt = (p3 : Int32).toInt) (by decide +kernel : (4 : Int32).toInt = 4) c_372
                      have F_1017 := feq (rfl : (p3 : Int32).toInt = (p3 : Int32).toInt) (by decide +kernel : (1 : Int32).toInt = 1) c_373
                      have F_1018 := feq (by decide +kernel : (0 : Int32).toInt = 0) (by decide +kernel : (0 : Int32).toInt = 0) c_831
                      have F_1019 := fnlt (rfl : (p4 : Int32).toInt = (p4 : Int32).toInt) (by decide +kernel : (0 : Int32).toInt = 0) c_832
                      have F_1020 := fnlt (by decide +kernel : (1440 : Int32).toInt = 1440) (rfl : (p4 : Int32).toInt = (p4 : Int32).toInt) c_907
                      have F_1021 := flt (rfl : (p5 : Int32).toInt = (p5 : Int32).toInt) (by decide +kernel : (0 : Int32).toInt = 0) c_986
                      have F_1022 := fne (rfl : (p3 : Int32).toInt = (p3 : Int32).toInt) (by decide +kernel : (3 : Int32).toInt = 3) c_987
                      have F_1023 := feq (rfl : (p3 : Int32).toInt = (p3 : Int32).toInt) (by decide +kernel : (4 : Int32).toInt = 4) c_988
                      have F_1024 := fne (by decide +kernel : (1 : Int32).toInt = 1) (by decide +kernel : (0 : Int32).toInt = 0) c_1007
                      have F_1025 := fne (by decide +kernel : (1 : Int32).toInt = 1) (by decide +kernel : (0 : Int32).toInt = 0) c_1008
                      have F_1026 := fne (by decide +kernel : (1 : Int32).toInt = 1) (by decide +kernel : (0 : Int32).toInt = 0) c_1009
                      exact W.zret (v := 0) (ty := .boolean) hx hb hr rfl (fun t ht hW => ⟨⟨0, d_1011, rfl, ⟨hgd_1011, (fun _ => hPod_1011), hfd_1011, ⟨hId_1011, Or.inl ⟨by have h0_ : (0 : Int32).toInt = 0 := (by decide +kernel); omega, by omega, (zTr.ag (zTr.ag zTr.rf hSh hm_h0 hk_h0 hsd_1 (by decide)) hSh hm_h0 hk_h0 hgad_1011 (by decide))⟩⟩⟩, by rw [ht]; exact hP, hD⟩, hS.F ht⟩) hS.2.2 dX9_term_176
                  · refine lv_iload hx hb dX9_term_90 (lv_at hl 0 rfl) ?_
                    refine lv_if_ne (tgt := 106) hx hb dX9_term_92 (by decide) (fun c_1027 => ?_) (fun c_1027 => absurd c_1027 (by decide +kernel))
                    refine lv_iconst (v := 1) hx hb dX9_term_106 (by decide) ?_
                    refine lv_goto (tgt := 111) hx hb dX9_term_107 (by decide) ?_
                    refine lv_istore (lv' := [(8, .int 1), (7, .int r_2), (0, .ref h0), (1, .int p0), (2, .int p1), (3, .int p2), (4, .int p3), (5, .int p4), (6, .int p5)]) hx hb dX9_term_111 hl (by decide) rfl (fun ls hl => ?_)
                    refine lv_iload hx hb dX9_term_113 (lv_at hl 6 rfl) ?_
                    refine lv_iconst (v := 4) hx hb dX9_term_115 (by decide) ?_
                    refine lv_icmp_ne (tgt := 155) hx hb dX9_term_116 (by decide) (fun c_1028 => ?_) (fun c_1028 => ?_)
                    · refine lv_iload hx hb dX9_term_155 (lv_at hl 0 rfl) ?_
                      refine lv_if_eq (tgt := 163) hx hb dX9_term_157 (by decide) (fun c_1029 => absurd c_1029 (by decide +kernel)) (fun c_1029 => ?_)
                      refine lv_iconst (v := 1) hx hb dX9_term_160 (by decide) ?_
                      refine lv_istore (lv' := [(7, .int 1), (8, .int 1), (0, .ref h0), (1, .int p0), (2, .int p1), (3, .int p2), (4, .int p3), (5, .int p4), (6, .int p5)]) hx hb dX9_term_161 hl (by decide) rfl (fun ls hl => ?_)
                      refine lv_iload hx hb dX9_term_163 (lv_at hl 0 rfl) ?_
                      refine lv_if_eq (tgt := 177) hx hb dX9_term_165 (by decide) (fun c_1030 => absurd c_1030 (by decide +kernel)) (fun c_1030 => ?_)
                      refine lv_aload_n hx hb dX9_term_168 rfl (lv_at hl 2 rfl) ?_
                      refine lv_iload hx hb dX9_term_169 (lv_at hl 0 rfl) ?_
                      refine yVwi (As := [.int 1]) (rest := []) C0 (g_X9_no l G S d_1 h0 1 hSh hPod_1 hm_h0 hk_h0 (by decide +kernel)) ok_X9_no (mW177 : Cond.methodLink RX9 168 yX9_no ∈ wsT) ⟨Nat.le_of_ble_eq_true rfl, Nat.le_of_ble_eq_true rfl⟩ hP hD hS hA hK hN hm_h0 hk_h0 (by decide) rfl rfl rfl hl.1 rfl (Nat.le_of_ble_eq_true rfl) ⟨Nat.le_of_ble_eq_true rfl, Nat.le_of_ble_eq_true rfl⟩ dX9_term_171 (fun r_1031 d_1032 H locs hr_1031 hP hD hS => ?_)
                      obtain ⟨hgad_1032, hpad_1032, hfad_1032, hxd_1032⟩ := hr_1031
                      have hfd_1032 : yK [38] d d_1032 h0 := yK.tr hfd_1 hfad_1032 (by decide)
                      have hE0d_1032 : (d_1032.1 h0 0).toInt = (d_1.1 h0 0).toInt := congrArg Int32.toInt (hfad_1032 0 (by decide))
                      have hE1d_1032 : (d_1032.1 h0 1).toInt = (d_1.1 h0 1).toInt := congrArg Int32.toInt (hfad_1032 1 (by decide))
                      have hE2d_1032 : (d_1032.1 h0 2).toInt = (d_1.1 h0 2).toInt := congrArg Int32.toInt (hfad_1032 2 (by decide))
                      have hE3d_1032 : (d_1032.1 h0 3).toInt = (d_1.1 h0 3).toInt := congrArg Int32.toInt (hfad_1032 3 (by decide))
                      have hE63d_1032 : (d_1032.1 h0 63).toInt = (d_1.1 h0 63).toInt := congrArg Int32.toInt (hfad_1032 63 (by decide))
                      have hId_1032 : yMI S d_1032 h0 := yMI.ag hId_1 hSh hm_h0 hk_h0 hgad_1032 hfad_1032 (by decide) (by decide)
                      have hgd_1032 : yAg S [9, 34, 35, 36, 37, 38, 39, 40, 69] d d_1032 := yAg.tr hgd_1 hgad_1032 (by first | decide | exact fun _ h => h)
                      have hPod_1032 : yPo S d_1032 := hpad_1032 hPod_1
                      refine lv_pop hx hb dX9_term_174 rfl ?_
                      refine lv_iconst (v := 0) hx hb dX9_term_175 (by decide) ?_
                      have hCC_1033 := yMI.c hId_1032
                      have F_1034 := fnlt (rfl : (p2 : Int32).toInt = (p2 : Int32).toInt) (by decide +kernel : (0 : Int32).toInt = 0) c_3
                      have F_1035 := fnlt (by decide +kernel : (4 : Int32).toInt = 4) (rfl : (p2 : Int32).toInt = (p2 : Int32).toInt) c_118
                      have F_1036 := fnlt (rfl : (p3 : Int32).toInt = (p3 : Int32).toInt) (by decide +kernel : (0 : Int32).toInt = 0) c_241
                      have F_1037 := fle (rfl : (p3 : Int32).toInt = (p3 : Int32).toInt) (by decide +kernel : (4 : Int32).toInt = 4) c_372
                      have F_1038 := feq (rfl : (p3 : Int32).toInt = (p3 : Int32).toInt) (by decide +kernel : (1 : Int32).toInt = 1) c_373
                      have F_1039 := feq (by decide +kernel : (0 : Int32).toInt = 0) (by decide +kernel : (0 : Int32).toInt = 0) c_831
                      have F_1040 := fnlt (rfl : (p4 : Int32).toInt = (p4 : Int32).toInt) (by decide +kernel : (0 : Int32).toInt = 0) c_832
                      have F_1041 := fnlt (by decide +kernel : (1440 : Int32).toInt = 1440) (rfl : (p4 : Int32).toInt = (p4 : Int32).toInt) c_907
                      have F_1042 := flt (rfl : (p5 : Int32).toInt = (p5 : Int32).toInt) (by decide +kernel : (0 : Int32).toInt = 0) c_986
                      have F_1043 := feq (rfl : (p3 : Int32).toInt = (p3 : Int32).toInt) (by decide +kernel : (3 : Int32).toInt = 3) c_987
                      have F_1044 := fne (by decide +kernel : (1 : Int32).toInt = 1) (by decide +kernel : (0 : Int32).toInt = 0) c_1027
                      have F_1045 := fne (rfl : (p3 : Int32).toInt = (p3 : Int32).toInt) (by decide +kernel : (4 : Int32).toInt = 4) c_1028
                      have F_1046 := fne (by decide +kernel : (1 : Int32).toInt = 1) (by decide +kernel : (0 : Int32).toInt = 0) c_1029
                      have F_1047 := fne (by decide +kernel : (1 : Int32).toInt = 1) (by decide +kernel : (0 : Int32).toInt = 0) c_1030
                      exact W.zret (v := 0) (ty := .boolean) hx hb hr rfl (fun t ht hW => ⟨⟨0, d_1032, rfl, ⟨hgd_1032, (fun _ => hPod_1032), hfd_1032, ⟨hId_1032, Or.inl ⟨by have h0_ : (0 : Int32).toInt = 0 := (by decide +kernel); omega, by omega, (zTr.ag (zTr.ag zTr.rf hSh hm_h0 hk_h0 hsd_1 (by decide)) hSh hm_h0 hk_h0 hgad_1032 (by decide))⟩⟩⟩, by rw [ht]; exact hP, hD⟩, hS.F ht⟩) hS.2.2 dX9_term_176
                    · refine lv_iload hx hb dX9_term_119 (lv_at hl 0 rfl) ?_
                      refine lv_if_ne (tgt := 148) hx hb dX9_term_121 (by decide) (fun c_1048 => ?_) (fun c_1048 => absurd c_1048 (by decide +kernel))
                      refine lv_iconst (v := 1) hx hb dX9_term_148 (by decide) ?_
                      refine lv_goto (tgt := 153) hx hb dX9_term_149 (by decide) ?_
                      refine lv_istore (lv' := [(8, .int 1), (7, .int r_2), (0, .ref h0), (1, .int p0), (2, .int p1), (3, .int p2), (4, .int p3), (5, .int p4), (6, .int p5)]) hx hb dX9_term_153 hl (by decide) rfl (fun ls hl => ?_)
                      refine lv_iload hx hb dX9_term_155 (lv_at hl 0 rfl) ?_
                      refine lv_if_eq (tgt := 163) hx hb dX9_term_157 (by decide) (fun c_1049 => absurd c_1049 (by decide +kernel)) (fun c_1049 => ?_)
                      refine lv_iconst (v := 1) hx hb dX9_term_160 (by decide) ?_
                      refine lv_istore (lv' := [(7, .int 1), (8, .int 1), (0, .ref h0), (1, .int p0), (2, .int p1), (3, .int p2), (4, .int p3), (5, .int p4), (6, .int p5)]) hx hb dX9_term_161 hl (by decide) rfl (fun ls hl => ?_)
                      refine lv_iload hx hb dX9_term_163 (lv_at hl 0 rfl) ?_
                      refine lv_if_eq (tgt := 177) hx hb dX9_term_165 (by decide) (fun c_1050 => absurd c_1050 (by decide +kernel)) (fun c_1050 => ?_)
                      refine lv_aload_n hx hb dX9_term_168 rfl (lv_at hl 2 rfl) ?_
                      refine lv_iload hx hb dX9_term_169 (lv_at hl 0 rfl) ?_
                      refine yVwi (As := [.int 1]) (rest := []) C0 (g_X9_no l G S d_1 h0 1 hSh hPod_1 hm_h0 hk_h0 (by decide +kernel)) ok_X9_no (mW177 : Cond.methodLink RX9 168 yX9_no ∈ wsT) ⟨Nat.le_of_ble_eq_true rfl, Nat.le_of_ble_eq_true rfl⟩ hP hD hS hA hK hN hm_h0 hk_h0 (by decide) rfl rfl rfl hl.1 rfl (Nat.le_of_ble_eq_true rfl) ⟨Nat.le_of_ble_eq_true rfl, Nat.le_of_ble_eq_true rfl⟩ dX9_term_171 (fun r_1051 d_1052 H locs hr_1051 hP hD hS => ?_)
                      obtain ⟨hgad_1052, hpad_1052, hfad_1052, hxd_1052⟩ := hr_1051
                      have hfd_1052 : yK [38] d d_1052 h0 := yK.tr hfd_1 hfad_1052 (by decide)
                      have hE0d_1052 : (d_1052.1 h0 0).toInt = (d_1.1 h0 0).toInt := congrArg Int32.toInt (hfad_1052 0 (by decide))
                      have hE1d_1052 : (d_1052.1 h0 1).toInt = (d_1.1 h0 1).toInt := congrArg Int32.toInt (hfad_1052 1 (by decide))
                      have hE2d_1052 : (d_1052.1 h0 2).toInt = (d_1.1 h0 2).toInt := congrArg Int32.toInt (hfad_1052 2 (by decide))
                      have hE3d_1052 : (d_1052.1 h0 3).toInt = (d_1.1 h0 3).toInt := congrArg Int32.toInt (hfad_1052 3 (by decide))
                      have hE63d_1052 : (d_1052.1 h0 63).toInt = (d_1.1 h0 63).toInt := congrArg Int32.toInt (hfad_1052 63 (by decide))
                      have hId_1052 : yMI S d_1052 h0 := yMI.ag hId_1 hSh hm_h0 hk_h0 hgad_1052 hfad_1052 (by decide) (by decide)
                      have hgd_1052 : yAg S [9, 34, 35, 36, 37, 38, 39, 40, 69] d d_1052 := yAg.tr hgd_1 hgad_1052 (by first | decide | exact fun _ h => h)
                      have hPod_1052 : yPo S d_1052 := hpad_1052 hPod_1
                      refine lv_pop hx hb dX9_term_174 rfl ?_
                      refine lv_iconst (v := 0) hx hb dX9_term_175 (by decide) ?_
                      have hCC_1053 := yMI.c hId_1052
                      have F_1054 := fnlt (rfl : (p2 : Int32).toInt = (p2 : Int32).toInt) (by decide +kernel : (0 : Int32).toInt = 0) c_3
                      have F_1055 := fnlt (by decide +kernel : (4 : Int32).toInt = 4) (rfl : (p2 : Int32).toInt = (p2 : Int32).toInt) c_118
                      have F_1056 := fnlt (rfl : (p3 : Int32).toInt = (p3 : Int32).toInt) (by decide +kernel : (0 : Int32).toInt = 0) c_241
                      have F_1057 := fle (rfl : (p3 : Int32).toInt = (p3 : Int32).toInt) (by decide +kernel : (4 : Int32).toInt = 4) c_372
                      have F_1058 := feq (rfl : (p3 : Int32).toInt = (p3 : Int32).toInt) (by decide +kernel : (1 : Int32).toInt = 1) c_373
                      have F_1059 := feq (by decide +kernel : (0 : Int32).toInt = 0) (by decide +kernel : (0 : Int32).toInt = 0) c_831
                      have F_1060 := fnlt (rfl : (p4 : Int32).toInt = (p4 : Int32).toInt) (by decide +kernel : (0 : Int32).toInt = 0) c_832
                      have F_1061 := fnlt (by decide +kernel : (1440 : Int32).toInt = 1440) (rfl : (p4 : Int32).toInt = (p4 : Int32).toInt) c_907
                      have F_1062 := flt (rfl : (p5 : Int32).toInt = (p5 : Int32).toInt) (by decide +kernel : (0 : Int32).toInt = 0) c_986
                      have F_1063 := feq (rfl : (p3 : Int32).toInt = (p3 : Int32).toInt) (by decide +kernel : (3 : Int32).toInt = 3) c_987
                      have F_1064 := fne (by decide +kernel : (1 : Int32).toInt = 1) (by decide +kernel : (0 : Int32).toInt = 0) c_1027
                      have F_1065 := feq (rfl : (p3 : Int32).toInt = (p3 : Int32).toInt) (by decide +kernel : (4 : Int32).toInt = 4) c_1028
                      have F_1066 := fne (by decide +kernel : (1 : Int32).toInt = 1) (by decide +kernel : (0 : Int32).toInt = 0) c_1048
                      have F_1067 := fne (by decide +kernel : (1 : Int32).toInt = 1) (by decide +kernel : (0 : Int32).toInt = 0) c_1049
                      have F_1068 := fne (by decide +kernel : (1 : Int32).toInt = 1) (by decide +kernel : (0 : Int32).toInt = 0) c_1050
                      exact W.zret (v := 0) (ty := .boolean) hx hb hr rfl (fun t ht hW => ⟨⟨0, d_1052, rfl, ⟨hgd_1052, (fun _ => hPod_1052), hfd_1052, ⟨hId_1052, Or.inl ⟨by have h0_ : (0 : Int32).toInt = 0 := (by decide +kernel); omega, by omega, (zTr.ag (zTr.ag zTr.rf hSh hm_h0 hk_h0 hsd_1 (by decide)) hSh hm_h0 hk_h0 hgad_1052 (by decide))⟩⟩⟩, by rw [ht]; exact hP, hD⟩, hS.F ht⟩) hS.2.2 dX9_term_176
                · refine lv_iload hx hb dX9_term_69 (lv_at hl 8 rfl) ?_
                  refine lv_sipush (v := 1440) hx hb dX9_term_71 (by decide) ?_
                  refine lv_icmp_le (tgt := 81) hx hb dX9_term_74 (by decide) (fun c_1069 => ?_) (fun c_1069 => ?_)
                  · refine lv_iconst (v := 0) hx hb dX9_term_81 (by decide) ?_
                    refine lv_istore (lv' := [(8, .int 0), (7, .int r_2), (0, .ref h0), (1, .int p0), (2, .int p1), (3, .int p2), (4, .int p3), (5, .int p4), (6, .int p5)]) hx hb dX9_term_82 hl (by decide) rfl (fun ls hl => ?_)
                    refine lv_iload hx hb dX9_term_84 (lv_at hl 6 rfl) ?_
                    refine lv_iconst (v := 3) hx hb dX9_term_86 (by decide) ?_
                    refine lv_icmp_ne (tgt := 113) hx hb dX9_term_87 (by decide) (fun c_1070 => ?_) (fun c_1070 => ?_)
                    · refine lv_iload hx hb dX9_term_113 (lv_at hl 6 rfl) ?_
                      refine lv_iconst (v := 4) hx hb dX9_term_115 (by decide) ?_
                      refine lv_icmp_ne (tgt := 155) hx hb dX9_term_116 (by decide) (fun c_1071 => ?_) (fun c_1071 => ?_)
                      · refine lv_iload hx hb dX9_term_155 (lv_at hl 0 rfl) ?_
                        refine lv_if_eq (tgt := 163) hx hb dX9_term_157 (by decide) (fun c_1072 => ?_) (fun c_1072 => absurd c_1072 (by decide +kernel))
                        refine lv_iload hx hb dX9_term_163 (lv_at hl 1 rfl) ?_
                        refine lv_if_eq (tgt := 177) hx hb dX9_term_165 (by decide) (fun c_1073 => ?_) (fun c_1073 => ?_)
                        · refine lv_bipush (v := 60) hx hb dX9_term_177 (by decide) ?_
                          refine lv_iload_n hx hb dX9_term_179 rfl (lv_at hl 3 rfl) ?_
                          refine lv_imul hx hb dX9_term_180 ?_
                          refine lv_topi (fun z_1074 ez_1074 => ?_)
                          refine lv_iload_n hx hb dX9_term_181 rfl (lv_at hl 4 rfl) ?_
                          refine lv_iadd hx hb dX9_term_182 ?_
                          refine lv_topi (fun z_1075 ez_1075 => ?_)
                          refine lv_istore (lv' := [(9, .int z_1075), (8, .int 0), (7, .int r_2), (0, .ref h0), (1, .int p0), (2, .int p1), (3, .int p2), (4, .int p3), (5, .int p4), (6, .int p5)]) hx hb dX9_term_183 hl (by decide) rfl (fun ls hl => ?_)
                          refine lv_aload_n hx hb dX9_term_185 rfl (lv_at hl 3 rfl) ?_
                          refine yget (ci := 9) (k := 4) (v := .ref (S.2.2.1 h0 4)) (C := RX9) (T := TX9) (N := 67) C0 hK hP hm_h0 hk_h0 (by decide) rfl inlX9 (by decide) mW108 (fun _ h9 => h9) rfl dX9_term_186 ?_
                          obtain ⟨hmy_1076, hky_1076⟩ := ySh.f9_4 hSh _ hm_h0 hk_h0
                          refine lv_iload hx hb dX9_term_189 (lv_at hl 0 rfl) ?_
                          refine lv_iconst (v := 2) hx hb dX9_term_191 (by decide) ?_
                          have hCC_1077 := yMI.c hId_1
                          have F_1078 := fnlt (rfl : (p2 : Int32).toInt = (p2 : Int32).toInt) (by decide +kernel : (0 : Int32).toInt = 0) c_3
                          have F_1079 := fnlt (by decide +kernel : (4 : Int32).toInt = 4) (rfl : (p2 : Int32).toInt = (p2 : Int32).toInt) c_118
                          have F_1080 := fnlt (rfl : (p3 : Int32).toInt = (p3 : Int32).toInt) (by decide +kernel : (0 : Int32).toInt = 0) c_241
                          have F_1081 := fle (rfl : (p3 : Int32).toInt = (p3 : Int32).toInt) (by decide +kernel : (4 : Int32).toInt = 4) c_372
                          have F_1082 := feq (rfl : (p3 : Int32).toInt = (p3 : Int32).toInt) (by decide +kernel : (1 : Int32).toInt = 1) c_373
                          have F_1083 := feq (by decide +kernel : (0 : Int32).toInt = 0) (by decide +kernel : (0 : Int32).toInt = 0) c_831
                          have F_1084 := fnlt (rfl : (p4 : Int32).toInt = (p4 : Int32).toInt) (by decide +kernel : (0 : Int32).toInt = 0) c_832
                          have F_1085 := fnlt (by decide +kernel : (1440 : Int32).toInt = 1440) (rfl : (p4 : Int32).toInt = (p4 : Int32).toInt) c_907
                          have F_1086 := fnlt (rfl : (p5 : Int32).toInt = (p5 : Int32).toInt) (by decide +kernel : (0 : Int32).toInt = 0) c_986
                          have F_1087 := fle (rfl : (p5 : Int32).toInt = (p5 : Int32).toInt) (by decide +kernel : (1440 : Int32).toInt = 1440) c_1069
                          have F_1088 := fne (rfl : (p3 : Int32).toInt = (p3 : Int32).toInt) (by decide +kernel : (3 : Int32).toInt = 3) c_1070
                          have F_1089 := fne (rfl : (p3 : Int32).toInt = (p3 : Int32).toInt) (by decide +kernel : (4 : Int32).toInt = 4) c_1071
                          have F_1090 := feq (by decide +kernel : (0 : Int32).toInt = 0) (by decide +kernel : (0 : Int32).toInt = 0) c_1072
                          have F_1091 := feq (rfl : (r_2 : Int32).toInt = (r_2 : Int32).toInt) (by decide +kernel : (0 : Int32).toInt = 0) c_1073
                          have T_1093 : (z_1074 : Int32).toInt = 60 * (p0 : Int32).toInt := tmul ez_1074 (by decide +kernel : (60 : Int32).toInt = 60) (rfl : (p0 : Int32).toInt = (p0 : Int32).toInt) (by omega) (by omega)
                          have T_1092 : (z_1075 : Int32).toInt = (z_1074 : Int32).toInt + (p1 : Int32).toInt := tadd ez_1075 (rfl : (z_1074 : Int32).toInt = (z_1074 : Int32).toInt) (rfl : (p1 : Int32).toInt = (p1 : Int32).toInt) (by omega) (by omega)
                          refine yastB C0 hK hP hD hS hmy_1076 hky_1076 (by decide) rfl 1 rfl (xinT 2400 rfl (by omega) (by omega)) dX9_term_192 (fun H locs hP hD hS => ?_)
                          obtain ⟨d_1094, ed_1094⟩ : ∃ z : yD, z = ycs d_1 (S.2.2.1 h0 4) (upd (d_1.2.2.2.1 (S.2.2.1 h0 4)) (z_1075 : Int32).toNatClampNeg (vp_nar .byte 2)) := ⟨_, rfl⟩
                          rw [← ed_1094] at hP hD
                          have hgd_1094 : yAg S [9, 34, 35, 36, 37, 38, 39, 40, 69] d d_1094 := by rw [ed_1094]; exact yAg.cs hgd_1 (by rw [hky_1076]; decide)
                          have hsd_1094 : yAg S [34] d_1 d_1094 := by rw [ed_1094]; exact yAg.cs yAg.rf (by rw [hky_1076]; decide)
                          have hPod_1094 : yPo S d_1094 := by rw [ed_1094]; exact hPod_1
                          have hfd_1094 : yK [38] d d_1094 h0 := yK.ag hfd_1 (show yAg S [34] d_1 d_1094 from by rw [ed_1094]; exact yAg.cs yAg.rf (by rw [hky_1076]; decide)) (by rw [hk_h0]; decide)
                          have hId_1094 : yMI S d_1094 h0 := yMI.ag hId_1 hSh hm_h0 hk_h0 (show yAg S [34] d_1 d_1094 from by rw [ed_1094]; exact yAg.cs yAg.rf (by rw [hky_1076]; decide)) (yK.ag (F := []) yK.rf (show yAg S [34] d_1 d_1094 from by rw [ed_1094]; exact yAg.cs yAg.rf (by rw [hky_1076]; decide)) (by rw [hk_h0]; decide)) (by decide) (by decide)
                          have hE0d_1094 : (d_1094.1 h0 0).toInt = (d_1.1 h0 0).toInt := congrArg Int32.toInt ((yK.ag (F := []) yK.rf (show yAg S [34] d_1 d_1094 from by rw [ed_1094]; exact yAg.cs yAg.rf (by rw [hky_1076]; decide)) (by rw [hk_h0]; decide)) 0 (by decide))
                          have hE1d_1094 : (d_1094.1 h0 1).toInt = (d_1.1 h0 1).toInt := congrArg Int32.toInt ((yK.ag (F := []) yK.rf (show yAg S [34] d_1 d_1094 from by rw [ed_1094]; exact yAg.cs yAg.rf (by rw [hky_1076]; decide)) (by rw [hk_h0]; decide)) 1 (by decide))
                          have hE2d_1094 : (d_1094.1 h0 2).toInt = (d_1.1 h0 2).toInt := congrArg Int32.toInt ((yK.ag (F := []) yK.rf (show yAg S [34] d_1 d_1094 from by rw [ed_1094]; exact yAg.cs yAg.rf (by rw [hky_1076]; decide)) (by rw [hk_h0]; decide)) 2 (by decide))
                          have hE3d_1094 : (d_1094.1 h0 3).toInt = (d_1.1 h0 3).toInt := congrArg Int32.toInt ((yK.ag (F := []) yK.rf (show yAg S [34] d_1 d_1094 from by rw [ed_1094]; exact yAg.cs yAg.rf (by rw [hky_1076]; decide)) (by rw [hk_h0]; decide)) 3 (by decide))
                          have hE63d_1094 : (d_1094.1 h0 63).toInt = (d_1.1 h0 63).toInt := congrArg Int32.toInt ((yK.ag (F := []) yK.rf (show yAg S [34] d_1 d_1094 from by rw [ed_1094]; exact yAg.cs yAg.rf (by rw [hky_1076]; decide)) (by rw [hk_h0]; decide)) 63 (by decide))
                          refine lv_aload_n hx hb dX9_term_193 rfl (lv_at hl 3 rfl) ?_
                          refine yget (ci := 9) (k := 5) (v := .ref (S.2.2.1 h0 5)) (C := RX9) (T := TX9) (N := 67) C0 hK hP hm_h0 hk_h0 (by decide) rfl inlX9 (by decide) mW109 (fun _ h9 => h9) rfl dX9_term_194 ?_
                          obtain ⟨hmy_1095, hky_1095⟩ := ySh.f9_5 hSh _ hm_h0 hk_h0
                          refine lv_iload hx hb dX9_term_197 (lv_at hl 0 rfl) ?_
                          refine lv_iload_n hx hb dX9_term_199 rfl (lv_at hl 6 rfl) ?_
                          refine lv_i2b hx hb dX9_term_200 rfl ?_
                          refine lv_topi (fun z_1096 ez_1096 => ?_)
                          have hCC_1097 := yMI.c hId_1094
                          refine yastB C0 hK hP hD hS hmy_1095 hky_1095 (by decide) rfl 1 rfl (xinT 2400 rfl (by omega) (by omega)) dX9_term_201 (fun H locs hP hD hS => ?_)
                          obtain ⟨d_1098, ed_1098⟩ : ∃ z : yD, z = ycs d_1094 (S.2.2.1 h0 5) (upd (d_1094.2.2.2.1 (S.2.2.1 h0 5)) (z_1075 : Int32).toNatClampNeg (vp_nar .byte z_1096)) := ⟨_, rfl⟩
                          rw [← ed_1098] at hP hD
                          have hgd_1098 : yAg S [9, 34, 35, 36, 37, 38, 39, 40, 69] d d_1098 := by rw [ed_1098]; exact yAg.cs hgd_1094 (by rw [hky_1095]; decide)
                          have hsd_1098 : yAg S [35] d_1094 d_1098 := by rw [ed_1098]; exact yAg.cs yAg.rf (by rw [hky_1095]; decide)
                          have hPod_1098 : yPo S d_1098 := by rw [ed_1098]; exact hPod_1094
                          have hfd_1098 : yK [38] d d_1098 h0 := yK.ag hfd_1094 (show yAg S [35] d_1094 d_1098 from by rw [ed_1098]; exact yAg.cs yAg.rf (by rw [hky_1095]; decide)) (by rw [hk_h0]; decide)
                          have hId_1098 : yMI S d_1098 h0 := yMI.ag hId_1094 hSh hm_h0 hk_h0 (show yAg S [35] d_1094 d_1098 from by rw [ed_1098]; exact yAg.cs yAg.rf (by rw [hky_1095]; decide)) (yK.ag (F := []) yK.rf (show yAg S [35] d_1094 d_1098 from by rw [ed_1098]; exact yAg.cs yAg.rf (by rw [hky_1095]; decide)) (by rw [hk_h0]; decide)) (by decide) (by decide)
                          have hE0d_1098 : (d_1098.1 h0 0).toInt = (d_1094.1 h0 0).toInt := congrArg Int32.toInt ((yK.ag (F := []) yK.rf (show yAg S [35] d_1094 d_1098 from by rw [ed_1098]; exact yAg.cs yAg.rf (by rw [hky_1095]; decide)) (by rw [hk_h0]; decide)) 0 (by decide))
                          have hE1d_1098 : (d_1098.1 h0 1).toInt = (d_1094.1 h0 1).toInt := congrArg Int32.toInt ((yK.ag (F := []) yK.rf (show yAg S [35] d_1094 d_1098 from by rw [ed_1098]; exact yAg.cs yAg.rf (by rw [hky_1095]; decide)) (by rw [hk_h0]; decide)) 1 (by decide))
                          have hE2d_1098 : (d_1098.1 h0 2).toInt = (d_1094.1 h0 2).toInt := congrArg Int32.toInt ((yK.ag (F := []) yK.rf (show yAg S [35] d_1094 d_1098 from by rw [ed_1098]; exact yAg.cs yAg.rf (by rw [hky_1095]; decide)) (by rw [hk_h0]; decide)) 2 (by decide))
                          have hE3d_1098 : (d_1098.1 h0 3).toInt = (d_1094.1 h0 3).toInt := congrArg Int32.toInt ((yK.ag (F := []) yK.rf (show yAg S [35] d_1094 d_1098 from by rw [ed_1098]; exact yAg.cs yAg.rf (by rw [hky_1095]; decide)) (by rw [hk_h0]; decide)) 3 (by decide))
                          have hE63d_1098 : (d_1098.1 h0 63).toInt = (d_1094.1 h0 63).toInt := congrArg Int32.toInt ((yK.ag (F := []) yK.rf (show yAg S [35] d_1094 d_1098 from by rw [ed_1098]; exact yAg.cs yAg.rf (by rw [hky_1095]; decide)) (by rw [hk_h0]; decide)) 63 (by decide))
                          refine lv_aload_n hx hb dX9_term_202 rfl (lv_at hl 3 rfl) ?_
                          refine yget (ci := 9) (k := 6) (v := .ref (S.2.2.1 h0 6)) (C := RX9) (T := TX9) (N := 67) C0 hK hP hm_h0 hk_h0 (by decide) rfl inlX9 (by decide) mW110 (fun _ h9 => h9) rfl dX9_term_203 ?_
                          obtain ⟨hmy_1099, hky_1099⟩ := ySh.f9_6 hSh _ hm_h0 hk_h0
                          refine lv_iload hx hb dX9_term_206 (lv_at hl 0 rfl) ?_
                          refine lv_iload hx hb dX9_term_208 (lv_at hl 7 rfl) ?_
                          refine lv_i2b hx hb dX9_term_210 rfl ?_
                          refine lv_topi (fun z_1100 ez_1100 => ?_)
                          have hCC_1101 := yMI.c hId_1098
                          refine yastB C0 hK hP hD hS hmy_1099 hky_1099 (by decide) rfl 1 rfl (xinT 2400 rfl (by omega) (by omega)) dX9_term_211 (fun H locs hP hD hS => ?_)
                          obtain ⟨d_1102, ed_1102⟩ : ∃ z : yD, z = ycs d_1098 (S.2.2.1 h0 6) (upd (d_1098.2.2.2.1 (S.2.2.1 h0 6)) (z_1075 : Int32).toNatClampNeg (vp_nar .byte z_1100)) := ⟨_, rfl⟩
                          rw [← ed_1102] at hP hD
                          have hgd_1102 : yAg S [9, 34, 35, 36, 37, 38, 39, 40, 69] d d_1102 := by rw [ed_1102]; exact yAg.cs hgd_1098 (by rw [hky_1099]; decide)
                          have hsd_1102 : yAg S [36] d_1098 d_1102 := by rw [ed_1102]; exact yAg.cs yAg.rf (by rw [hky_1099]; decide)
                          have hPod_1102 : yPo S d_1102 := by rw [ed_1102]; exact hPod_1098
                          have hfd_1102 : yK [38] d d_1102 h0 := yK.ag hfd_1098 (show yAg S [36] d_1098 d_1102 from by rw [ed_1102]; exact yAg.cs yAg.rf (by rw [hky_1099]; decide)) (by rw [hk_h0]; decide)
                          have hId_1102 : yMI S d_1102 h0 := yMI.ag hId_1098 hSh hm_h0 hk_h0 (show yAg S [36] d_1098 d_1102 from by rw [ed_1102]; exact yAg.cs yAg.rf (by rw [hky_1099]; decide)) (yK.ag (F := []) yK.rf (show yAg S [36] d_1098 d_1102 from by rw [ed_1102]; exact yAg.cs yAg.rf (by rw [hky_1099]; decide)) (by rw [hk_h0]; decide)) (by decide) (by decide)
                          have hE0d_1102 : (d_1102.1 h0 0).toInt = (d_1098.1 h0 0).toInt := congrArg Int32.toInt ((yK.ag (F := []) yK.rf (show yAg S [36] d_1098 d_1102 from by rw [ed_1102]; exact yAg.cs yAg.rf (by rw [hky_1099]; decide)) (by rw [hk_h0]; decide)) 0 (by decide))
                          have hE1d_1102 : (d_1102.1 h0 1).toInt = (d_1098.1 h0 1).toInt := congrArg Int32.toInt ((yK.ag (F := []) yK.rf (show yAg S [36] d_1098 d_1102 from by rw [ed_1102]; exact yAg.cs yAg.rf (by rw [hky_1099]; decide)) (by rw [hk_h0]; decide)) 1 (by decide))
                          have hE2d_1102 : (d_1102.1 h0 2).toInt = (d_1098.1 h0 2).toInt := congrArg Int32.toInt ((yK.ag (F := []) yK.rf (show yAg S [36] d_1098 d_1102 from by rw [ed_1102]; exact yAg.cs yAg.rf (by rw [hky_1099]; decide)) (by rw [hk_h0]; decide)) 2 (by decide))
                          have hE3d_1102 : (d_1102.1 h0 3).toInt = (d_1098.1 h0 3).toInt := congrArg Int32.toInt ((yK.ag (F := []) yK.rf (show yAg S [36] d_1098 d_1102 from by rw [ed_1102]; exact yAg.cs yAg.rf (by rw [hky_1099]; decide)) (by rw [hk_h0]; decide)) 3 (by decide))
                          have hE63d_1102 : (d_1102.1 h0 63).toInt = (d_1098.1 h0 63).toInt := congrArg Int32.toInt ((yK.ag (F := []) yK.rf (show yAg S [36] d_1098 d_1102 from by rw [ed_1102]; exact yAg.cs yAg.rf (by rw [hky_1099]; decide)) (by rw [hk_h0]; decide)) 63 (by decide))
                          refine lv_aload_n hx hb dX9_term_212 rfl (lv_at hl 3 rfl) ?_
                          refine yget (ci := 9) (k := 7) (v := .ref (S.2.2.1 h0 7)) (C := RX9) (T := TX9) (N := 67) C0 hK hP hm_h0 hk_h0 (by decide) rfl inlX9 (by decide) mW111 (fun _ h9 => h9) rfl dX9_term_213 ?_
                          obtain ⟨hmy_1103, hky_1103⟩ := ySh.f9_7 hSh _ hm_h0 hk_h0
                          refine lv_iload hx hb dX9_term_216 (lv_at hl 0 rfl) ?_
                          refine lv_iload hx hb dX9_term_218 (lv_at hl 8 rfl) ?_
                          have hCC_1104 := yMI.c hId_1102
                          refine yast C0 hK hP hD hS hmy_1103 hky_1103 (by decide) rfl 0 rfl (xinT 2400 rfl (by omega) (by omega)) dX9_term_220 (fun H locs hP hD hS => ?_)
                          obtain ⟨d_1105, ed_1105⟩ : ∃ z : yD, z = ycs d_1102 (S.2.2.1 h0 7) (upd (d_1102.2.2.2.1 (S.2.2.1 h0 7)) (z_1075 : Int32).toNatClampNeg p4) := ⟨_, rfl⟩
                          rw [← ed_1105] at hP hD
                          have hgd_1105 : yAg S [9, 34, 35, 36, 37, 38, 39, 40, 69] d d_1105 := by rw [ed_1105]; exact yAg.cs hgd_1102 (by rw [hky_1103]; decide)
                          have hsd_1105 : yAg S [37] d_1102 d_1105 := by rw [ed_1105]; exact yAg.cs yAg.rf (by rw [hky_1103]; decide)
                          have hPod_1105 : yPo S d_1105 := by rw [ed_1105]; exact hPod_1102
                          have hfd_1105 : yK [38] d d_1105 h0 := yK.ag hfd_1102 (show yAg S [37] d_1102 d_1105 from by rw [ed_1105]; exact yAg.cs yAg.rf (by rw [hky_1103]; decide)) (by rw [hk_h0]; decide)
                          have hId_1105 : yMI S d_1105 h0 := yMI.ag hId_1102 hSh hm_h0 hk_h0 (show yAg S [37] d_1102 d_1105 from by rw [ed_1105]; exact yAg.cs yAg.rf (by rw [hky_1103]; decide)) (yK.ag (F := []) yK.rf (show yAg S [37] d_1102 d_1105 from by rw [ed_1105]; exact yAg.cs yAg.rf (by rw [hky_1103]; decide)) (by rw [hk_h0]; decide)) (by decide) (by decide)
                          have hE0d_1105 : (d_1105.1 h0 0).toInt = (d_1102.1 h0 0).toInt := congrArg Int32.toInt ((yK.ag (F := []) yK.rf (show yAg S [37] d_1102 d_1105 from by rw [ed_1105]; exact yAg.cs yAg.rf (by rw [hky_1103]; decide)) (by rw [hk_h0]; decide)) 0 (by decide))
                          have hE1d_1105 : (d_1105.1 h0 1).toInt = (d_1102.1 h0 1).toInt := congrArg Int32.toInt ((yK.ag (F := []) yK.rf (show yAg S [37] d_1102 d_1105 from by rw [ed_1105]; exact yAg.cs yAg.rf (by rw [hky_1103]; decide)) (by rw [hk_h0]; decide)) 1 (by decide))
                          have hE2d_1105 : (d_1105.1 h0 2).toInt = (d_1102.1 h0 2).toInt := congrArg Int32.toInt ((yK.ag (F := []) yK.rf (show yAg S [37] d_1102 d_1105 from by rw [ed_1105]; exact yAg.cs yAg.rf (by rw [hky_1103]; decide)) (by rw [hk_h0]; decide)) 2 (by decide))
                          have hE3d_1105 : (d_1105.1 h0 3).toInt = (d_1102.1 h0 3).toInt := congrArg Int32.toInt ((yK.ag (F := []) yK.rf (show yAg S [37] d_1102 d_1105 from by rw [ed_1105]; exact yAg.cs yAg.rf (by rw [hky_1103]; decide)) (by rw [hk_h0]; decide)) 3 (by decide))
                          have hE63d_1105 : (d_1105.1 h0 63).toInt = (d_1102.1 h0 63).toInt := congrArg Int32.toInt ((yK.ag (F := []) yK.rf (show yAg S [37] d_1102 d_1105 from by rw [ed_1105]; exact yAg.cs yAg.rf (by rw [hky_1103]; decide)) (by rw [hk_h0]; decide)) 63 (by decide))
                          refine lv_aload_n hx hb dX9_term_221 rfl (lv_at hl 3 rfl) ?_
                          refine yget (ci := 9) (k := 8) (v := .ref (S.2.2.1 h0 8)) (C := RX9) (T := TX9) (N := 67) C0 hK hP hm_h0 hk_h0 (by decide) rfl inlX9 (by decide) mW112 (fun _ h9 => h9) rfl dX9_term_222 ?_
                          obtain ⟨hmy_1106, hky_1106⟩ := ySh.f9_8 hSh _ hm_h0 hk_h0
                          refine lv_iload hx hb dX9_term_225 (lv_at hl 0 rfl) ?_
                          refine lv_iload hx hb dX9_term_227 (lv_at hl 9 rfl) ?_
                          have hCC_1107 := yMI.c hId_1105
                          refine yast C0 hK hP hD hS hmy_1106 hky_1106 (by decide) rfl 0 rfl (xinT 2400 rfl (by omega) (by omega)) dX9_term_229 (fun H locs hP hD hS => ?_)
                          obtain ⟨d_1108, ed_1108⟩ : ∃ z : yD, z = ycs d_1105 (S.2.2.1 h0 8) (upd (d_1105.2.2.2.1 (S.2.2.1 h0 8)) (z_1075 : Int32).toNatClampNeg p5) := ⟨_, rfl⟩
                          rw [← ed_1108] at hP hD
                          have hgd_1108 : yAg S [9, 34, 35, 36, 37, 38, 39, 40, 69] d d_1108 := by rw [ed_1108]; exact yAg.cs hgd_1105 (by rw [hky_1106]; decide)
                          have hsd_1108 : yAg S [38] d_1105 d_1108 := by rw [ed_1108]; exact yAg.cs yAg.rf (by rw [hky_1106]; decide)
                          have hPod_1108 : yPo S d_1108 := by rw [ed_1108]; exact hPod_1105
                          have hfd_1108 : yK [38] d d_1108 h0 := yK.ag hfd_1105 (show yAg S [38] d_1105 d_1108 from by rw [ed_1108]; exact yAg.cs yAg.rf (by rw [hky_1106]; decide)) (by rw [hk_h0]; decide)
                          have hId_1108 : yMI S d_1108 h0 := yMI.ag hId_1105 hSh hm_h0 hk_h0 (show yAg S [38] d_1105 d_1108 from by rw [ed_1108]; exact yAg.cs yAg.rf (by rw [hky_1106]; decide)) (yK.ag (F := []) yK.rf (show yAg S [38] d_1105 d_1108 from by rw [ed_1108]; exact yAg.cs yAg.rf (by rw [hky_1106]; decide)) (by rw [hk_h0]; decide)) (by decide) (by decide)
                          have hE0d_1108 : (d_1108.1 h0 0).toInt = (d_1105.1 h0 0).toInt := congrArg Int32.toInt ((yK.ag (F := []) yK.rf (show yAg S [38] d_1105 d_1108 from by rw [ed_1108]; exact yAg.cs yAg.rf (by rw [hky_1106]; decide)) (by rw [hk_h0]; decide)) 0 (by decide))
                          have hE1d_1108 : (d_1108.1 h0 1).toInt = (d_1105.1 h0 1).toInt := congrArg Int32.toInt ((yK.ag (F := []) yK.rf (show yAg S [38] d_1105 d_1108 from by rw [ed_1108]; exact yAg.cs yAg.rf (by rw [hky_1106]; decide)) (by rw [hk_h0]; decide)) 1 (by decide))
                          have hE2d_1108 : (d_1108.1 h0 2).toInt = (d_1105.1 h0 2).toInt := congrArg Int32.toInt ((yK.ag (F := []) yK.rf (show yAg S [38] d_1105 d_1108 from by rw [ed_1108]; exact yAg.cs yAg.rf (by rw [hky_1106]; decide)) (by rw [hk_h0]; decide)) 2 (by decide))
                          have hE3d_1108 : (d_1108.1 h0 3).toInt = (d_1105.1 h0 3).toInt := congrArg Int32.toInt ((yK.ag (F := []) yK.rf (show yAg S [38] d_1105 d_1108 from by rw [ed_1108]; exact yAg.cs yAg.rf (by rw [hky_1106]; decide)) (by rw [hk_h0]; decide)) 3 (by decide))
                          have hE63d_1108 : (d_1108.1 h0 63).toInt = (d_1105.1 h0 63).toInt := congrArg Int32.toInt ((yK.ag (F := []) yK.rf (show yAg S [38] d_1105 d_1108 from by rw [ed_1108]; exact yAg.cs yAg.rf (by rw [hky_1106]; decide)) (by rw [hk_h0]; decide)) 63 (by decide))
                          refine lv_aload_n hx hb dX9_term_230 rfl (lv_at hl 3 rfl) ?_
                          refine yget (ci := 9) (k := 9) (v := .ref (S.2.2.1 h0 9)) (C := RX9) (T := TX9) (N := 67) C0 hK hP hm_h0 hk_h0 (by decide) rfl inlX9 (by decide) mW113 (fun _ h9 => h9) rfl dX9_term_231 ?_
                          obtain ⟨hmy_1109, hky_1109⟩ := ySh.f9_9 hSh _ hm_h0 hk_h0
                          refine lv_iload hx hb dX9_term_234 (lv_at hl 0 rfl) ?_
                          refine lv_iconst (v := 0) hx hb dX9_term_236 (by decide) ?_
                          have hCC_1110 := yMI.c hId_1108
                          refine yastB C0 hK hP hD hS hmy_1109 hky_1109 (by decide) rfl 1 rfl (xinT 2400 rfl (by omega) (by omega)) dX9_term_237 (fun H locs hP hD hS => ?_)
                          obtain ⟨d_1111, ed_1111⟩ : ∃ z : yD, z = ycs d_1108 (S.2.2.1 h0 9) (upd (d_1108.2.2.2.1 (S.2.2.1 h0 9)) (z_1075 : Int32).toNatClampNeg (vp_nar .byte 0)) := ⟨_, rfl⟩
                          rw [← ed_1111] at hP hD
                          have hgd_1111 : yAg S [9, 34, 35, 36, 37, 38, 39, 40, 69] d d_1111 := by rw [ed_1111]; exact yAg.cs hgd_1108 (by rw [hky_1109]; decide)
                          have hsd_1111 : yAg S [39] d_1108 d_1111 := by rw [ed_1111]; exact yAg.cs yAg.rf (by rw [hky_1109]; decide)
                          have hPod_1111 : yPo S d_1111 := by rw [ed_1111]; exact hPod_1108
                          have hfd_1111 : yK [38] d d_1111 h0 := yK.ag hfd_1108 (show yAg S [39] d_1108 d_1111 from by rw [ed_1111]; exact yAg.cs yAg.rf (by rw [hky_1109]; decide)) (by rw [hk_h0]; decide)
                          have hId_1111 : yMI S d_1111 h0 := yMI.ag hId_1108 hSh hm_h0 hk_h0 (show yAg S [39] d_1108 d_1111 from by rw [ed_1111]; exact yAg.cs yAg.rf (by rw [hky_1109]; decide)) (yK.ag (F := []) yK.rf (show yAg S [39] d_1108 d_1111 from by rw [ed_1111]; exact yAg.cs yAg.rf (by rw [hky_1109]; decide)) (by rw [hk_h0]; decide)) (by decide) (by decide)
                          have hE0d_1111 : (d_1111.1 h0 0).toInt = (d_1108.1 h0 0).toInt := congrArg Int32.toInt ((yK.ag (F := []) yK.rf (show yAg S [39] d_1108 d_1111 from by rw [ed_1111]; exact yAg.cs yAg.rf (by rw [hky_1109]; decide)) (by rw [hk_h0]; decide)) 0 (by decide))
                          have hE1d_1111 : (d_1111.1 h0 1).toInt = (d_1108.1 h0 1).toInt := congrArg Int32.toInt ((yK.ag (F := []) yK.rf (show yAg S [39] d_1108 d_1111 from by rw [ed_1111]; exact yAg.cs yAg.rf (by rw [hky_1109]; decide)) (by rw [hk_h0]; decide)) 1 (by decide))
                          have hE2d_1111 : (d_1111.1 h0 2).toInt = (d_1108.1 h0 2).toInt := congrArg Int32.toInt ((yK.ag (F := []) yK.rf (show yAg S [39] d_1108 d_1111 from by rw [ed_1111]; exact yAg.cs yAg.rf (by rw [hky_1109]; decide)) (by rw [hk_h0]; decide)) 2 (by decide))
                          have hE3d_1111 : (d_1111.1 h0 3).toInt = (d_1108.1 h0 3).toInt := congrArg Int32.toInt ((yK.ag (F := []) yK.rf (show yAg S [39] d_1108 d_1111 from by rw [ed_1111]; exact yAg.cs yAg.rf (by rw [hky_1109]; decide)) (by rw [hk_h0]; decide)) 3 (by decide))
                          have hE63d_1111 : (d_1111.1 h0 63).toInt = (d_1108.1 h0 63).toInt := congrArg Int32.toInt ((yK.ag (F := []) yK.rf (show yAg S [39] d_1108 d_1111 from by rw [ed_1111]; exact yAg.cs yAg.rf (by rw [hky_1109]; decide)) (by rw [hk_h0]; decide)) 63 (by decide))
                          refine lv_aload_n hx hb dX9_term_238 rfl (lv_at hl 3 rfl) ?_
                          refine yget (ci := 9) (k := 10) (v := .ref (S.2.2.1 h0 10)) (C := RX9) (T := TX9) (N := 67) C0 hK hP hm_h0 hk_h0 (by decide) rfl inlX9 (by decide) mW114 (fun _ h9 => h9) rfl dX9_term_239 ?_
                          obtain ⟨hmy_1112, hky_1112⟩ := ySh.f9_10 hSh _ hm_h0 hk_h0
                          refine lv_iload hx hb dX9_term_242 (lv_at hl 0 rfl) ?_
                          refine lv_iconst (v := 0) hx hb dX9_term_244 (by decide) ?_
                          have hCC_1113 := yMI.c hId_1111
                          refine yast C0 hK hP hD hS hmy_1112 hky_1112 (by decide) rfl 0 rfl (xinT 2400 rfl (by omega) (by omega)) dX9_term_245 (fun H locs hP hD hS => ?_)
                          obtain ⟨d_1114, ed_1114⟩ : ∃ z : yD, z = ycs d_1111 (S.2.2.1 h0 10) (upd (d_1111.2.2.2.1 (S.2.2.1 h0 10)) (z_1075 : Int32).toNatClampNeg 0) := ⟨_, rfl⟩
                          rw [← ed_1114] at hP hD
                          have hgd_1114 : yAg S [9, 34, 35, 36, 37, 38, 39, 40, 69] d d_1114 := by rw [ed_1114]; exact yAg.cs hgd_1111 (by rw [hky_1112]; decide)
                          have hsd_1114 : yAg S [40] d_1111 d_1114 := by rw [ed_1114]; exact yAg.cs yAg.rf (by rw [hky_1112]; decide)
                          have hPod_1114 : yPo S d_1114 := by rw [ed_1114]; exact hPod_1111
                          have hfd_1114 : yK [38] d d_1114 h0 := yK.ag hfd_1111 (show yAg S [40] d_1111 d_1114 from by rw [ed_1114]; exact yAg.cs yAg.rf (by rw [hky_1112]; decide)) (by rw [hk_h0]; decide)
                          have hId_1114 : yMI S d_1114 h0 := yMI.ag hId_1111 hSh hm_h0 hk_h0 (show yAg S [40] d_1111 d_1114 from by rw [ed_1114]; exact yAg.cs yAg.rf (by rw [hky_1112]; decide)) (yK.ag (F := []) yK.rf (show yAg S [40] d_1111 d_1114 from by rw [ed_1114]; exact yAg.cs yAg.rf (by rw [hky_1112]; decide)) (by rw [hk_h0]; decide)) (by decide) (by decide)
                          have hE0d_1114 : (d_1114.1 h0 0).toInt = (d_1111.1 h0 0).toInt := congrArg Int32.toInt ((yK.ag (F := []) yK.rf (show yAg S [40] d_1111 d_1114 from by rw [ed_1114]; exact yAg.cs yAg.rf (by rw [hky_1112]; decide)) (by rw [hk_h0]; decide)) 0 (by decide))
                          have hE1d_1114 : (d_1114.1 h0 1).toInt = (d_1111.1 h0 1).toInt := congrArg Int32.toInt ((yK.ag (F := []) yK.rf (show yAg S [40] d_1111 d_1114 from by rw [ed_1114]; exact yAg.cs yAg.rf (by rw [hky_1112]; decide)) (by rw [hk_h0]; decide)) 1 (by decide))
                          have hE2d_1114 : (d_1114.1 h0 2).toInt = (d_1111.1 h0 2).toInt := congrArg Int32.toInt ((yK.ag (F := []) yK.rf (show yAg S [40] d_1111 d_1114 from by rw [ed_1114]; exact yAg.cs yAg.rf (by rw [hky_1112]; decide)) (by rw [hk_h0]; decide)) 2 (by decide))
                          have hE3d_1114 : (d_1114.1 h0 3).toInt = (d_1111.1 h0 3).toInt := congrArg Int32.toInt ((yK.ag (F := []) yK.rf (show yAg S [40] d_1111 d_1114 from by rw [ed_1114]; exact yAg.cs yAg.rf (by rw [hky_1112]; decide)) (by rw [hk_h0]; decide)) 3 (by decide))
                          have hE63d_1114 : (d_1114.1 h0 63).toInt = (d_1111.1 h0 63).toInt := congrArg Int32.toInt ((yK.ag (F := []) yK.rf (show yAg S [40] d_1111 d_1114 from by rw [ed_1114]; exact yAg.cs yAg.rf (by rw [hky_1112]; decide)) (by rw [hk_h0]; decide)) 63 (by decide))
                          refine lv_iconst (v := 1) hx hb dX9_term_246 (by decide) ?_
                          have hCC_1115 := yMI.c hId_1114
                          rw [ez_1096] at ed_1098
                          rw [ez_1100] at ed_1102
                          exact W.zret (v := 1) (ty := .boolean) hx hb hr rfl (fun t ht hW => ⟨⟨1, d_1114, rfl, ⟨hgd_1114, (fun _ => hPod_1114), hfd_1114, ⟨hId_1114, Or.inr ⟨by have h0_ : (1 : Int32).toInt = 1 := (by decide +kernel); omega, by omega, (zRow7 (zTr.ag zTr.rf hSh hm_h0 hk_h0 hsd_1 (by decide)) hSh hm_h0 hk_h0 (show (z_1075 : Int32).toNatClampNeg = (60 * p0.toInt.toNat + p1.toInt.toNat) from (show (z_1075 : Int32).toInt.toNat = _ by omega)) (show (z_1075 : Int32).toNatClampNeg = (60 * p0.toInt.toNat + p1.toInt.toNat) from (show (z_1075 : Int32).toInt.toNat = _ by omega)) (show (z_1075 : Int32).toNatClampNeg = (60 * p0.toInt.toNat + p1.toInt.toNat) from (show (z_1075 : Int32).toInt.toNat = _ by omega)) (show (z_1075 : Int32).toNatClampNeg = (60 * p0.toInt.toNat + p1.toInt.toNat) from (show (z_1075 : Int32).toInt.toNat = _ by omega)) (show (z_1075 : Int32).toNatClampNeg = (60 * p0.toInt.toNat + p1.toInt.toNat) from (show (z_1075 : Int32).toInt.toNat = _ by omega)) (show (z_1075 : Int32).toNatClampNeg = (60 * p0.toInt.toNat + p1.toInt.toNat) from (show (z_1075 : Int32).toInt.toNat = _ by omega)) (show (z_1075 : Int32).toNatClampNeg = (60 * p0.toInt.toNat + p1.toInt.toNat) from (show (z_1075 : Int32).toInt.toNat = _ by omega)) ed_1094 ed_1098 ed_1102 ed_1105 ed_1108 ed_1111 ed_1114)⟩⟩⟩, by rw [ht]; exact hP, hD⟩, hS.F ht⟩) hS.2.2 dX9_term_247
                        · refine lv_aload_n hx hb dX9_term_168 rfl (lv_at hl 2 rfl) ?_
                          refine lv_iload hx hb dX9_term_169 (lv_at hl 1 rfl) ?_
                          have F_1116 := fnlt (rfl : (p2 : Int32).toInt = (p2 : Int32).toInt) (by decide +kernel : (0 : Int32).toInt = 0) c_3
                          have F_1117 := fnlt (by decide +kernel : (4 : Int32).toInt = 4) (rfl : (p2 : Int32).toInt = (p2 : Int32).toInt) c_118
                          have F_1118 := fnlt (rfl : (p3 : Int32).toInt = (p3 : Int32).toInt) (by decide +kernel : (0 : Int32).toInt = 0) c_241
                          have F_1119 := fle (rfl : (p3 : Int32).toInt = (p3 : Int32).toInt) (by decide +kernel : (4 : Int32).toInt = 4) c_372
                          have F_1120 := feq (rfl : (p3 : Int32).toInt = (p3 : Int32).toInt) (by decide +kernel : (1 : Int32).toInt = 1) c_373
                          have F_1121 := feq (by decide +kernel : (0 : Int32).toInt = 0) (by decide +kernel : (0 : Int32).toInt = 0) c_831
                          have F_1122 := fnlt (rfl : (p4 : Int32).toInt = (p4 : Int32).toInt) (by decide +kernel : (0 : Int32).toInt = 0) c_832
                          have F_1123 := fnlt (by decide +kernel : (1440 : Int32).toInt = 1440) (rfl : (p4 : Int32).toInt = (p4 : Int32).toInt) c_907
                          have F_1124 := fnlt (rfl : (p5 : Int32).toInt = (p5 : Int32).toInt) (by decide +kernel : (0 : Int32).toInt = 0) c_986
                          have F_1125 := fle (rfl : (p5 : Int32).toInt = (p5 : Int32).toInt) (by decide +kernel : (1440 : Int32).toInt = 1440) c_1069
                          have F_1126 := fne (rfl : (p3 : Int32).toInt = (p3 : Int32).toInt) (by decide +kernel : (3 : Int32).toInt = 3) c_1070
                          have F_1127 := fne (rfl : (p3 : Int32).toInt = (p3 : Int32).toInt) (by decide +kernel : (4 : Int32).toInt = 4) c_1071
                          have F_1128 := feq (by decide +kernel : (0 : Int32).toInt = 0) (by decide +kernel : (0 : Int32).toInt = 0) c_1072
                          have F_1129 := fne (rfl : (r_2 : Int32).toInt = (r_2 : Int32).toInt) (by decide +kernel : (0 : Int32).toInt = 0) c_1073
                          refine yVwi (As := [.int r_2]) (rest := []) C0 (g_X9_no l G S d_1 h0 r_2 hSh hPod_1 hm_h0 hk_h0 (by refine ⟨?_, ?_⟩ <;> omega)) ok_X9_no (mW177 : Cond.methodLink RX9 168 yX9_no ∈ wsT) ⟨Nat.le_of_ble_eq_true rfl, Nat.le_of_ble_eq_true rfl⟩ hP hD hS hA hK hN hm_h0 hk_h0 (by decide) rfl rfl rfl hl.1 rfl (Nat.le_of_ble_eq_true rfl) ⟨Nat.le_of_ble_eq_true rfl, Nat.le_of_ble_eq_true rfl⟩ dX9_term_171 (fun r_1130 d_1131 H locs hr_1130 hP hD hS => ?_)
                          obtain ⟨hgad_1131, hpad_1131, hfad_1131, hxd_1131⟩ := hr_1130
                          have hfd_1131 : yK [38] d d_1131 h0 := yK.tr hfd_1 hfad_1131 (by decide)
                          have hE0d_1131 : (d_1131.1 h0 0).toInt = (d_1.1 h0 0).toInt := congrArg Int32.toInt (hfad_1131 0 (by decide))
                          have hE1d_1131 : (d_1131.1 h0 1).toInt = (d_1.1 h0 1).toInt := congrArg Int32.toInt (hfad_1131 1 (by decide))
                          have hE2d_1131 : (d_1131.1 h0 2).toInt = (d_1.1 h0 2).toInt := congrArg Int32.toInt (hfad_1131 2 (by decide))
                          have hE3d_1131 : (d_1131.1 h0 3).toInt = (d_1.1 h0 3).toInt := congrArg Int32.toInt (hfad_1131 3 (by decide))
                          have hE63d_1131 : (d_1131.1 h0 63).toInt = (d_1.1 h0 63).toInt := congrArg Int32.toInt (hfad_1131 63 (by decide))
                          have hId_1131 : yMI S d_1131 h0 := yMI.ag hId_1 hSh hm_h0 hk_h0 hgad_1131 hfad_1131 (by decide) (by decide)
                          have hgd_1131 : yAg S [9, 34, 35, 36, 37, 38, 39, 40, 69] d d_1131 := yAg.tr hgd_1 hgad_1131 (by first | decide | exact fun _ h => h)
                          have hPod_1131 : yPo S d_1131 := hpad_1131 hPod_1
                          refine lv_pop hx hb dX9_term_174 rfl ?_
                          refine lv_iconst (v := 0) hx hb dX9_term_175 (by decide) ?_
                          have hCC_1132 := yMI.c hId_1131
                          exact W.zret (v := 0) (ty := .boolean) hx hb hr rfl (fun t ht hW => ⟨⟨0, d_1131, rfl, ⟨hgd_1131, (fun _ => hPod_1131), hfd_1131, ⟨hId_1131, Or.inl ⟨by have h0_ : (0 : Int32).toInt = 0 := (by decide +kernel); omega, by omega, (zTr.ag (zTr.ag zTr.rf hSh hm_h0 hk_h0 hsd_1 (by decide)) hSh hm_h0 hk_h0 hgad_1131 (by decide))⟩⟩⟩, by rw [ht]; exact hP, hD⟩, hS.F ht⟩) hS.2.2 dX9_term_176
                      · refine lv_iload hx hb dX9_term_119 (lv_at hl 0 rfl) ?_
                        refine lv_if_ne (tgt := 148) hx hb dX9_term_121 (by decide) (fun c_1133 => absurd c_1133 (by decide +kernel)) (fun c_1133 => ?_)
                        refine lv_iload hx hb dX9_term_124 (lv_at hl 7 rfl) ?_
                        refine lv_if_lt (tgt := 148) hx hb dX9_term_126 (by decide) (fun c_1134 => absurd c_1134 c_832) (fun c_1134 => ?_)
                        refine lv_iload hx hb dX9_term_129 (lv_at hl 7 rfl) ?_
                        refine lv_ldc (v := 129600) hx hb hown (htl (.constant RX9 174 (129600)) mW221) dX9_term_131 ?_
                        refine lv_icmp_gt (tgt := 148) hx hb dX9_term_133 (by decide) (fun c_1135 => ?_) (fun c_1135 => ?_)
                        · refine lv_iconst (v := 1) hx hb dX9_term_148 (by decide) ?_
                          refine lv_goto (tgt := 153) hx hb dX9_term_149 (by decide) ?_
                          refine lv_istore (lv' := [(8, .int 1), (7, .int r_2), (0, .ref h0), (1, .int p0), (2, .int p1), (3, .int p2), (4, .int p3), (5, .int p4), (6, .int p5)]) hx hb dX9_term_153 hl (by decide) rfl (fun ls hl => ?_)
                          refine lv_iload hx hb dX9_term_155 (lv_at hl 0 rfl) ?_
                          refine lv_if_eq (tgt := 163) hx hb dX9_term_157 (by decide) (fun c_1136 => absurd c_1136 (by decide +kernel)) (fun c_1136 => ?_)
                          refine lv_iconst (v := 1) hx hb dX9_term_160 (by decide) ?_
                          refine lv_istore (lv' := [(7, .int 1), (8, .int 1), (0, .ref h0), (1, .int p0), (2, .int p1), (3, .int p2), (4, .int p3), (5, .int p4), (6, .int p5)]) hx hb dX9_term_161 hl (by decide) rfl (fun ls hl => ?_)
                          refine lv_iload hx hb dX9_term_163 (lv_at hl 0 rfl) ?_
                          refine lv_if_eq (tgt := 177) hx hb dX9_term_165 (by decide) (fun c_1137 => absurd c_1137 (by decide +kernel)) (fun c_1137 => ?_)
                          refine lv_aload_n hx hb dX9_term_168 rfl (lv_at hl 2 rfl) ?_
                          refine lv_iload hx hb dX9_term_169 (lv_at hl 0 rfl) ?_
                          refine yVwi (As := [.int 1]) (rest := []) C0 (g_X9_no l G S d_1 h0 1 hSh hPod_1 hm_h0 hk_h0 (by decide +kernel)) ok_X9_no (mW177 : Cond.methodLink RX9 168 yX9_no ∈ wsT) ⟨Nat.le_of_ble_eq_true rfl, Nat.le_of_ble_eq_true rfl⟩ hP hD hS hA hK hN hm_h0 hk_h0 (by decide) rfl rfl rfl hl.1 rfl (Nat.le_of_ble_eq_true rfl) ⟨Nat.le_of_ble_eq_true rfl, Nat.le_of_ble_eq_true rfl⟩ dX9_term_171 (fun r_1138 d_1139 H locs hr_1138 hP hD hS => ?_)
                          obtain ⟨hgad_1139, hpad_1139, hfad_1139, hxd_1139⟩ := hr_1138
                          have hfd_1139 : yK [38] d d_1139 h0 := yK.tr hfd_1 hfad_1139 (by decide)
                          have hE0d_1139 : (d_1139.1 h0 0).toInt = (d_1.1 h0 0).toInt := congrArg Int32.toInt (hfad_1139 0 (by decide))
                          have hE1d_1139 : (d_1139.1 h0 1).toInt = (d_1.1 h0 1).toInt := congrArg Int32.toInt (hfad_1139 1 (by decide))
                          have hE2d_1139 : (d_1139.1 h0 2).toInt = (d_1.1 h0 2).toInt := congrArg Int32.toInt (hfad_1139 2 (by decide))
                          have hE3d_1139 : (d_1139.1 h0 3).toInt = (d_1.1 h0 3).toInt := congrArg Int32.toInt (hfad_1139 3 (by decide))
                          have hE63d_1139 : (d_1139.1 h0 63).toInt = (d_1.1 h0 63).toInt := congrArg Int32.toInt (hfad_1139 63 (by decide))
                          have hId_1139 : yMI S d_1139 h0 := yMI.ag hId_1 hSh hm_h0 hk_h0 hgad_1139 hfad_1139 (by decide) (by decide)
                          have hgd_1139 : yAg S [9, 34, 35, 36, 37, 38, 39, 40, 69] d d_1139 := yAg.tr hgd_1 hgad_1139 (by first | decide | exact fun _ h => h)
                          have hPod_1139 : yPo S d_1139 := hpad_1139 hPod_1
                          refine lv_pop hx hb dX9_term_174 rfl ?_
                          refine lv_iconst (v := 0) hx hb dX9_term_175 (by decide) ?_
                          have hCC_1140 := yMI.c hId_1139
                          have F_1141 := fnlt (rfl : (p2 : Int32).toInt = (p2 : Int32).toInt) (by decide +kernel : (0 : Int32).toInt = 0) c_3
                          have F_1142 := fnlt (by decide +kernel : (4 : Int32).toInt = 4) (rfl : (p2 : Int32).toInt = (p2 : Int32).toInt) c_118
                          have F_1143 := fnlt (rfl : (p3 : Int32).toInt = (p3 : Int32).toInt) (by decide +kernel : (0 : Int32).toInt = 0) c_241
                          have F_1144 := fle (rfl : (p3 : Int32).toInt = (p3 : Int32).toInt) (by decide +kernel : (4 : Int32).toInt = 4) c_372
                          have F_1145 := feq (rfl : (p3 : Int32).toInt = (p3 : Int32).toInt) (by decide +kernel : (1 : Int32).toInt = 1) c_373
                          have F_1146 := feq (by decide +kernel : (0 : Int32).toInt = 0) (by decide +kernel : (0 : Int32).toInt = 0) c_831
                          have F_1147 := fnlt (rfl : (p4 : Int32).toInt = (p4 : Int32).toInt) (by decide +kernel : (0 : Int32).toInt = 0) c_832
                          have F_1148 := fnlt (by decide +kernel : (1440 : Int32).toInt = 1440) (rfl : (p4 : Int32).toInt = (p4 : Int32).toInt) c_907
                          have F_1149 := fnlt (rfl : (p5 : Int32).toInt = (p5 : Int32).toInt) (by decide +kernel : (0 : Int32).toInt = 0) c_986
                          have F_1150 := fle (rfl : (p5 : Int32).toInt = (p5 : Int32).toInt) (by decide +kernel : (1440 : Int32).toInt = 1440) c_1069
                          have F_1151 := fne (rfl : (p3 : Int32).toInt = (p3 : Int32).toInt) (by decide +kernel : (3 : Int32).toInt = 3) c_1070
                          have F_1152 := feq (rfl : (p3 : Int32).toInt = (p3 : Int32).toInt) (by decide +kernel : (4 : Int32).toInt = 4) c_1071
                          have F_1153 := feq (by decide +kernel : (0 : Int32).toInt = 0) (by decide +kernel : (0 : Int32).toInt = 0) c_1133
                          have F_1154 := fnlt (rfl : (p4 : Int32).toInt = (p4 : Int32).toInt) (by decide +kernel : (0 : Int32).toInt = 0) c_1134
                          have F_1155 := flt (by decide +kernel : (129600 : Int32).toInt = 129600) (rfl : (p4 : Int32).toInt = (p4 : Int32).toInt) c_1135
                          have F_1156 := fne (by decide +kernel : (1 : Int32).toInt = 1) (by decide +kernel : (0 : Int32).toInt = 0) c_1136
                          have F_1157 := fne (by decide +kernel : (1 : Int32).toInt = 1) (by decide +kernel : (0 : Int32).toInt = 0) c_1137
                          exact W.zret (v := 0) (ty := .boolean) hx hb hr rfl (fun t ht hW => ⟨⟨0, d_1139, rfl, ⟨hgd_1139, (fun _ => hPod_1139), hfd_1139, ⟨hId_1139, Or.inl ⟨by have h0_ : (0 : Int32).toInt = 0 := (by decide +kernel); omega, by omega, (zTr.ag (zTr.ag zTr.rf hSh hm_h0 hk_h0 hsd_1 (by decide)) hSh hm_h0 hk_h0 hgad_1139 (by decide))⟩⟩⟩, by rw [ht]; exact hP, hD⟩, hS.F ht⟩) hS.2.2 dX9_term_176
                        · refine lv_iload hx hb dX9_term_136 (lv_at hl 8 rfl) ?_
                          refine lv_if_lt (tgt := 148) hx hb dX9_term_138 (by decide) (fun c_1158 => absurd c_1158 c_986) (fun c_1158 => ?_)
                          refine lv_iload hx hb dX9_term_141 (lv_at hl 8 rfl) ?_
                          refine lv_ldc (v := 129600) hx hb hown (htl (.constant RX9 174 (129600)) mW221) dX9_term_143 ?_
                          refine lv_icmp_le (tgt := 152) hx hb dX9_term_145 (by decide) (fun c_1159 => ?_) (fun c_1159 => ?_)
                          · refine lv_iconst (v := 0) hx hb dX9_term_152 (by decide) ?_
                            refine lv_istore (lv' := [(8, .int 0), (7, .int r_2), (0, .ref h0), (1, .int p0), (2, .int p1), (3, .int p2), (4, .int p3), (5, .int p4), (6, .int p5)]) hx hb dX9_term_153 hl (by decide) rfl (fun ls hl => ?_)
                            refine lv_iload hx hb dX9_term_155 (lv_at hl 0 rfl) ?_
                            refine lv_if_eq (tgt := 163) hx hb dX9_term_157 (by decide) (fun c_1160 => ?_) (fun c_1160 => absurd c_1160 (by decide +kernel))
                            refine lv_iload hx hb dX9_term_163 (lv_at hl 1 rfl) ?_
                            refine lv_if_eq (tgt := 177) hx hb dX9_term_165 (by decide) (fun c_1161 => ?_) (fun c_1161 => ?_)
                            · refine lv_bipush (v := 60) hx hb dX9_term_177 (by decide) ?_
                              refine lv_iload_n hx hb dX9_term_179 rfl (lv_at hl 3 rfl) ?_
                              refine lv_imul hx hb dX9_term_180 ?_
                              refine lv_topi (fun z_1162 ez_1162 => ?_)
                              refine lv_iload_n hx hb dX9_term_181 rfl (lv_at hl 4 rfl) ?_
                              refine lv_iadd hx hb dX9_term_182 ?_
                              refine lv_topi (fun z_1163 ez_1163 => ?_)
                              refine lv_istore (lv' := [(9, .int z_1163), (8, .int 0), (7, .int r_2), (0, .ref h0), (1, .int p0), (2, .int p1), (3, .int p2), (4, .int p3), (5, .int p4), (6, .int p5)]) hx hb dX9_term_183 hl (by decide) rfl (fun ls hl => ?_)
                              refine lv_aload_n hx hb dX9_term_185 rfl (lv_at hl 3 rfl) ?_
                              refine yget (ci := 9) (k := 4) (v := .ref (S.2.2.1 h0 4)) (C := RX9) (T := TX9) (N := 67) C0 hK hP hm_h0 hk_h0 (by decide) rfl inlX9 (by decide) mW108 (fun _ h9 => h9) rfl dX9_term_186 ?_
                              obtain ⟨hmy_1164, hky_1164⟩ := ySh.f9_4 hSh _ hm_h0 hk_h0
                              refine lv_iload hx hb dX9_term_189 (lv_at hl 0 rfl) ?_
                              refine lv_iconst (v := 2) hx hb dX9_term_191 (by decide) ?_
                              have hCC_1165 := yMI.c hId_1
                              have F_1166 := fnlt (rfl : (p2 : Int32).toInt = (p2 : Int32).toInt) (by decide +kernel : (0 : Int32).toInt = 0) c_3
                              have F_1167 := fnlt (by decide +kernel : (4 : Int32).toInt = 4) (rfl : (p2 : Int32).toInt = (p2 : Int32).toInt) c_118
                              have F_1168 := fnlt (rfl : (p3 : Int32).toInt = (p3 : Int32).toInt) (by decide +kernel : (0 : Int32).toInt = 0) c_241
                              have F_1169 := fle (rfl : (p3 : Int32).toInt = (p3 : Int32).toInt) (by decide +kernel : (4 : Int32).toInt = 4) c_372
                              have F_1170 := feq (rfl : (p3 : Int32).toInt = (p3 : Int32).toInt) (by decide +kernel : (1 : Int32).toInt = 1) c_373
                              have F_1171 := feq (by decide +kernel : (0 : Int32).toInt = 0) (by decide +kernel : (0 : Int32).toInt = 0) c_831
                              have F_1172 := fnlt (rfl : (p4 : Int32).toInt = (p4 : Int32).toInt) (by decide +kernel : (0 : Int32).toInt = 0) c_832
                              have F_1173 := fnlt (by decide +kernel : (1440 : Int32).toInt = 1440) (rfl : (p4 : Int32).toInt = (p4 : Int32).toInt) c_907
                              have F_1174 := fnlt (rfl : (p5 : Int32).toInt = (p5 : Int32).toInt) (by decide +kernel : (0 : Int32).toInt = 0) c_986
                              have F_1175 := fle (rfl : (p5 : Int32).toInt = (p5 : Int32).toInt) (by decide +kernel : (1440 : Int32).toInt = 1440) c_1069
                              have F_1176 := fne (rfl : (p3 : Int32).toInt = (p3 : Int32).toInt) (by decide +kernel : (3 : Int32).toInt = 3) c_1070
                              have F_1177 := feq (rfl : (p3 : Int32).toInt = (p3 : Int32).toInt) (by decide +kernel : (4 : Int32).toInt = 4) c_1071
                              have F_1178 := feq (by decide +kernel : (0 : Int32).toInt = 0) (by decide +kernel : (0 : Int32).toInt = 0) c_1133
                              have F_1179 := fnlt (rfl : (p4 : Int32).toInt = (p4 : Int32).toInt) (by decide +kernel : (0 : Int32).toInt = 0) c_1134
                              have F_1180 := fnlt (by decide +kernel : (129600 : Int32).toInt = 129600) (rfl : (p4 : Int32).toInt = (p4 : Int32).toInt) c_1135
                              have F_1181 := fnlt (rfl : (p5 : Int32).toInt = (p5 : Int32).toInt) (by decide +kernel : (0 : Int32).toInt = 0) c_1158
                              have F_1182 := fle (rfl : (p5 : Int32).toInt = (p5 : Int32).toInt) (by decide +kernel : (129600 : Int32).toInt = 129600) c_1159
                              have F_1183 := feq (by decide +kernel : (0 : Int32).toInt = 0) (by decide +kernel : (0 : Int32).toInt = 0) c_1160
                              have F_1184 := feq (rfl : (r_2 : Int32).toInt = (r_2 : Int32).toInt) (by decide +kernel : (0 : Int32).toInt = 0) c_1161
                              have T_1186 : (z_1162 : Int32).toInt = 60 * (p0 : Int32).toInt := tmul ez_1162 (by decide +kernel : (60 : Int32).toInt = 60) (rfl : (p0 : Int32).toInt = (p0 : Int32).toInt) (by omega) (by omega)
                              have T_1185 : (z_1163 : Int32).toInt = (z_1162 : Int32).toInt + (p1 : Int32).toInt := tadd ez_1163 (rfl : (z_1162 : Int32).toInt = (z_1162 : Int32).toInt) (rfl : (p1 : Int32).toInt = (p1 : Int32).toInt) (by omega) (by omega)
                              refine yastB C0 hK hP hD hS hmy_1164 hky_1164 (by decide) rfl 1 rfl (xinT 2400 rfl (by omega) (by omega)) dX9_term_192 (fun H locs hP hD hS => ?_)
                              obtain ⟨d_1187, ed_1187⟩ : ∃ z : yD, z = ycs d_1 (S.2.2.1 h0 4) (upd (d_1.2.2.2.1 (S.2.2.1 h0 4)) (z_1163 : Int32).toNatClampNeg (vp_nar .byte 2)) := ⟨_, rfl⟩
                              rw [← ed_1187] at hP hD
                              have hgd_1187 : yAg S [9, 34, 35, 36, 37, 38, 39, 40, 69] d d_1187 := by rw [ed_1187]; exact yAg.cs hgd_1 (by rw [hky_1164]; decide)
                              have hsd_1187 : yAg S [34] d_1 d_1187 := by rw [ed_1187]; exact yAg.cs yAg.rf (by rw [hky_1164]; decide)
                              have hPod_1187 : yPo S d_1187 := by rw [ed_1187]; exact hPod_1
                              have hfd_1187 : yK [38] d d_1187 h0 := yK.ag hfd_1 (show yAg S [34] d_1 d_1187 from by rw [ed_1187]; exact yAg.cs yAg.rf (by rw [hky_1164]; decide)) (by rw [hk_h0]; decide)
                              have hId_1187 : yMI S d_1187 h0 := yMI.ag hId_1 hSh hm_h0 hk_h0 (show yAg S [34] d_1 d_1187 from by rw [ed_1187]; exact yAg.cs yAg.rf (by rw [hky_1164]; decide)) (yK.ag (F := []) yK.rf (show yAg S [34] d_1 d_1187 from by rw [ed_1187]; exact yAg.cs yAg.rf (by rw [hky_1164]; decide)) (by rw [hk_h0]; decide)) (by decide) (by decide)
                              have hE0d_1187 : (d_1187.1 h0 0).toInt = (d_1.1 h0 0).toInt := congrArg Int32.toInt ((yK.ag (F := []) yK.rf (show yAg S [34] d_1 d_1187 from by rw [ed_1187]; exact yAg.cs yAg.rf (by rw [hky_1164]; decide)) (by rw [hk_h0]; decide)) 0 (by decide))
                              have hE1d_1187 : (d_1187.1 h0 1).toInt = (d_1.1 h0 1).toInt := congrArg Int32.toInt ((yK.ag (F := []) yK.rf (show yAg S [34] d_1 d_1187 from by rw [ed_1187]; exact yAg.cs yAg.rf (by rw [hky_1164]; decide)) (by rw [hk_h0]; decide)) 1 (by decide))
                              have hE2d_1187 : (d_1187.1 h0 2).toInt = (d_1.1 h0 2).toInt := congrArg Int32.toInt ((yK.ag (F := []) yK.rf (show yAg S [34] d_1 d_1187 from by rw [ed_1187]; exact yAg.cs yAg.rf (by rw [hky_1164]; decide)) (by rw [hk_h0]; decide)) 2 (by decide))
                              have hE3d_1187 : (d_1187.1 h0 3).toInt = (d_1.1 h0 3).toInt := congrArg Int32.toInt ((yK.ag (F := []) yK.rf (show yAg S [34] d_1 d_1187 from by rw [ed_1187]; exact yAg.cs yAg.rf (by rw [hky_1164]; decide)) (by rw [hk_h0]; decide)) 3 (by decide))
                              have hE63d_1187 : (d_1187.1 h0 63).toInt = (d_1.1 h0 63).toInt := congrArg Int32.toInt ((yK.ag (F := []) yK.rf (show yAg S [34] d_1 d_1187 from by rw [ed_1187]; exact yAg.cs yAg.rf (by rw [hky_1164]; decide)) (by rw [hk_h0]; decide)) 63 (by decide))
                              refine lv_aload_n hx hb dX9_term_193 rfl (lv_at hl 3 rfl) ?_
                              refine yget (ci := 9) (k := 5) (v := .ref (S.2.2.1 h0 5)) (C := RX9) (T := TX9) (N := 67) C0 hK hP hm_h0 hk_h0 (by decide) rfl inlX9 (by decide) mW109 (fun _ h9 => h9) rfl dX9_term_194 ?_
                              obtain ⟨hmy_1188, hky_1188⟩ := ySh.f9_5 hSh _ hm_h0 hk_h0
                              refine lv_iload hx hb dX9_term_197 (lv_at hl 0 rfl) ?_
                              refine lv_iload_n hx hb dX9_term_199 rfl (lv_at hl 6 rfl) ?_
                              refine lv_i2b hx hb dX9_term_200 rfl ?_
                              refine lv_topi (fun z_1189 ez_1189 => ?_)
                              have hCC_1190 := yMI.c hId_1187
                              refine yastB C0 hK hP hD hS hmy_1188 hky_1188 (by decide) rfl 1 rfl (xinT 2400 rfl (by omega) (by omega)) dX9_term_201 (fun H locs hP hD hS => ?_)
                              obtain ⟨d_1191, ed_1191⟩ : ∃ z : yD, z = ycs d_1187 (S.2.2.1 h0 5) (upd (d_1187.2.2.2.1 (S.2.2.1 h0 5)) (z_1163 : Int32).toNatClampNeg (vp_nar .byte z_1189)) := ⟨_, rfl⟩
                              rw [← ed_1191] at hP hD
                              have hgd_1191 : yAg S [9, 34, 35, 36, 37, 38, 39, 40, 69] d d_1191 := by rw [ed_1191]; exact yAg.cs hgd_1187 (by rw [hky_1188]; decide)
                              have hsd_1191 : yAg S [35] d_1187 d_1191 := by rw [ed_1191]; exact yAg.cs yAg.rf (by rw [hky_1188]; decide)
                              have hPod_1191 : yPo S d_1191 := by rw [ed_1191]; exact hPod_1187
                              have hfd_1191 : yK [38] d d_1191 h0 := yK.ag hfd_1187 (show yAg S [35] d_1187 d_1191 from by rw [ed_1191]; exact yAg.cs yAg.rf (by rw [hky_1188]; decide)) (by rw [hk_h0]; decide)
                              have hId_1191 : yMI S d_1191 h0 := yMI.ag hId_1187 hSh hm_h0 hk_h0 (show yAg S [35] d_1187 d_1191 from by rw [ed_1191]; exact yAg.cs yAg.rf (by rw [hky_1188]; decide)) (yK.ag (F := []) yK.rf (show yAg S [35] d_1187 d_1191 from by rw [ed_1191]; exact yAg.cs yAg.rf (by rw [hky_1188]; decide)) (by rw [hk_h0]; decide)) (by decide) (by decide)
                              have hE0d_1191 : (d_1191.1 h0 0).toInt = (d_1187.1 h0 0).toInt := congrArg Int32.toInt ((yK.ag (F := []) yK.rf (show yAg S [35] d_1187 d_1191 from by rw [ed_1191]; exact yAg.cs yAg.rf (by rw [hky_1188]; decide)) (by rw [hk_h0]; decide)) 0 (by decide))
                              have hE1d_1191 : (d_1191.1 h0 1).toInt = (d_1187.1 h0 1).toInt := congrArg Int32.toInt ((yK.ag (F := []) yK.rf (show yAg S [35] d_1187 d_1191 from by rw [ed_1191]; exact yAg.cs yAg.rf (by rw [hky_1188]; decide)) (by rw [hk_h0]; decide)) 1 (by decide))
                              have hE2d_1191 : (d_1191.1 h0 2).toInt = (d_1187.1 h0 2).toInt := congrArg Int32.toInt ((yK.ag (F := []) yK.rf (show yAg S [35] d_1187 d_1191 from by rw [ed_1191]; exact yAg.cs yAg.rf (by rw [hky_1188]; decide)) (by rw [hk_h0]; decide)) 2 (by decide))
                              have hE3d_1191 : (d_1191.1 h0 3).toInt = (d_1187.1 h0 3).toInt := congrArg Int32.toInt ((yK.ag (F := []) yK.rf (show yAg S [35] d_1187 d_1191 from by rw [ed_1191]; exact yAg.cs yAg.rf (by rw [hky_1188]; decide)) (by rw [hk_h0]; decide)) 3 (by decide))
                              have hE63d_1191 : (d_1191.1 h0 63).toInt = (d_1187.1 h0 63).toInt := congrArg Int32.toInt ((yK.ag (F := []) yK.rf (show yAg S [35] d_1187 d_1191 from by rw [ed_1191]; exact yAg.cs yAg.rf (by rw [hky_1188]; decide)) (by rw [hk_h0]; decide)) 63 (by decide))
                              refine lv_aload_n hx hb dX9_term_202 rfl (lv_at hl 3 rfl) ?_
                              refine yget (ci := 9) (k := 6) (v := .ref (S.2.2.1 h0 6)) (C := RX9) (T := TX9) (N := 67) C0 hK hP hm_h0 hk_h0 (by decide) rfl inlX9 (by decide) mW110 (fun _ h9 => h9) rfl dX9_term_203 ?_
                              obtain ⟨hmy_1192, hky_1192⟩ := ySh.f9_6 hSh _ hm_h0 hk_h0
                              refine lv_iload hx hb dX9_term_206 (lv_at hl 0 rfl) ?_
                              refine lv_iload hx hb dX9_term_208 (lv_at hl 7 rfl) ?_
                              refine lv_i2b hx hb dX9_term_210 rfl ?_
                              refine lv_topi (fun z_1193 ez_1193 => ?_)
                              have hCC_1194 := yMI.c hId_1191
                              refine yastB C0 hK hP hD hS hmy_1192 hky_1192 (by decide) rfl 1 rfl (xinT 2400 rfl (by omega) (by omega)) dX9_term_211 (fun H locs hP hD hS => ?_)
                              obtain ⟨d_1195, ed_1195⟩ : ∃ z : yD, z = ycs d_1191 (S.2.2.1 h0 6) (upd (d_1191.2.2.2.1 (S.2.2.1 h0 6)) (z_1163 : Int32).toNatClampNeg (vp_nar .byte z_1193)) := ⟨_, rfl⟩
                              rw [← ed_1195] at hP hD
                              have hgd_1195 : yAg S [9, 34, 35, 36, 37, 38, 39, 40, 69] d d_1195 := by rw [ed_1195]; exact yAg.cs hgd_1191 (by rw [hky_1192]; decide)
                              have hsd_1195 : yAg S [36] d_1191 d_1195 := by rw [ed_1195]; exact yAg.cs yAg.rf (by rw [hky_1192]; decide)
                              have hPod_1195 : yPo S d_1195 := by rw [ed_1195]; exact hPod_1191
                              have hfd_1195 : yK [38] d d_1195 h0 := yK.ag hfd_1191 (show yAg S [36] d_1191 d_1195 from by rw [ed_1195]; exact yAg.cs yAg.rf (by rw [hky_1192]; decide)) (by rw [hk_h0]; decide)
                              have hId_1195 : yMI S d_1195 h0 := yMI.ag hId_1191 hSh hm_h0 hk_h0 (show yAg S [36] d_1191 d_1195 from by rw [ed_1195]; exact yAg.cs yAg.rf (by rw [hky_1192]; decide)) (yK.ag (F := []) yK.rf (show yAg S [36] d_1191 d_1195 from by rw [ed_1195]; exact yAg.cs yAg.rf (by rw [hky_1192]; decide)) (by rw [hk_h0]; decide)) (by decide) (by decide)
                              have hE0d_1195 : (d_1195.1 h0 0).toInt = (d_1191.1 h0 0).toInt := congrArg Int32.toInt ((yK.ag (F := []) yK.rf (show yAg S [36] d_1191 d_1195 from by rw [ed_1195]; exact yAg.cs yAg.rf (by rw [hky_1192]; decide)) (by rw [hk_h0]; decide)) 0 (by decide))
                              have hE1d_1195 : (d_1195.1 h0 1).toInt = (d_1191.1 h0 1).toInt := congrArg Int32.toInt ((yK.ag (F := []) yK.rf (show yAg S [36] d_1191 d_1195 from by rw [ed_1195]; exact yAg.cs yAg.rf (by rw [hky_1192]; decide)) (by rw [hk_h0]; decide)) 1 (by decide))
                              have hE2d_1195 : (d_1195.1 h0 2).toInt = (d_1191.1 h0 2).toInt := congrArg Int32.toInt ((yK.ag (F := []) yK.rf (show yAg S [36] d_1191 d_1195 from by rw [ed_1195]; exact yAg.cs yAg.rf (by rw [hky_1192]; decide)) (by rw [hk_h0]; decide)) 2 (by decide))
                              have hE3d_1195 : (d_1195.1 h0 3).toInt = (d_1191.1 h0 3).toInt := congrArg Int32.toInt ((yK.ag (F := []) yK.rf (show yAg S [36] d_1191 d_1195 from by rw [ed_1195]; exact yAg.cs yAg.rf (by rw [hky_1192]; decide)) (by rw [hk_h0]; decide)) 3 (by decide))
                              have hE63d_1195 : (d_1195.1 h0 63).toInt = (d_1191.1 h0 63).toInt := congrArg Int32.toInt ((yK.ag (F := []) yK.rf (show yAg S [36] d_1191 d_1195 from by rw [ed_1195]; exact yAg.cs yAg.rf (by rw [hky_1192]; decide)) (by rw [hk_h0]; decide)) 63 (by decide))
                              refine lv_aload_n hx hb dX9_term_212 rfl (lv_at hl 3 rfl) ?_
                              refine yget (ci := 9) (k := 7) (v := .ref (S.2.2.1 h0 7)) (C := RX9) (T := TX9) (N := 67) C0 hK hP hm_h0 hk_h0 (by decide) rfl inlX9 (by decide) mW111 (fun _ h9 => h9) rfl dX9_term_213 ?_
                              obtain ⟨hmy_1196, hky_1196⟩ := ySh.f9_7 hSh _ hm_h0 hk_h0
                              refine lv_iload hx hb dX9_term_216 (lv_at hl 0 rfl) ?_
                              refine lv_iload hx hb dX9_term_218 (lv_at hl 8 rfl) ?_
                              have hCC_1197 := yMI.c hId_1195
                              refine yast C0 hK hP hD hS hmy_1196 hky_1196 (by decide) rfl 0 rfl (xinT 2400 rfl (by omega) (by omega)) dX9_term_220 (fun H locs hP hD hS => ?_)
                              obtain ⟨d_1198, ed_1198⟩ : ∃ z : yD, z = ycs d_1195 (S.2.2.1 h0 7) (upd (d_1195.2.2.2.1 (S.2.2.1 h0 7)) (z_1163 : Int32).toNatClampNeg p4) := ⟨_, rfl⟩
                              rw [← ed_1198] at hP hD
                              have hgd_1198 : yAg S [9, 34, 35, 36, 37, 38, 39, 40, 69] d d_1198 := by rw [ed_1198]; exact yAg.cs hgd_1195 (by rw [hky_1196]; decide)
                              have hsd_1198 : yAg S [37] d_1195 d_1198 := by rw [ed_1198]; exact yAg.cs yAg.rf (by rw [hky_1196]; decide)
                              have hPod_1198 : yPo S d_1198 := by rw [ed_1198]; exact hPod_1195
                              have hfd_1198 : yK [38] d d_1198 h0 := yK.ag hfd_1195 (show yAg S [37] d_1195 d_1198 from by rw [ed_1198]; exact yAg.cs yAg.rf (by rw [hky_1196]; decide)) (by rw [hk_h0]; decide)
                              have hId_1198 : yMI S d_1198 h0 := yMI.ag hId_1195 hSh hm_h0 hk_h0 (show yAg S [37] d_1195 d_1198 from by rw [ed_1198]; exact yAg.cs yAg.rf (by rw [hky_1196]; decide)) (yK.ag (F := []) yK.rf (show yAg S [37] d_1195 d_1198 from by rw [ed_1198]; exact yAg.cs yAg.rf (by rw [hky_1196]; decide)) (by rw [hk_h0]; decide)) (by decide) (by decide)
                              have hE0d_1198 : (d_1198.1 h0 0).toInt = (d_1195.1 h0 0).toInt := congrArg Int32.toInt ((yK.ag (F := []) yK.rf (show yAg S [37] d_1195 d_1198 from by rw [ed_1198]; exact yAg.cs yAg.rf (by rw [hky_1196]; decide)) (by rw [hk_h0]; decide)) 0 (by decide))
                              have hE1d_1198 : (d_1198.1 h0 1).toInt = (d_1195.1 h0 1).toInt := congrArg Int32.toInt ((yK.ag (F := []) yK.rf (show yAg S [37] d_1195 d_1198 from by rw [ed_1198]; exact yAg.cs yAg.rf (by rw [hky_1196]; decide)) (by rw [hk_h0]; decide)) 1 (by decide))
                              have hE2d_1198 : (d_1198.1 h0 2).toInt = (d_1195.1 h0 2).toInt := congrArg Int32.toInt ((yK.ag (F := []) yK.rf (show yAg S [37] d_1195 d_1198 from by rw [ed_1198]; exact yAg.cs yAg.rf (by rw [hky_1196]; decide)) (by rw [hk_h0]; decide)) 2 (by decide))
                              have hE3d_1198 : (d_1198.1 h0 3).toInt = (d_1195.1 h0 3).toInt := congrArg Int32.toInt ((yK.ag (F := []) yK.rf (show yAg S [37] d_1195 d_1198 from by rw [ed_1198]; exact yAg.cs yAg.rf (by rw [hky_1196]; decide)) (by rw [hk_h0]; decide)) 3 (by decide))
                              have hE63d_1198 : (d_1198.1 h0 63).toInt = (d_1195.1 h0 63).toInt := congrArg Int32.toInt ((yK.ag (F := []) yK.rf (show yAg S [37] d_1195 d_1198 from by rw [ed_1198]; exact yAg.cs yAg.rf (by rw [hky_1196]; decide)) (by rw [hk_h0]; decide)) 63 (by decide))
                              refine lv_aload_n hx hb dX9_term_221 rfl (lv_at hl 3 rfl) ?_
                              refine yget (ci := 9) (k := 8) (v := .ref (S.2.2.1 h0 8)) (C := RX9) (T := TX9) (N := 67) C0 hK hP hm_h0 hk_h0 (by decide) rfl inlX9 (by decide) mW112 (fun _ h9 => h9) rfl dX9_term_222 ?_
                              obtain ⟨hmy_1199, hky_1199⟩ := ySh.f9_8 hSh _ hm_h0 hk_h0
                              refine lv_iload hx hb dX9_term_225 (lv_at hl 0 rfl) ?_
                              refine lv_iload hx hb dX9_term_227 (lv_at hl 9 rfl) ?_
                              have hCC_1200 := yMI.c hId_1198
                              refine yast C0 hK hP hD hS hmy_1199 hky_1199 (by decide) rfl 0 rfl (xinT 2400 rfl (by omega) (by omega)) dX9_term_229 (fun H locs hP hD hS => ?_)
                              obtain ⟨d_1201, ed_1201⟩ : ∃ z : yD, z = ycs d_1198 (S.2.2.1 h0 8) (upd (d_1198.2.2.2.1 (S.2.2.1 h0 8)) (z_1163 : Int32).toNatClampNeg p5) := ⟨_, rfl⟩
                              rw [← ed_1201] at hP hD
                              have hgd_1201 : yAg S [9, 34, 35, 36, 37, 38, 39, 40, 69] d d_1201 := by rw [ed_1201]; exact yAg.cs hgd_1198 (by rw [hky_1199]; decide)
                              have hsd_1201 : yAg S [38] d_1198 d_1201 := by rw [ed_1201]; exact yAg.cs yAg.rf (by rw [hky_1199]; decide)
                              have hPod_1201 : yPo S d_1201 := by rw [ed_1201]; exact hPod_1198
                              have hfd_1201 : yK [38] d d_1201 h0 := yK.ag hfd_1198 (show yAg S [38] d_1198 d_1201 from by rw [ed_1201]; exact yAg.cs yAg.rf (by rw [hky_1199]; decide)) (by rw [hk_h0]; decide)
                              have hId_1201 : yMI S d_1201 h0 := yMI.ag hId_1198 hSh hm_h0 hk_h0 (show yAg S [38] d_1198 d_1201 from by rw [ed_1201]; exact yAg.cs yAg.rf (by rw [hky_1199]; decide)) (yK.ag (F := []) yK.rf (show yAg S [38] d_1198 d_1201 from by rw [ed_1201]; exact yAg.cs yAg.rf (by rw [hky_1199]; decide)) (by rw [hk_h0]; decide)) (by decide) (by decide)
                              have hE0d_1201 : (d_1201.1 h0 0).toInt = (d_1198.1 h0 0).toInt := congrArg Int32.toInt ((yK.ag (F := []) yK.rf (show yAg S [38] d_1198 d_1201 from by rw [ed_1201]; exact yAg.cs yAg.rf (by rw [hky_1199]; decide)) (by rw [hk_h0]; decide)) 0 (by decide))
                              have hE1d_1201 : (d_1201.1 h0 1).toInt = (d_1198.1 h0 1).toInt := congrArg Int32.toInt ((yK.ag (F := []) yK.rf (show yAg S [38] d_1198 d_1201 from by rw [ed_1201]; exact yAg.cs yAg.rf (by rw [hky_1199]; decide)) (by rw [hk_h0]; decide)) 1 (by decide))
                              have hE2d_1201 : (d_1201.1 h0 2).toInt = (d_1198.1 h0 2).toInt := congrArg Int32.toInt ((yK.ag (F := []) yK.rf (show yAg S [38] d_1198 d_1201 from by rw [ed_1201]; exact yAg.cs yAg.rf (by rw [hky_1199]; decide)) (by rw [hk_h0]; decide)) 2 (by decide))
                              have hE3d_1201 : (d_1201.1 h0 3).toInt = (d_1198.1 h0 3).toInt := congrArg Int32.toInt ((yK.ag (F := []) yK.rf (show yAg S [38] d_1198 d_1201 from by rw [ed_1201]; exact yAg.cs yAg.rf (by rw [hky_1199]; decide)) (by rw [hk_h0]; decide)) 3 (by decide))
                              have hE63d_1201 : (d_1201.1 h0 63).toInt = (d_1198.1 h0 63).toInt := congrArg Int32.toInt ((yK.ag (F := []) yK.rf (show yAg S [38] d_1198 d_1201 from by rw [ed_1201]; exact yAg.cs yAg.rf (by rw [hky_1199]; decide)) (by rw [hk_h0]; decide)) 63 (by decide))
                              refine lv_aload_n hx hb dX9_term_230 rfl (lv_at hl 3 rfl) ?_
                              refine yget (ci := 9) (k := 9) (v := .ref (S.2.2.1 h0 9)) (C := RX9) (T := TX9) (N := 67) C0 hK hP hm_h0 hk_h0 (by decide) rfl inlX9 (by decide) mW113 (fun _ h9 => h9) rfl dX9_term_231 ?_
                              obtain ⟨hmy_1202, hky_1202⟩ := ySh.f9_9 hSh _ hm_h0 hk_h0
                              refine lv_iload hx hb dX9_term_234 (lv_at hl 0 rfl) ?_
                              refine lv_iconst (v := 0) hx hb dX9_term_236 (by decide) ?_
                              have hCC_1203 := yMI.c hId_1201
                              refine yastB C0 hK hP hD hS hmy_1202 hky_1202 (by decide) rfl 1 rfl (xinT 2400 rfl (by omega) (by omega)) dX9_term_237 (fun H locs hP hD hS => ?_)
                              obtain ⟨d_1204, ed_1204⟩ : ∃ z : yD, z = ycs d_1201 (S.2.2.1 h0 9) (upd (d_1201.2.2.2.1 (S.2.2.1 h0 9)) (z_1163 : Int32).toNatClampNeg (vp_nar .byte 0)) := ⟨_, rfl⟩
                              rw [← ed_1204] at hP hD
                              have hgd_1204 : yAg S [9, 34, 35, 36, 37, 38, 39, 40, 69] d d_1204 := by rw [ed_1204]; exact yAg.cs hgd_1201 (by rw [hky_1202]; decide)
                              have hsd_1204 : yAg S [39] d_1201 d_1204 := by rw [ed_1204]; exact yAg.cs yAg.rf (by rw [hky_1202]; decide)
                              have hPod_1204 : yPo S d_1204 := by rw [ed_1204]; exact hPod_1201
                              have hfd_1204 : yK [38] d d_1204 h0 := yK.ag hfd_1201 (show yAg S [39] d_1201 d_1204 from by rw [ed_1204]; exact yAg.cs yAg.rf (by rw [hky_1202]; decide)) (by rw [hk_h0]; decide)
                              have hId_1204 : yMI S d_1204 h0 := yMI.ag hId_1201 hSh hm_h0 hk_h0 (show yAg S [39] d_1201 d_1204 from by rw [ed_1204]; exact yAg.cs yAg.rf (by rw [hky_1202]; decide)) (yK.ag (F := []) yK.rf (show yAg S [39] d_1201 d_1204 from by rw [ed_1204]; exact yAg.cs yAg.rf (by rw [hky_1202]; decide)) (by rw [hk_h0]; decide)) (by decide) (by decide)
                              have hE0d_1204 : (d_1204.1 h0 0).toInt = (d_1201.1 h0 0).toInt := congrArg Int32.toInt ((yK.ag (F := []) yK.rf (show yAg S [39] d_1201 d_1204 from by rw [ed_1204]; exact yAg.cs yAg.rf (by rw [hky_1202]; decide)) (by rw [hk_h0]; decide)) 0 (by decide))
                              have hE1d_1204 : (d_1204.1 h0 1).toInt = (d_1201.1 h0 1).toInt := congrArg Int32.toInt ((yK.ag (F := []) yK.rf (show yAg S [39] d_1201 d_1204 from by rw [ed_1204]; exact yAg.cs yAg.rf (by rw [hky_1202]; decide)) (by rw [hk_h0]; decide)) 1 (by decide))
                              have hE2d_1204 : (d_1204.1 h0 2).toInt = (d_1201.1 h0 2).toInt := congrArg Int32.toInt ((yK.ag (F := []) yK.rf (show yAg S [39] d_1201 d_1204 from by rw [ed_1204]; exact yAg.cs yAg.rf (by rw [hky_1202]; decide)) (by rw [hk_h0]; decide)) 2 (by decide))
                              have hE3d_1204 : (d_1204.1 h0 3).toInt = (d_1201.1 h0 3).toInt := congrArg Int32.toInt ((yK.ag (F := []) yK.rf (show yAg S [39] d_1201 d_1204 from by rw [ed_1204]; exact yAg.cs yAg.rf (by rw [hky_1202]; decide)) (by rw [hk_h0]; decide)) 3 (by decide))
                              have hE63d_1204 : (d_1204.1 h0 63).toInt = (d_1201.1 h0 63).toInt := congrArg Int32.toInt ((yK.ag (F := []) yK.rf (show yAg S [39] d_1201 d_1204 from by rw [ed_1204]; exact yAg.cs yAg.rf (by rw [hky_1202]; decide)) (by rw [hk_h0]; decide)) 63 (by decide))
                              refine lv_aload_n hx hb dX9_term_238 rfl (lv_at hl 3 rfl) ?_
                              refine yget (ci := 9) (k := 10) (v := .ref (S.2.2.1 h0 10)) (C := RX9) (T := TX9) (N := 67) C0 hK hP hm_h0 hk_h0 (by decide) rfl inlX9 (by decide) mW114 (fun _ h9 => h9) rfl dX9_term_239 ?_
                              obtain ⟨hmy_1205, hky_1205⟩ := ySh.f9_10 hSh _ hm_h0 hk_h0
                              refine lv_iload hx hb dX9_term_242 (lv_at hl 0 rfl) ?_
                              refine lv_iconst (v := 0) hx hb dX9_term_244 (by decide) ?_
                              have hCC_1206 := yMI.c hId_1204
                              refine yast C0 hK hP hD hS hmy_1205 hky_1205 (by decide) rfl 0 rfl (xinT 2400 rfl (by omega) (by omega)) dX9_term_245 (fun H locs hP hD hS => ?_)
                              obtain ⟨d_1207, ed_1207⟩ : ∃ z : yD, z = ycs d_1204 (S.2.2.1 h0 10) (upd (d_1204.2.2.2.1 (S.2.2.1 h0 10)) (z_1163 : Int32).toNatClampNeg 0) := ⟨_, rfl⟩
                              rw [← ed_1207] at hP hD
                              have hgd_1207 : yAg S [9, 34, 35, 36, 37, 38, 39, 40, 69] d d_1207 := by rw [ed_1207]; exact yAg.cs hgd_1204 (by rw [hky_1205]; decide)
                              have hsd_1207 : yAg S [40] d_1204 d_1207 := by rw [ed_1207]; exact yAg.cs yAg.rf (by rw [hky_1205]; decide)
                              have hPod_1207 : yPo S d_1207 := by rw [ed_1207]; exact hPod_1204
                              have hfd_1207 : yK [38] d d_1207 h0 := yK.ag hfd_1204 (show yAg S [40] d_1204 d_1207 from by rw [ed_1207]; exact yAg.cs yAg.rf (by rw [hky_1205]; decide)) (by rw [hk_h0]; decide)
                              have hId_1207 : yMI S d_1207 h0 := yMI.ag hId_1204 hSh hm_h0 hk_h0 (show yAg S [40] d_1204 d_1207 from by rw [ed_1207]; exact yAg.cs yAg.rf (by rw [hky_1205]; decide)) (yK.ag (F := []) yK.rf (show yAg S [40] d_1204 d_1207 from by rw [ed_1207]; exact yAg.cs yAg.rf (by rw [hky_1205]; decide)) (by rw [hk_h0]; decide)) (by decide) (by decide)
                              have hE0d_1207 : (d_1207.1 h0 0).toInt = (d_1204.1 h0 0).toInt := congrArg Int32.toInt ((yK.ag (F := []) yK.rf (show yAg S [40] d_1204 d_1207 from by rw [ed_1207]; exact yAg.cs yAg.rf (by rw [hky_1205]; decide)) (by rw [hk_h0]; decide)) 0 (by decide))
                              have hE1d_1207 : (d_1207.1 h0 1).toInt = (d_1204.1 h0 1).toInt := congrArg Int32.toInt ((yK.ag (F := []) yK.rf (show yAg S [40] d_1204 d_1207 from by rw [ed_1207]; exact yAg.cs yAg.rf (by rw [hky_1205]; decide)) (by rw [hk_h0]; decide)) 1 (by decide))
                              have hE2d_1207 : (d_1207.1 h0 2).toInt = (d_1204.1 h0 2).toInt := congrArg Int32.toInt ((yK.ag (F := []) yK.rf (show yAg S [40] d_1204 d_1207 from by rw [ed_1207]; exact yAg.cs yAg.rf (by rw [hky_1205]; decide)) (by rw [hk_h0]; decide)) 2 (by decide))
                              have hE3d_1207 : (d_1207.1 h0 3).toInt = (d_1204.1 h0 3).toInt := congrArg Int32.toInt ((yK.ag (F := []) yK.rf (show yAg S [40] d_1204 d_1207 from by rw [ed_1207]; exact yAg.cs yAg.rf (by rw [hky_1205]; decide)) (by rw [hk_h0]; decide)) 3 (by decide))
                              have hE63d_1207 : (d_1207.1 h0 63).toInt = (d_1204.1 h0 63).toInt := congrArg Int32.toInt ((yK.ag (F := []) yK.rf (show yAg S [40] d_1204 d_1207 from by rw [ed_1207]; exact yAg.cs yAg.rf (by rw [hky_1205]; decide)) (by rw [hk_h0]; decide)) 63 (by decide))
                              refine lv_iconst (v := 1) hx hb dX9_term_246 (by decide) ?_
                              have hCC_1208 := yMI.c hId_1207
                              rw [ez_1189] at ed_1191
                              rw [ez_1193] at ed_1195
                              exact W.zret (v := 1) (ty := .boolean) hx hb hr rfl (fun t ht hW => ⟨⟨1, d_1207, rfl, ⟨hgd_1207, (fun _ => hPod_1207), hfd_1207, ⟨hId_1207, Or.inr ⟨by have h0_ : (1 : Int32).toInt = 1 := (by decide +kernel); omega, by omega, (zRow7 (zTr.ag zTr.rf hSh hm_h0 hk_h0 hsd_1 (by decide)) hSh hm_h0 hk_h0 (show (z_1163 : Int32).toNatClampNeg = (60 * p0.toInt.toNat + p1.toInt.toNat) from (show (z_1163 : Int32).toInt.toNat = _ by omega)) (show (z_1163 : Int32).toNatClampNeg = (60 * p0.toInt.toNat + p1.toInt.toNat) from (show (z_1163 : Int32).toInt.toNat = _ by omega)) (show (z_1163 : Int32).toNatClampNeg = (60 * p0.toInt.toNat + p1.toInt.toNat) from (show (z_1163 : Int32).toInt.toNat = _ by omega)) (show (z_1163 : Int32).toNatClampNeg = (60 * p0.toInt.toNat + p1.toInt.toNat) from (show (z_1163 : Int32).toInt.toNat = _ by omega)) (show (z_1163 : Int32).toNatClampNeg = (60 * p0.toInt.toNat + p1.toInt.toNat) from (show (z_1163 : Int32).toInt.toNat = _ by omega)) (show (z_1163 : Int32).toNatClampNeg = (60 * p0.toInt.toNat + p1.toInt.toNat) from (show (z_1163 : Int32).toInt.toNat = _ by omega)) (show (z_1163 : Int32).toNatClampNeg = (60 * p0.toInt.toNat + p1.toInt.toNat) from (show (z_1163 : Int32).toInt.toNat = _ by omega)) ed_1187 ed_1191 ed_1195 ed_1198 ed_1201 ed_1204 ed_1207)⟩⟩⟩, by rw [ht]; exact hP, hD⟩, hS.F ht⟩) hS.2.2 dX9_term_247
                            · refine lv_aload_n hx hb dX9_term_168 rfl (lv_at hl 2 rfl) ?_
                              refine lv_iload hx hb dX9_term_169 (lv_at hl 1 rfl) ?_
                              have F_1209 := fnlt (rfl : (p2 : Int32).toInt = (p2 : Int32).toInt) (by decide +kernel : (0 : Int32).toInt = 0) c_3
                              have F_1210 := fnlt (by decide +kernel : (4 : Int32).toInt = 4) (rfl : (p2 : Int32).toInt = (p2 : Int32).toInt) c_118
                              have F_1211 := fnlt (rfl : (p3 : Int32).toInt = (p3 : Int32).toInt) (by decide +kernel : (0 : Int32).toInt = 0) c_241
                              have F_1212 := fle (rfl : (p3 : Int32).toInt = (p3 : Int32).toInt) (by decide +kernel : (4 : Int32).toInt = 4) c_372
                              have F_1213 := feq (rfl : (p3 : Int32).toInt = (p3 : Int32).toInt) (by decide +kernel : (1 : Int32).toInt = 1) c_373
                              have F_1214 := feq (by decide +kernel : (0 : Int32).toInt = 0) (by decide +kernel : (0 : Int32).toInt = 0) c_831
                              have F_1215 := fnlt (rfl : (p4 : Int32).toInt = (p4 : Int32).toInt) (by decide +kernel : (0 : Int32).toInt = 0) c_832
                              have F_1216 := fnlt (by decide +kernel : (1440 : Int32).toInt = 1440) (rfl : (p4 : Int32).toInt = (p4 : Int32).toInt) c_907
                              have F_1217 := fnlt (rfl : (p5 : Int32).toInt = (p5 : Int32).toInt) (by decide +kernel : (0 : Int32).toInt = 0) c_986
                              have F_1218 := fle (rfl : (p5 : Int32).toInt = (p5 : Int32).toInt) (by decide +kernel : (1440 : Int32).toInt = 1440) c_1069
                              have F_1219 := fne (rfl : (p3 : Int32).toInt = (p3 : Int32).toInt) (by decide +kernel : (3 : Int32).toInt = 3) c_1070
                              have F_1220 := feq (rfl : (p3 : Int32).toInt = (p3 : Int32).toInt) (by decide +kernel : (4 : Int32).toInt = 4) c_1071
                              have F_1221 := feq (by decide +kernel : (0 : Int32).toInt = 0) (by decide +kernel : (0 : Int32).toInt = 0) c_1133
                              have F_1222 := fnlt (rfl : (p4 : Int32).toInt = (p4 : Int32).toInt) (by decide +kernel : (0 : Int32).toInt = 0) c_1134
                              have F_1223 := fnlt (by decide +kernel : (129600 : Int32).toInt = 129600) (rfl : (p4 : Int32).toInt = (p4 : Int32).toInt) c_1135
                              have F_1224 := fnlt (rfl : (p5 : Int32).toInt = (p5 : Int32).toInt) (by decide +kernel : (0 : Int32).toInt = 0) c_1158
                              have F_1225 := fle (rfl : (p5 : Int32).toInt = (p5 : Int32).toInt) (by decide +kernel : (129600 : Int32).toInt = 129600) c_1159
                              have F_1226 := feq (by decide +kernel : (0 : Int32).toInt = 0) (by decide +kernel : (0 : Int32).toInt = 0) c_1160
                              have F_1227 := fne (rfl : (r_2 : Int32).toInt = (r_2 : Int32).toInt) (by decide +kernel : (0 : Int32).toInt = 0) c_1161
                              refine yVwi (As := [.int r_2]) (rest := []) C0 (g_X9_no l G S d_1 h0 r_2 hSh hPod_1 hm_h0 hk_h0 (by refine ⟨?_, ?_⟩ <;> omega)) ok_X9_no (mW177 : Cond.methodLink RX9 168 yX9_no ∈ wsT) ⟨Nat.le_of_ble_eq_true rfl, Nat.le_of_ble_eq_true rfl⟩ hP hD hS hA hK hN hm_h0 hk_h0 (by decide) rfl rfl rfl hl.1 rfl (Nat.le_of_ble_eq_true rfl) ⟨Nat.le_of_ble_eq_true rfl, Nat.le_of_ble_eq_true rfl⟩ dX9_term_171 (fun r_1228 d_1229 H locs hr_1228 hP hD hS => ?_)
                              obtain ⟨hgad_1229, hpad_1229, hfad_1229, hxd_1229⟩ := hr_1228
                              have hfd_1229 : yK [38] d d_1229 h0 := yK.tr hfd_1 hfad_1229 (by decide)
                              have hE0d_1229 : (d_1229.1 h0 0).toInt = (d_1.1 h0 0).toInt := congrArg Int32.toInt (hfad_1229 0 (by decide))
                              have hE1d_1229 : (d_1229.1 h0 1).toInt = (d_1.1 h0 1).toInt := congrArg Int32.toInt (hfad_1229 1 (by decide))
                              have hE2d_1229 : (d_1229.1 h0 2).toInt = (d_1.1 h0 2).toInt := congrArg Int32.toInt (hfad_1229 2 (by decide))
                              have hE3d_1229 : (d_1229.1 h0 3).toInt = (d_1.1 h0 3).toInt := congrArg Int32.toInt (hfad_1229 3 (by decide))
                              have hE63d_1229 : (d_1229.1 h0 63).toInt = (d_1.1 h0 63).toInt := congrArg Int32.toInt (hfad_1229 63 (by decide))
                              have hId_1229 : yMI S d_1229 h0 := yMI.ag hId_1 hSh hm_h0 hk_h0 hgad_1229 hfad_1229 (by decide) (by decide)
                              have hgd_1229 : yAg S [9, 34, 35, 36, 37, 38, 39, 40, 69] d d_1229 := yAg.tr hgd_1 hgad_1229 (by first | decide | exact fun _ h => h)
                              have hPod_1229 : yPo S d_1229 := hpad_1229 hPod_1
                              refine lv_pop hx hb dX9_term_174 rfl ?_
                              refine lv_iconst (v := 0) hx hb dX9_term_175 (by decide) ?_
                              have hCC_1230 := yMI.c hId_1229
                              exact W.zret (v := 0) (ty := .boolean) hx hb hr rfl (fun t ht hW => ⟨⟨0, d_1229, rfl, ⟨hgd_1229, (fun _ => hPod_1229), hfd_1229, ⟨hId_1229, Or.inl ⟨by have h0_ : (0 : Int32).toInt = 0 := (by decide +kernel); omega, by omega, (zTr.ag (zTr.ag zTr.rf hSh hm_h0 hk_h0 hsd_1 (by decide)) hSh hm_h0 hk_h0 hgad_1229 (by decide))⟩⟩⟩, by rw [ht]; exact hP, hD⟩, hS.F ht⟩) hS.2.2 dX9_term_176
                          · refine lv_iconst (v := 1) hx hb dX9_term_148 (by decide) ?_
                            refine lv_goto (tgt := 153) hx hb dX9_term_149 (by decide) ?_
                            refine lv_istore (lv' := [(8, .int 1), (7, .int r_2), (0, .ref h0), (1, .int p0), (2, .int p1), (3, .int p2), (4, .int p3), (5, .int p4), (6, .int p5)]) hx hb dX9_term_153 hl (by decide) rfl (fun ls hl => ?_)
                            refine lv_iload hx hb dX9_term_155 (lv_at hl 0 rfl) ?_
                            refine lv_if_eq (tgt := 163) hx hb dX9_term_157 (by decide) (fun c_1231 => absurd c_1231 (by decide +kernel)) (fun c_1231 => ?_)
                            refine lv_iconst (v := 1) hx hb dX9_term_160 (by decide) ?_
                            refine lv_istore (lv' := [(7, .int 1), (8, .int 1), (0, .ref h0), (1, .int p0), (2, .int p1), (3, .int p2), (4, .int p3), (5, .int p4), (6, .int p5)]) hx hb dX9_term_161 hl (by decide) rfl (fun ls hl => ?_)
                            refine lv_iload hx hb dX9_term_163 (lv_at hl 0 rfl) ?_
                            refine lv_if_eq (tgt := 177) hx hb dX9_term_165 (by decide) (fun c_1232 => absurd c_1232 (by decide +kernel)) (fun c_1232 => ?_)
                            refine lv_aload_n hx hb dX9_term_168 rfl (lv_at hl 2 rfl) ?_
                            refine lv_iload hx hb dX9_term_169 (lv_at hl 0 rfl) ?_
                            refine yVwi (As := [.int 1]) (rest := []) C0 (g_X9_no l G S d_1 h0 1 hSh hPod_1 hm_h0 hk_h0 (by decide +kernel)) ok_X9_no (mW177 : Cond.methodLink RX9 168 yX9_no ∈ wsT) ⟨Nat.le_of_ble_eq_true rfl, Nat.le_of_ble_eq_true rfl⟩ hP hD hS hA hK hN hm_h0 hk_h0 (by decide) rfl rfl rfl hl.1 rfl (Nat.le_of_ble_eq_true rfl) ⟨Nat.le_of_ble_eq_true rfl, Nat.le_of_ble_eq_true rfl⟩ dX9_term_171 (fun r_1233 d_1234 H locs hr_1233 hP hD hS => ?_)
                            obtain ⟨hgad_1234, hpad_1234, hfad_1234, hxd_1234⟩ := hr_1233
                            have hfd_1234 : yK [38] d d_1234 h0 := yK.tr hfd_1 hfad_1234 (by decide)
                            have hE0d_1234 : (d_1234.1 h0 0).toInt = (d_1.1 h0 0).toInt := congrArg Int32.toInt (hfad_1234 0 (by decide))
                            have hE1d_1234 : (d_1234.1 h0 1).toInt = (d_1.1 h0 1).toInt := congrArg Int32.toInt (hfad_1234 1 (by decide))
                            have hE2d_1234 : (d_1234.1 h0 2).toInt = (d_1.1 h0 2).toInt := congrArg Int32.toInt (hfad_1234 2 (by decide))
                            have hE3d_1234 : (d_1234.1 h0 3).toInt = (d_1.1 h0 3).toInt := congrArg Int32.toInt (hfad_1234 3 (by decide))
                            have hE63d_1234 : (d_1234.1 h0 63).toInt = (d_1.1 h0 63).toInt := congrArg Int32.toInt (hfad_1234 63 (by decide))
                            have hId_1234 : yMI S d_1234 h0 := yMI.ag hId_1 hSh hm_h0 hk_h0 hgad_1234 hfad_1234 (by decide) (by decide)
                            have hgd_1234 : yAg S [9, 34, 35, 36, 37, 38, 39, 40, 69] d d_1234 := yAg.tr hgd_1 hgad_1234 (by first | decide | exact fun _ h => h)
                            have hPod_1234 : yPo S d_1234 := hpad_1234 hPod_1
                            refine lv_pop hx hb dX9_term_174 rfl ?_
                            refine lv_iconst (v := 0) hx hb dX9_term_175 (by decide) ?_
                            have hCC_1235 := yMI.c hId_1234
                            have F_1236 := fnlt (rfl : (p2 : Int32).toInt = (p2 : Int32).toInt) (by decide +kernel : (0 : Int32).toInt = 0) c_3
                            have F_1237 := fnlt (by decide +kernel : (4 : Int32).toInt = 4) (rfl : (p2 : Int32).toInt = (p2 : Int32).toInt) c_118
                            have F_1238 := fnlt (rfl : (p3 : Int32).toInt = (p3 : Int32).toInt) (by decide +kernel : (0 : Int32).toInt = 0) c_241
                            have F_1239 := fle (rfl : (p3 : Int32).toInt = (p3 : Int32).toInt) (by decide +kernel : (4 : Int32).toInt = 4) c_372
                            have F_1240 := feq (rfl : (p3 : Int32).toInt = (p3 : Int32).toInt) (by decide +kernel : (1 : Int32).toInt = 1) c_373
                            have F_1241 := feq (by decide +kernel : (0 : Int32).toInt = 0) (by decide +kernel : (0 : Int32).toInt = 0) c_831
                            have F_1242 := fnlt (rfl : (p4 : Int32).toInt = (p4 : Int32).toInt) (by decide +kernel : (0 : Int32).toInt = 0) c_832
                            have F_1243 := fnlt (by decide +kernel : (1440 : Int32).toInt = 1440) (rfl : (p4 : Int32).toInt = (p4 : Int32).toInt) c_907
                            have F_1244 := fnlt (rfl : (p5 : Int32).toInt = (p5 : Int32).toInt) (by decide +kernel : (0 : Int32).toInt = 0) c_986
                            have F_1245 := fle (rfl : (p5 : Int32).toInt = (p5 : Int32).toInt) (by decide +kernel : (1440 : Int32).toInt = 1440) c_1069
                            have F_1246 := fne (rfl : (p3 : Int32).toInt = (p3 : Int32).toInt) (by decide +kernel : (3 : Int32).toInt = 3) c_1070
                            have F_1247 := feq (rfl : (p3 : Int32).toInt = (p3 : Int32).toInt) (by decide +kernel : (4 : Int32).toInt = 4) c_1071
                            have F_1248 := feq (by decide +kernel : (0 : Int32).toInt = 0) (by decide +kernel : (0 : Int32).toInt = 0) c_1133
                            have F_1249 := fnlt (rfl : (p4 : Int32).toInt = (p4 : Int32).toInt) (by decide +kernel : (0 : Int32).toInt = 0) c_1134
                            have F_1250 := fnlt (by decide +kernel : (129600 : Int32).toInt = 129600) (rfl : (p4 : Int32).toInt = (p4 : Int32).toInt) c_1135
                            have F_1251 := fnlt (rfl : (p5 : Int32).toInt = (p5 : Int32).toInt) (by decide +kernel : (0 : Int32).toInt = 0) c_1158
                            have F_1252 := fnle (rfl : (p5 : Int32).toInt = (p5 : Int32).toInt) (by decide +kernel : (129600 : Int32).toInt = 129600) c_1159
                            have F_1253 := fne (by decide +kernel : (1 : Int32).toInt = 1) (by decide +kernel : (0 : Int32).toInt = 0) c_1231
                            have F_1254 := fne (by decide +kernel : (1 : Int32).toInt = 1) (by decide +kernel : (0 : Int32).toInt = 0) c_1232
                            exact W.zret (v := 0) (ty := .boolean) hx hb hr rfl (fun t ht hW => ⟨⟨0, d_1234, rfl, ⟨hgd_1234, (fun _ => hPod_1234), hfd_1234, ⟨hId_1234, Or.inl ⟨by have h0_ : (0 : Int32).toInt = 0 := (by decide +kernel); omega, by omega, (zTr.ag (zTr.ag zTr.rf hSh hm_h0 hk_h0 hsd_1 (by decide)) hSh hm_h0 hk_h0 hgad_1234 (by decide))⟩⟩⟩, by rw [ht]; exact hP, hD⟩, hS.F ht⟩) hS.2.2 dX9_term_176
                    · refine lv_iload hx hb dX9_term_90 (lv_at hl 0 rfl) ?_
                      refine lv_if_ne (tgt := 106) hx hb dX9_term_92 (by decide) (fun c_1255 => absurd c_1255 (by decide +kernel)) (fun c_1255 => ?_)
                      refine lv_iload hx hb dX9_term_95 (lv_at hl 7 rfl) ?_
                      refine lv_if_lt (tgt := 106) hx hb dX9_term_97 (by decide) (fun c_1256 => absurd c_1256 c_832) (fun c_1256 => ?_)
                      refine lv_iload hx hb dX9_term_100 (lv_at hl 7 rfl) ?_
                      refine lv_iconst (v := 4) hx hb dX9_term_102 (by decide) ?_
                      refine lv_icmp_le (tgt := 110) hx hb dX9_term_103 (by decide) (fun c_1257 => ?_) (fun c_1257 => ?_)
                      · refine lv_iconst (v := 0) hx hb dX9_term_110 (by decide) ?_
                        refine lv_istore (lv' := [(8, .int 0), (7, .int r_2), (0, .ref h0), (1, .int p0), (2, .int p1), (3, .int p2), (4, .int p3), (5, .int p4), (6, .int p5)]) hx hb dX9_term_111 hl (by decide) rfl (fun ls hl => ?_)
                        refine lv_iload hx hb dX9_term_113 (lv_at hl 6 rfl) ?_
                        refine lv_iconst (v := 4) hx hb dX9_term_115 (by decide) ?_
                        refine lv_icmp_ne (tgt := 155) hx hb dX9_term_116 (by decide) (fun c_1258 => ?_) (fun c_1258 => ?_)
                        · refine lv_iload hx hb dX9_term_155 (lv_at hl 0 rfl) ?_
                          refine lv_if_eq (tgt := 163) hx hb dX9_term_157 (by decide) (fun c_1259 => ?_) (fun c_1259 => absurd c_1259 (by decide +kernel))
                          refine lv_iload hx hb dX9_term_163 (lv_at hl 1 rfl) ?_
                          refine lv_if_eq (tgt := 177) hx hb dX9_term_165 (by decide) (fun c_1260 => ?_) (fun c_1260 => ?_)
                          · refine lv_bipush (v := 60) hx hb dX9_term_177 (by decide) ?_
                            refine lv_iload_n hx hb dX9_term_179 rfl (lv_at hl 3 rfl) ?_
                            refine lv_imul hx hb dX9_term_180 ?_
                            refine lv_topi (fun z_1261 ez_1261 => ?_)
                            refine lv_iload_n hx hb dX9_term_181 rfl (lv_at hl 4 rfl) ?_
                            refine lv_iadd hx hb dX9_term_182 ?_
                            refine lv_topi (fun z_1262 ez_1262 => ?_)
                            refine lv_istore (lv' := [(9, .int z_1262), (8, .int 0), (7, .int r_2), (0, .ref h0), (1, .int p0), (2, .int p1), (3, .int p2), (4, .int p3), (5, .int p4), (6, .int p5)]) hx hb dX9_term_183 hl (by decide) rfl (fun ls hl => ?_)
                            refine lv_aload_n hx hb dX9_term_185 rfl (lv_at hl 3 rfl) ?_
                            refine yget (ci := 9) (k := 4) (v := .ref (S.2.2.1 h0 4)) (C := RX9) (T := TX9) (N := 67) C0 hK hP hm_h0 hk_h0 (by decide) rfl inlX9 (by decide) mW108 (fun _ h9 => h9) rfl dX9_term_186 ?_
                            obtain ⟨hmy_1263, hky_1263⟩ := ySh.f9_4 hSh _ hm_h0 hk_h0
                            refine lv_iload hx hb dX9_term_189 (lv_at hl 0 rfl) ?_
                            refine lv_iconst (v := 2) hx hb dX9_term_191 (by decide) ?_
                            have hCC_1264 := yMI.c hId_1
                            have F_1265 := fnlt (rfl : (p2 : Int32).toInt = (p2 : Int32).toInt) (by decide +kernel : (0 : Int32).toInt = 0) c_3
                            have F_1266 := fnlt (by decide +kernel : (4 : Int32).toInt = 4) (rfl : (p2 : Int32).toInt = (p2 : Int32).toInt) c_118
                            have F_1267 := fnlt (rfl : (p3 : Int32).toInt = (p3 : Int32).toInt) (by decide +kernel : (0 : Int32).toInt = 0) c_241
                            have F_1268 := fle (rfl : (p3 : Int32).toInt = (p3 : Int32).toInt) (by decide +kernel : (4 : Int32).toInt = 4) c_372
                            have F_1269 := feq (rfl : (p3 : Int32).toInt = (p3 : Int32).toInt) (by decide +kernel : (1 : Int32).toInt = 1) c_373
                            have F_1270 := feq (by decide +kernel : (0 : Int32).toInt = 0) (by decide +kernel : (0 : Int32).toInt = 0) c_831
                            have F_1271 := fnlt (rfl : (p4 : Int32).toInt = (p4 : Int32).toInt) (by decide +kernel : (0 : Int32).toInt = 0) c_832
                            have F_1272 := fnlt (by decide +kernel : (1440 : Int32).toInt = 1440) (rfl : (p4 : Int32).toInt = (p4 : Int32).toInt) c_907
                            have F_1273 := fnlt (rfl : (p5 : Int32).toInt = (p5 : Int32).toInt) (by decide +kernel : (0 : Int32).toInt = 0) c_986
                            have F_1274 := fle (rfl : (p5 : Int32).toInt = (p5 : Int32).toInt) (by decide +kernel : (1440 : Int32).toInt = 1440) c_1069
                            have F_1275 := feq (rfl : (p3 : Int32).toInt = (p3 : Int32).toInt) (by decide +kernel : (3 : Int32).toInt = 3) c_1070
                            have F_1276 := feq (by decide +kernel : (0 : Int32).toInt = 0) (by decide +kernel : (0 : Int32).toInt = 0) c_1255
                            have F_1277 := fnlt (rfl : (p4 : Int32).toInt = (p4 : Int32).toInt) (by decide +kernel : (0 : Int32).toInt = 0) c_1256
                            have F_1278 := fle (rfl : (p4 : Int32).toInt = (p4 : Int32).toInt) (by decide +kernel : (4 : Int32).toInt = 4) c_1257
                            have F_1279 := fne (rfl : (p3 : Int32).toInt = (p3 : Int32).toInt) (by decide +kernel : (4 : Int32).toInt = 4) c_1258
                            have F_1280 := feq (by decide +kernel : (0 : Int32).toInt = 0) (by decide +kernel : (0 : Int32).toInt = 0) c_1259
                            have F_1281 := feq (rfl : (r_2 : Int32).toInt = (r_2 : Int32).toInt) (by decide +kernel : (0 : Int32).toInt = 0) c_1260
                            have T_1283 : (z_1261 : Int32).toInt = 60 * (p0 : Int32).toInt := tmul ez_1261 (by decide +kernel : (60 : Int32).toInt = 60) (rfl : (p0 : Int32).toInt = (p0 : Int32).toInt) (by omega) (by omega)
                            have T_1282 : (z_1262 : Int32).toInt = (z_1261 : Int32).toInt + (p1 : Int32).toInt := tadd ez_1262 (rfl : (z_1261 : Int32).toInt = (z_1261 : Int32).toInt) (rfl : (p1 : Int32).toInt = (p1 : Int32).toInt) (by omega) (by omega)
                            refine yastB C0 hK hP hD hS hmy_1263 hky_1263 (by decide) rfl 1 rfl (xinT 2400 rfl (by omega) (by omega)) dX9_term_192 (fun H locs hP hD hS => ?_)
                            obtain ⟨d_1284, ed_1284⟩ : ∃ z : yD, z = ycs d_1 (S.2.2.1 h0 4) (upd (d_1.2.2.2.1 (S.2.2.1 h0 4)) (z_1262 : Int32).toNatClampNeg (vp_nar .byte 2)) := ⟨_, rfl⟩
                            rw [← ed_1284] at hP hD
                            have hgd_1284 : yAg S [9, 34, 35, 36, 37, 38, 39, 40, 69] d d_1284 := by rw [ed_1284]; exact yAg.cs hgd_1 (by rw [hky_1263]; decide)
                            have hsd_1284 : yAg S [34] d_1 d_1284 := by rw [ed_1284]; exact yAg.cs yAg.rf (by rw [hky_1263]; decide)
                            have hPod_1284 : yPo S d_1284 := by rw [ed_1284]; exact hPod_1
                            have hfd_1284 : yK [38] d d_1284 h0 := yK.ag hfd_1 (show yAg S [34] d_1 d_1284 from by rw [ed_1284]; exact yAg.cs yAg.rf (by rw [hky_1263]; decide)) (by rw [hk_h0]; decide)
                            have hId_1284 : yMI S d_1284 h0 := yMI.ag hId_1 hSh hm_h0 hk_h0 (show yAg S [34] d_1 d_1284 from by rw [ed_1284]; exact yAg.cs yAg.rf (by rw [hky_1263]; decide)) (yK.ag (F := []) yK.rf (show yAg S [34] d_1 d_1284 from by rw [ed_1284]; exact yAg.cs yAg.rf (by rw [hky_1263]; decide)) (by rw [hk_h0]; decide)) (by decide) (by decide)
                            have hE0d_1284 : (d_1284.1 h0 0).toInt = (d_1.1 h0 0).toInt := congrArg Int32.toInt ((yK.ag (F := []) yK.rf (show yAg S [34] d_1 d_1284 from by rw [ed_1284]; exact yAg.cs yAg.rf (by rw [hky_1263]; decide)) (by rw [hk_h0]; decide)) 0 (by decide))
                            have hE1d_1284 : (d_1284.1 h0 1).toInt = (d_1.1 h0 1).toInt := congrArg Int32.toInt ((yK.ag (F := []) yK.rf (show yAg S [34] d_1 d_1284 from by rw [ed_1284]; exact yAg.cs yAg.rf (by rw [hky_1263]; decide)) (by rw [hk_h0]; decide)) 1 (by decide))
                            have hE2d_1284 : (d_1284.1 h0 2).toInt = (d_1.1 h0 2).toInt := congrArg Int32.toInt ((yK.ag (F := []) yK.rf (show yAg S [34] d_1 d_1284 from by rw [ed_1284]; exact yAg.cs yAg.rf (by rw [hky_1263]; decide)) (by rw [hk_h0]; decide)) 2 (by decide))
                            have hE3d_1284 : (d_1284.1 h0 3).toInt = (d_1.1 h0 3).toInt := congrArg Int32.toInt ((yK.ag (F := []) yK.rf (show yAg S [34] d_1 d_1284 from by rw [ed_1284]; exact yAg.cs yAg.rf (by rw [hky_1263]; decide)) (by rw [hk_h0]; decide)) 3 (by decide))
                            have hE63d_1284 : (d_1284.1 h0 63).toInt = (d_1.1 h0 63).toInt := congrArg Int32.toInt ((yK.ag (F := []) yK.rf (show yAg S [34] d_1 d_1284 from by rw [ed_1284]; exact yAg.cs yAg.rf (by rw [hky_1263]; decide)) (by rw [hk_h0]; decide)) 63 (by decide))
                            refine lv_aload_n hx hb dX9_term_193 rfl (lv_at hl 3 rfl) ?_
                            refine yget (ci := 9) (k := 5) (v := .ref (S.2.2.1 h0 5)) (C := RX9) (T := TX9) (N := 67) C0 hK hP hm_h0 hk_h0 (by decide) rfl inlX9 (by decide) mW109 (fun _ h9 => h9) rfl dX9_term_194 ?_
                            obtain ⟨hmy_1285, hky_1285⟩ := ySh.f9_5 hSh _ hm_h0 hk_h0
                            refine lv_iload hx hb dX9_term_197 (lv_at hl 0 rfl) ?_
                            refine lv_iload_n hx hb dX9_term_199 rfl (lv_at hl 6 rfl) ?_
                            refine lv_i2b hx hb dX9_term_200 rfl ?_
                            refine lv_topi (fun z_1286 ez_1286 => ?_)
                            have hCC_1287 := yMI.c hId_1284
                            refine yastB C0 hK hP hD hS hmy_1285 hky_1285 (by decide) rfl 1 rfl (xinT 2400 rfl (by omega) (by omega)) dX9_term_201 (fun H locs hP hD hS => ?_)
                            obtain ⟨d_1288, ed_1288⟩ : ∃ z : yD, z = ycs d_1284 (S.2.2.1 h0 5) (upd (d_1284.2.2.2.1 (S.2.2.1 h0 5)) (z_1262 : Int32).toNatClampNeg (vp_nar .byte z_1286)) := ⟨_, rfl⟩
                            rw [← ed_1288] at hP hD
                            have hgd_1288 : yAg S [9, 34, 35, 36, 37, 38, 39, 40, 69] d d_1288 := by rw [ed_1288]; exact yAg.cs hgd_1284 (by rw [hky_1285]; decide)
                            have hsd_1288 : yAg S [35] d_1284 d_1288 := by rw [ed_1288]; exact yAg.cs yAg.rf (by rw [hky_1285]; decide)
                            have hPod_1288 : yPo S d_1288 := by rw [ed_1288]; exact hPod_1284
                            have hfd_1288 : yK [38] d d_1288 h0 := yK.ag hfd_1284 (show yAg S [35] d_1284 d_1288 from by rw [ed_1288]; exact yAg.cs yAg.rf (by rw [hky_1285]; decide)) (by rw [hk_h0]; decide)
                            have hId_1288 : yMI S d_1288 h0 := yMI.ag hId_1284 hSh hm_h0 hk_h0 (show yAg S [35] d_1284 d_1288 from by rw [ed_1288]; exact yAg.cs yAg.rf (by rw [hky_1285]; decide)) (yK.ag (F := []) yK.rf (show yAg S [35] d_1284 d_1288 from by rw [ed_1288]; exact yAg.cs yAg.rf (by rw [hky_1285]; decide)) (by rw [hk_h0]; decide)) (by decide) (by decide)
                            have hE0d_1288 : (d_1288.1 h0 0).toInt = (d_1284.1 h0 0).toInt := congrArg Int32.toInt ((yK.ag (F := []) yK.rf (show yAg S [35] d_1284 d_1288 from by rw [ed_1288]; exact yAg.cs yAg.rf (by rw [hky_1285]; decide)) (by rw [hk_h0]; decide)) 0 (by decide))
                            have hE1d_1288 : (d_1288.1 h0 1).toInt = (d_1284.1 h0 1).toInt := congrArg Int32.toInt ((yK.ag (F := []) yK.rf (show yAg S [35] d_1284 d_1288 from by rw [ed_1288]; exact yAg.cs yAg.rf (by rw [hky_1285]; decide)) (by rw [hk_h0]; decide)) 1 (by decide))
                            have hE2d_1288 : (d_1288.1 h0 2).toInt = (d_1284.1 h0 2).toInt := congrArg Int32.toInt ((yK.ag (F := []) yK.rf (show yAg S [35] d_1284 d_1288 from by rw [ed_1288]; exact yAg.cs yAg.rf (by rw [hky_1285]; decide)) (by rw [hk_h0]; decide)) 2 (by decide))
                            have hE3d_1288 : (d_1288.1 h0 3).toInt = (d_1284.1 h0 3).toInt := congrArg Int32.toInt ((yK.ag (F := []) yK.rf (show yAg S [35] d_1284 d_1288 from by rw [ed_1288]; exact yAg.cs yAg.rf (by rw [hky_1285]; decide)) (by rw [hk_h0]; decide)) 3 (by decide))
                            have hE63d_1288 : (d_1288.1 h0 63).toInt = (d_1284.1 h0 63).toInt := congrArg Int32.toInt ((yK.ag (F := []) yK.rf (show yAg S [35] d_1284 d_1288 from by rw [ed_1288]; exact yAg.cs yAg.rf (by rw [hky_1285]; decide)) (by rw [hk_h0]; decide)) 63 (by decide))
                            refine lv_aload_n hx hb dX9_term_202 rfl (lv_at hl 3 rfl) ?_
                            refine yget (ci := 9) (k := 6) (v := .ref (S.2.2.1 h0 6)) (C := RX9) (T := TX9) (N := 67) C0 hK hP hm_h0 hk_h0 (by decide) rfl inlX9 (by decide) mW110 (fun _ h9 => h9) rfl dX9_term_203 ?_
                            obtain ⟨hmy_1289, hky_1289⟩ := ySh.f9_6 hSh _ hm_h0 hk_h0
                            refine lv_iload hx hb dX9_term_206 (lv_at hl 0 rfl) ?_
                            refine lv_iload hx hb dX9_term_208 (lv_at hl 7 rfl) ?_
                            refine lv_i2b hx hb dX9_term_210 rfl ?_
                            refine lv_topi (fun z_1290 ez_1290 => ?_)
                            have hCC_1291 := yMI.c hId_1288
                            refine yastB C0 hK hP hD hS hmy_1289 hky_1289 (by decide) rfl 1 rfl (xinT 2400 rfl (by omega) (by omega)) dX9_term_211 (fun H locs hP hD hS => ?_)
                            obtain ⟨d_1292, ed_1292⟩ : ∃ z : yD, z = ycs d_1288 (S.2.2.1 h0 6) (upd (d_1288.2.2.2.1 (S.2.2.1 h0 6)) (z_1262 : Int32).toNatClampNeg (vp_nar .byte z_1290)) := ⟨_, rfl⟩
                            rw [← ed_1292] at hP hD
                            have hgd_1292 : yAg S [9, 34, 35, 36, 37, 38, 39, 40, 69] d d_1292 := by rw [ed_1292]; exact yAg.cs hgd_1288 (by rw [hky_1289]; decide)
                            have hsd_1292 : yAg S [36] d_1288 d_1292 := by rw [ed_1292]; exact yAg.cs yAg.rf (by rw [hky_1289]; decide)
                            have hPod_1292 : yPo S d_1292 := by rw [ed_1292]; exact hPod_1288
                            have hfd_1292 : yK [38] d d_1292 h0 := yK.ag hfd_1288 (show yAg S [36] d_1288 d_1292 from by rw [ed_1292]; exact yAg.cs yAg.rf (by rw [hky_1289]; decide)) (by rw [hk_h0]; decide)
                            have hId_1292 : yMI S d_1292 h0 := yMI.ag hId_1288 hSh hm_h0 hk_h0 (show yAg S [36] d_1288 d_1292 from by rw [ed_1292]; exact yAg.cs yAg.rf (by rw [hky_1289]; decide)) (yK.ag (F := []) yK.rf (show yAg S [36] d_1288 d_1292 from by rw [ed_1292]; exact yAg.cs yAg.rf (by rw [hky_1289]; decide)) (by rw [hk_h0]; decide)) (by decide) (by decide)
                            have hE0d_1292 : (d_1292.1 h0 0).toInt = (d_1288.1 h0 0).toInt := congrArg Int32.toInt ((yK.ag (F := []) yK.rf (show yAg S [36] d_1288 d_1292 from by rw [ed_1292]; exact yAg.cs yAg.rf (by rw [hky_1289]; decide)) (by rw [hk_h0]; decide)) 0 (by decide))
                            have hE1d_1292 : (d_1292.1 h0 1).toInt = (d_1288.1 h0 1).toInt := congrArg Int32.toInt ((yK.ag (F := []) yK.rf (show yAg S [36] d_1288 d_1292 from by rw [ed_1292]; exact yAg.cs yAg.rf (by rw [hky_1289]; decide)) (by rw [hk_h0]; decide)) 1 (by decide))
                            have hE2d_1292 : (d_1292.1 h0 2).toInt = (d_1288.1 h0 2).toInt := congrArg Int32.toInt ((yK.ag (F := []) yK.rf (show yAg S [36] d_1288 d_1292 from by rw [ed_1292]; exact yAg.cs yAg.rf (by rw [hky_1289]; decide)) (by rw [hk_h0]; decide)) 2 (by decide))
                            have hE3d_1292 : (d_1292.1 h0 3).toInt = (d_1288.1 h0 3).toInt := congrArg Int32.toInt ((yK.ag (F := []) yK.rf (show yAg S [36] d_1288 d_1292 from by rw [ed_1292]; exact yAg.cs yAg.rf (by rw [hky_1289]; decide)) (by rw [hk_h0]; decide)) 3 (by decide))
                            have hE63d_1292 : (d_1292.1 h0 63).toInt = (d_1288.1 h0 63).toInt := congrArg Int32.toInt ((yK.ag (F := []) yK.rf (show yAg S [36] d_1288 d_1292 from by rw [ed_1292]; exact yAg.cs yAg.rf (by rw [hky_1289]; decide)) (by rw [hk_h0]; decide)) 63 (by decide))
                            refine lv_aload_n hx hb dX9_term_212 rfl (lv_at hl 3 rfl) ?_
                            refine yget (ci := 9) (k := 7) (v := .ref (S.2.2.1 h0 7)) (C := RX9) (T := TX9) (N := 67) C0 hK hP hm_h0 hk_h0 (by decide) rfl inlX9 (by decide) mW111 (fun _ h9 => h9) rfl dX9_term_213 ?_
                            obtain ⟨hmy_1293, hky_1293⟩ := ySh.f9_7 hSh _ hm_h0 hk_h0
                            refine lv_iload hx hb dX9_term_216 (lv_at hl 0 rfl) ?_
                            refine lv_iload hx hb dX9_term_218 (lv_at hl 8 rfl) ?_
                            have hCC_1294 := yMI.c hId_1292
                            refine yast C0 hK hP hD hS hmy_1293 hky_1293 (by decide) rfl 0 rfl (xinT 2400 rfl (by omega) (by omega)) dX9_term_220 (fun H locs hP hD hS => ?_)
                            obtain ⟨d_1295, ed_1295⟩ : ∃ z : yD, z = ycs d_1292 (S.2.2.1 h0 7) (upd (d_1292.2.2.2.1 (S.2.2.1 h0 7)) (z_1262 : Int32).toNatClampNeg p4) := ⟨_, rfl⟩
                            rw [← ed_1295] at hP hD
                            have hgd_1295 : yAg S [9, 34, 35, 36, 37, 38, 39, 40, 69] d d_1295 := by rw [ed_1295]; exact yAg.cs hgd_1292 (by rw [hky_1293]; decide)
                            have hsd_1295 : yAg S [37] d_1292 d_1295 := by rw [ed_1295]; exact yAg.cs yAg.rf (by rw [hky_1293]; decide)
                            have hPod_1295 : yPo S d_1295 := by rw [ed_1295]; exact hPod_1292
                            have hfd_1295 : yK [38] d d_1295 h0 := yK.ag hfd_1292 (show yAg S [37] d_1292 d_1295 from by rw [ed_1295]; exact yAg.cs yAg.rf (by rw [hky_1293]; decide)) (by rw [hk_h0]; decide)
                            have hId_1295 : yMI S d_1295 h0 := yMI.ag hId_1292 hSh hm_h0 hk_h0 (show yAg S [37] d_1292 d_1295 from by rw [ed_1295]; exact yAg.cs yAg.rf (by rw [hky_1293]; decide)) (yK.ag (F := []) yK.rf (show yAg S [37] d_1292 d_1295 from by rw [ed_1295]; exact yAg.cs yAg.rf (by rw [hky_1293]; decide)) (by rw [hk_h0]; decide)) (by decide) (by decide)
                            have hE0d_1295 : (d_1295.1 h0 0).toInt = (d_1292.1 h0 0).toInt := congrArg Int32.toInt ((yK.ag (F := []) yK.rf (show yAg S [37] d_1292 d_1295 from by rw [ed_1295]; exact yAg.cs yAg.rf (by rw [hky_1293]; decide)) (by rw [hk_h0]; decide)) 0 (by decide))
                            have hE1d_1295 : (d_1295.1 h0 1).toInt = (d_1292.1 h0 1).toInt := congrArg Int32.toInt ((yK.ag (F := []) yK.rf (show yAg S [37] d_1292 d_1295 from by rw [ed_1295]; exact yAg.cs yAg.rf (by rw [hky_1293]; decide)) (by rw [hk_h0]; decide)) 1 (by decide))
                            have hE2d_1295 : (d_1295.1 h0 2).toInt = (d_1292.1 h0 2).toInt := congrArg Int32.toInt ((yK.ag (F := []) yK.rf (show yAg S [37] d_1292 d_1295 from by rw [ed_1295]; exact yAg.cs yAg.rf (by rw [hky_1293]; decide)) (by rw [hk_h0]; decide)) 2 (by decide))
                            have hE3d_1295 : (d_1295.1 h0 3).toInt = (d_1292.1 h0 3).toInt := congrArg Int32.toInt ((yK.ag (F := []) yK.rf (show yAg S [37] d_1292 d_1295 from by rw [ed_1295]; exact yAg.cs yAg.rf (by rw [hky_1293]; decide)) (by rw [hk_h0]; decide)) 3 (by decide))
                            have hE63d_1295 : (d_1295.1 h0 63).toInt = (d_1292.1 h0 63).toInt := congrArg Int32.toInt ((yK.ag (F := []) yK.rf (show yAg S [37] d_1292 d_1295 from by rw [ed_1295]; exact yAg.cs yAg.rf (by rw [hky_1293]; decide)) (by rw [hk_h0]; decide)) 63 (by decide))
                            refine lv_aload_n hx hb dX9_term_221 rfl (lv_at hl 3 rfl) ?_
                            refine yget (ci := 9) (k := 8) (v := .ref (S.2.2.1 h0 8)) (C := RX9) (T := TX9) (N := 67) C0 hK hP hm_h0 hk_h0 (by decide) rfl inlX9 (by decide) mW112 (fun _ h9 => h9) rfl dX9_term_222 ?_
                            obtain ⟨hmy_1296, hky_1296⟩ := ySh.f9_8 hSh _ hm_h0 hk_h0
                            refine lv_iload hx hb dX9_term_225 (lv_at hl 0 rfl) ?_
                            refine lv_iload hx hb dX9_term_227 (lv_at hl 9 rfl) ?_
                            have hCC_1297 := yMI.c hId_1295
                            refine yast C0 hK hP hD hS hmy_1296 hky_1296 (by decide) rfl 0 rfl (xinT 2400 rfl (by omega) (by omega)) dX9_term_229 (fun H locs hP hD hS => ?_)
                            obtain ⟨d_1298, ed_1298⟩ : ∃ z : yD, z = ycs d_1295 (S.2.2.1 h0 8) (upd (d_1295.2.2.2.1 (S.2.2.1 h0 8)) (z_1262 : Int32).toNatClampNeg p5) := ⟨_, rfl⟩
                            rw [← ed_1298] at hP hD
                            have hgd_1298 : yAg S [9, 34, 35, 36, 37, 38, 39, 40, 69] d d_1298 := by rw [ed_1298]; exact yAg.cs hgd_1295 (by rw [hky_1296]; decide)
                            have hsd_1298 : yAg S [38] d_1295 d_1298 := by rw [ed_1298]; exact yAg.cs yAg.rf (by rw [hky_1296]; decide)
                            have hPod_1298 : yPo S d_1298 := by rw [ed_1298]; exact hPod_1295
                            have hfd_1298 : yK [38] d d_1298 h0 := yK.ag hfd_1295 (show yAg S [38] d_1295 d_1298 from by rw [ed_1298]; exact yAg.cs yAg.rf (by rw [hky_1296]; decide)) (by rw [hk_h0]; decide)
                            have hId_1298 : yMI S d_1298 h0 := yMI.ag hId_1295 hSh hm_h0 hk_h0 (show yAg S [38] d_1295 d_1298 from by rw [ed_1298]; exact yAg.cs yAg.rf (by rw [hky_1296]; decide)) (yK.ag (F := []) yK.rf (show yAg S [38] d_1295 d_1298 from by rw [ed_1298]; exact yAg.cs yAg.rf (by rw [hky_1296]; decide)) (by rw [hk_h0]; decide)) (by decide) (by decide)
                            have hE0d_1298 : (d_1298.1 h0 0).toInt = (d_1295.1 h0 0).toInt := congrArg Int32.toInt ((yK.ag (F := []) yK.rf (show yAg S [38] d_1295 d_1298 from by rw [ed_1298]; exact yAg.cs yAg.rf (by rw [hky_1296]; decide)) (by rw [hk_h0]; decide)) 0 (by decide))
                            have hE1d_1298 : (d_1298.1 h0 1).toInt = (d_1295.1 h0 1).toInt := congrArg Int32.toInt ((yK.ag (F := []) yK.rf (show yAg S [38] d_1295 d_1298 from by rw [ed_1298]; exact yAg.cs yAg.rf (by rw [hky_1296]; decide)) (by rw [hk_h0]; decide)) 1 (by decide))
                            have hE2d_1298 : (d_1298.1 h0 2).toInt = (d_1295.1 h0 2).toInt := congrArg Int32.toInt ((yK.ag (F := []) yK.rf (show yAg S [38] d_1295 d_1298 from by rw [ed_1298]; exact yAg.cs yAg.rf (by rw [hky_1296]; decide)) (by rw [hk_h0]; decide)) 2 (by decide))
                            have hE3d_1298 : (d_1298.1 h0 3).toInt = (d_1295.1 h0 3).toInt := congrArg Int32.toInt ((yK.ag (F := []) yK.rf (show yAg S [38] d_1295 d_1298 from by rw [ed_1298]; exact yAg.cs yAg.rf (by rw [hky_1296]; decide)) (by rw [hk_h0]; decide)) 3 (by decide))
                            have hE63d_1298 : (d_1298.1 h0 63).toInt = (d_1295.1 h0 63).toInt := congrArg Int32.toInt ((yK.ag (F := []) yK.rf (show yAg S [38] d_1295 d_1298 from by rw [ed_1298]; exact yAg.cs yAg.rf (by rw [hky_1296]; decide)) (by rw [hk_h0]; decide)) 63 (by decide))
                            refine lv_aload_n hx hb dX9_term_230 rfl (lv_at hl 3 rfl) ?_
                            refine yget (ci := 9) (k := 9) (v := .ref (S.2.2.1 h0 9)) (C := RX9) (T := TX9) (N := 67) C0 hK hP hm_h0 hk_h0 (by decide) rfl inlX9 (by decide) mW113 (fun _ h9 => h9) rfl dX9_term_231 ?_
                            obtain ⟨hmy_1299, hky_1299⟩ := ySh.f9_9 hSh _ hm_h0 hk_h0
                            refine lv_iload hx hb dX9_term_234 (lv_at hl 0 rfl) ?_
                            refine lv_iconst (v := 0) hx hb dX9_term_236 (by decide) ?_
                            have hCC_1300 := yMI.c hId_1298
                            refine yastB C0 hK hP hD hS hmy_1299 hky_1299 (by decide) rfl 1 rfl (xinT 2400 rfl (by omega) (by omega)) dX9_term_237 (fun H locs hP hD hS => ?_)
                            obtain ⟨d_1301, ed_1301⟩ : ∃ z : yD, z = ycs d_1298 (S.2.2.1 h0 9) (upd (d_1298.2.2.2.1 (S.2.2.1 h0 9)) (z_1262 : Int32).toNatClampNeg (vp_nar .byte 0)) := ⟨_, rfl⟩
                            rw [← ed_1301] at hP hD
                            have hgd_1301 : yAg S [9, 34, 35, 36, 37, 38, 39, 40, 69] d d_1301 := by rw [ed_1301]; exact yAg.cs hgd_1298 (by rw [hky_1299]; decide)
                            have hsd_1301 : yAg S [39] d_1298 d_1301 := by rw [ed_1301]; exact yAg.cs yAg.rf (by rw [hky_1299]; decide)
                            have hPod_1301 : yPo S d_1301 := by rw [ed_1301]; exact hPod_1298
                            have hfd_1301 : yK [38] d d_1301 h0 := yK.ag hfd_1298 (show yAg S [39] d_1298 d_1301 from by rw [ed_1301]; exact yAg.cs yAg.rf (by rw [hky_1299]; decide)) (by rw [hk_h0]; decide)
                            have hId_1301 : yMI S d_1301 h0 := yMI.ag hId_1298 hSh hm_h0 hk_h0 (show yAg S [39] d_1298 d_1301 from by rw [ed_1301]; exact yAg.cs yAg.rf (by rw [hky_1299]; decide)) (yK.ag (F := []) yK.rf (show yAg S [39] d_1298 d_1301 from by rw [ed_1301]; exact yAg.cs yAg.rf (by rw [hky_1299]; decide)) (by rw [hk_h0]; decide)) (by decide) (by decide)
                            have hE0d_1301 : (d_1301.1 h0 0).toInt = (d_1298.1 h0 0).toInt := congrArg Int32.toInt ((yK.ag (F := []) yK.rf (show yAg S [39] d_1298 d_1301 from by rw [ed_1301]; exact yAg.cs yAg.rf (by rw [hky_1299]; decide)) (by rw [hk_h0]; decide)) 0 (by decide))
                            have hE1d_1301 : (d_1301.1 h0 1).toInt = (d_1298.1 h0 1).toInt := congrArg Int32.toInt ((yK.ag (F := []) yK.rf (show yAg S [39] d_1298 d_1301 from by rw [ed_1301]; exact yAg.cs yAg.rf (by rw [hky_1299]; decide)) (by rw [hk_h0]; decide)) 1 (by decide))
                            have hE2d_1301 : (d_1301.1 h0 2).toInt = (d_1298.1 h0 2).toInt := congrArg Int32.toInt ((yK.ag (F := []) yK.rf (show yAg S [39] d_1298 d_1301 from by rw [ed_1301]; exact yAg.cs yAg.rf (by rw [hky_1299]; decide)) (by rw [hk_h0]; decide)) 2 (by decide))
                            have hE3d_1301 : (d_1301.1 h0 3).toInt = (d_1298.1 h0 3).toInt := congrArg Int32.toInt ((yK.ag (F := []) yK.rf (show yAg S [39] d_1298 d_1301 from by rw [ed_1301]; exact yAg.cs yAg.rf (by rw [hky_1299]; decide)) (by rw [hk_h0]; decide)) 3 (by decide))
                            have hE63d_1301 : (d_1301.1 h0 63).toInt = (d_1298.1 h0 63).toInt := congrArg Int32.toInt ((yK.ag (F := []) yK.rf (show yAg S [39] d_1298 d_1301 from by rw [ed_1301]; exact yAg.cs yAg.rf (by rw [hky_1299]; decide)) (by rw [hk_h0]; decide)) 63 (by decide))
                            refine lv_aload_n hx hb dX9_term_238 rfl (lv_at hl 3 rfl) ?_
                            refine yget (ci := 9) (k := 10) (v := .ref (S.2.2.1 h0 10)) (C := RX9) (T := TX9) (N := 67) C0 hK hP hm_h0 hk_h0 (by decide) rfl inlX9 (by decide) mW114 (fun _ h9 => h9) rfl dX9_term_239 ?_
                            obtain ⟨hmy_1302, hky_1302⟩ := ySh.f9_10 hSh _ hm_h0 hk_h0
                            refine lv_iload hx hb dX9_term_242 (lv_at hl 0 rfl) ?_
                            refine lv_iconst (v := 0) hx hb dX9_term_244 (by decide) ?_
                            have hCC_1303 := yMI.c hId_1301
                            refine yast C0 hK hP hD hS hmy_1302 hky_1302 (by decide) rfl 0 rfl (xinT 2400 rfl (by omega) (by omega)) dX9_term_245 (fun H locs hP hD hS => ?_)
                            obtain ⟨d_1304, ed_1304⟩ : ∃ z : yD, z = ycs d_1301 (S.2.2.1 h0 10) (upd (d_1301.2.2.2.1 (S.2.2.1 h0 10)) (z_1262 : Int32).toNatClampNeg 0) := ⟨_, rfl⟩
                            rw [← ed_1304] at hP hD
                            have hgd_1304 : yAg S [9, 34, 35, 36, 37, 38, 39, 40, 69] d d_1304 := by rw [ed_1304]; exact yAg.cs hgd_1301 (by rw [hky_1302]; decide)
                            have hsd_1304 : yAg S [40] d_1301 d_1304 := by rw [ed_1304]; exact yAg.cs yAg.rf (by rw [hky_1302]; decide)
                            have hPod_1304 : yPo S d_1304 := by rw [ed_1304]; exact hPod_1301
                            have hfd_1304 : yK [38] d d_1304 h0 := yK.ag hfd_1301 (show yAg S [40] d_1301 d_1304 from by rw [ed_1304]; exact yAg.cs yAg.rf (by rw [hky_1302]; decide)) (by rw [hk_h0]; decide)
                            have hId_1304 : yMI S d_1304 h0 := yMI.ag hId_1301 hSh hm_h0 hk_h0 (show yAg S [40] d_1301 d_1304 from by rw [ed_1304]; exact yAg.cs yAg.rf (by rw [hky_1302]; decide)) (yK.ag (F := []) yK.rf (show yAg S [40] d_1301 d_1304 from by rw [ed_1304]; exact yAg.cs yAg.rf (by rw [hky_1302]; decide)) (by rw [hk_h0]; decide)) (by decide) (by decide)
                            have hE0d_1304 : (d_1304.1 h0 0).toInt = (d_1301.1 h0 0).toInt := congrArg Int32.toInt ((yK.ag (F := []) yK.rf (show yAg S [40] d_1301 d_1304 from by rw [ed_1304]; exact yAg.cs yAg.rf (by rw [hky_1302]; decide)) (by rw [hk_h0]; decide)) 0 (by decide))
                            have hE1d_1304 : (d_1304.1 h0 1).toInt = (d_1301.1 h0 1).toInt := congrArg Int32.toInt ((yK.ag (F := []) yK.rf (show yAg S [40] d_1301 d_1304 from by rw [ed_1304]; exact yAg.cs yAg.rf (by rw [hky_1302]; decide)) (by rw [hk_h0]; decide)) 1 (by decide))
                            have hE2d_1304 : (d_1304.1 h0 2).toInt = (d_1301.1 h0 2).toInt := congrArg Int32.toInt ((yK.ag (F := []) yK.rf (show yAg S [40] d_1301 d_1304 from by rw [ed_1304]; exact yAg.cs yAg.rf (by rw [hky_1302]; decide)) (by rw [hk_h0]; decide)) 2 (by decide))
                            have hE3d_1304 : (d_1304.1 h0 3).toInt = (d_1301.1 h0 3).toInt := congrArg Int32.toInt ((yK.ag (F := []) yK.rf (show yAg S [40] d_1301 d_1304 from by rw [ed_1304]; exact yAg.cs yAg.rf (by rw [hky_1302]; decide)) (by rw [hk_h0]; decide)) 3 (by decide))
                            have hE63d_1304 : (d_1304.1 h0 63).toInt = (d_1301.1 h0 63).toInt := congrArg Int32.toInt ((yK.ag (F := []) yK.rf (show yAg S [40] d_1301 d_1304 from by rw [ed_1304]; exact yAg.cs yAg.rf (by rw [hky_1302]; decide)) (by rw [hk_h0]; decide)) 63 (by decide))
                            refine lv_iconst (v := 1) hx hb dX9_term_246 (by decide) ?_
                            have hCC_1305 := yMI.c hId_1304
                            rw [ez_1286] at ed_1288
                            rw [ez_1290] at ed_1292
                            exact W.zret (v := 1) (ty := .boolean) hx hb hr rfl (fun t ht hW => ⟨⟨1, d_1304, rfl, ⟨hgd_1304, (fun _ => hPod_1304), hfd_1304, ⟨hId_1304, Or.inr ⟨by have h0_ : (1 : Int32).toInt = 1 := (by decide +kernel); omega, by omega, (zRow7 (zTr.ag zTr.rf hSh hm_h0 hk_h0 hsd_1 (by decide)) hSh hm_h0 hk_h0 (show (z_1262 : Int32).toNatClampNeg = (60 * p0.toInt.toNat + p1.toInt.toNat) from (show (z_1262 : Int32).toInt.toNat = _ by omega)) (show (z_1262 : Int32).toNatClampNeg = (60 * p0.toInt.toNat + p1.toInt.toNat) from (show (z_1262 : Int32).toInt.toNat = _ by omega)) (show (z_1262 : Int32).toNatClampNeg = (60 * p0.toInt.toNat + p1.toInt.toNat) from (show (z_1262 : Int32).toInt.toNat = _ by omega)) (show (z_1262 : Int32).toNatClampNeg = (60 * p0.toInt.toNat + p1.toInt.toNat) from (show (z_1262 : Int32).toInt.toNat = _ by omega)) (show (z_1262 : Int32).toNatClampNeg = (60 * p0.toInt.toNat + p1.toInt.toNat) from (show (z_1262 : Int32).toInt.toNat = _ by omega)) (show (z_1262 : Int32).toNatClampNeg = (60 * p0.toInt.toNat + p1.toInt.toNat) from (show (z_1262 : Int32).toInt.toNat = _ by omega)) (show (z_1262 : Int32).toNatClampNeg = (60 * p0.toInt.toNat + p1.toInt.toNat) from (show (z_1262 : Int32).toInt.toNat = _ by omega)) ed_1284 ed_1288 ed_1292 ed_1295 ed_1298 ed_1301 ed_1304)⟩⟩⟩, by rw [ht]; exact hP, hD⟩, hS.F ht⟩) hS.2.2 dX9_term_247
                          · refine lv_aload_n hx hb dX9_term_168 rfl (lv_at hl 2 rfl) ?_
                            refine lv_iload hx hb dX9_term_169 (lv_at hl 1 rfl) ?_
                            have F_1306 := fnlt (rfl : (p2 : Int32).toInt = (p2 : Int32).toInt) (by decide +kernel : (0 : Int32).toInt = 0) c_3
                            have F_1307 := fnlt (by decide +kernel : (4 : Int32).toInt = 4) (rfl : (p2 : Int32).toInt = (p2 : Int32).toInt) c_118
                            have F_1308 := fnlt (rfl : (p3 : Int32).toInt = (p3 : Int32).toInt) (by decide +kernel : (0 : Int32).toInt = 0) c_241
                            have F_1309 := fle (rfl : (p3 : Int32).toInt = (p3 : Int32).toInt) (by decide +kernel : (4 : Int32).toInt = 4) c_372
                            have F_1310 := feq (rfl : (p3 : Int32).toInt = (p3 : Int32).toInt) (by decide +kernel : (1 : Int32).toInt = 1) c_373
                            have F_1311 := feq (by decide +kernel : (0 : Int32).toInt = 0) (by decide +kernel : (0 : Int32).toInt = 0) c_831
                            have F_1312 := fnlt (rfl : (p4 : Int32).toInt = (p4 : Int32).toInt) (by decide +kernel : (0 : Int32).toInt = 0) c_832
                            have F_1313 := fnlt (by decide +kernel : (1440 : Int32).toInt = 1440) (rfl : (p4 : Int32).toInt = (p4 : Int32).toInt) c_907
                            have F_1314 := fnlt (rfl : (p5 : Int32).toInt = (p5 : Int32).toInt) (by decide +kernel : (0 : Int32).toInt = 0) c_986
                            have F_1315 := fle (rfl : (p5 : Int32).toInt = (p5 : Int32).toInt) (by decide +kernel : (1440 : Int32).toInt = 1440) c_1069
                            have F_1316 := feq (rfl : (p3 : Int32).toInt = (p3 : Int32).toInt) (by decide +kernel : (3 : Int32).toInt = 3) c_1070
                            have F_1317 := feq (by decide +kernel : (0 : Int32).toInt = 0) (by decide +kernel : (0 : Int32).toInt = 0) c_1255
                            have F_1318 := fnlt (rfl : (p4 : Int32).toInt = (p4 : Int32).toInt) (by decide +kernel : (0 : Int32).toInt = 0) c_1256
                            have F_1319 := fle (rfl : (p4 : Int32).toInt = (p4 : Int32).toInt) (by decide +kernel : (4 : Int32).toInt = 4) c_1257
                            have F_1320 := fne (rfl : (p3 : Int32).toInt = (p3 : Int32).toInt) (by decide +kernel : (4 : Int32).toInt = 4) c_1258
                            have F_1321 := feq (by decide +kernel : (0 : Int32).toInt = 0) (by decide +kernel : (0 : Int32).toInt = 0) c_1259
                            have F_1322 := fne (rfl : (r_2 : Int32).toInt = (r_2 : Int32).toInt) (by decide +kernel : (0 : Int32).toInt = 0) c_1260
                            refine yVwi (As := [.int r_2]) (rest := []) C0 (g_X9_no l G S d_1 h0 r_2 hSh hPod_1 hm_h0 hk_h0 (by refine ⟨?_, ?_⟩ <;> omega)) ok_X9_no (mW177 : Cond.methodLink RX9 168 yX9_no ∈ wsT) ⟨Nat.le_of_ble_eq_true rfl, Nat.le_of_ble_eq_true rfl⟩ hP hD hS hA hK hN hm_h0 hk_h0 (by decide) rfl rfl rfl hl.1 rfl (Nat.le_of_ble_eq_true rfl) ⟨Nat.le_of_ble_eq_true rfl, Nat.le_of_ble_eq_true rfl⟩ dX9_term_171 (fun r_1323 d_1324 H locs hr_1323 hP hD hS => ?_)
                            obtain ⟨hgad_1324, hpad_1324, hfad_1324, hxd_1324⟩ := hr_1323
                            have hfd_1324 : yK [38] d d_1324 h0 := yK.tr hfd_1 hfad_1324 (by decide)
                            have hE0d_1324 : (d_1324.1 h0 0).toInt = (d_1.1 h0 0).toInt := congrArg Int32.toInt (hfad_1324 0 (by decide))
                            have hE1d_1324 : (d_1324.1 h0 1).toInt = (d_1.1 h0 1).toInt := congrArg Int32.toInt (hfad_1324 1 (by decide))
                            have hE2d_1324 : (d_1324.1 h0 2).toInt = (d_1.1 h0 2).toInt := congrArg Int32.toInt (hfad_1324 2 (by decide))
                            have hE3d_1324 : (d_1324.1 h0 3).toInt = (d_1.1 h0 3).toInt := congrArg Int32.toInt (hfad_1324 3 (by decide))
                            have hE63d_1324 : (d_1324.1 h0 63).toInt = (d_1.1 h0 63).toInt := congrArg Int32.toInt (hfad_1324 63 (by decide))
                            have hId_1324 : yMI S d_1324 h0 := yMI.ag hId_1 hSh hm_h0 hk_h0 hgad_1324 hfad_1324 (by decide) (by decide)
                            have hgd_1324 : yAg S [9, 34, 35, 36, 37, 38, 39, 40, 69] d d_1324 := yAg.tr hgd_1 hgad_1324 (by first | decide | exact fun _ h => h)
                            have hPod_1324 : yPo S d_1324 := hpad_1324 hPod_1
                            refine lv_pop hx hb dX9_term_174 rfl ?_
                            refine lv_iconst (v := 0) hx hb dX9_term_175 (by decide) ?_
                            have hCC_1325 := yMI.c hId_1324
                            exact W.zret (v := 0) (ty := .boolean) hx hb hr rfl (fun t ht hW => ⟨⟨0, d_1324, rfl, ⟨hgd_1324, (fun _ => hPod_1324), hfd_1324, ⟨hId_1324, Or.inl ⟨by have h0_ : (0 : Int32).toInt = 0 := (by decide +kernel); omega, by omega, (zTr.ag (zTr.ag zTr.rf hSh hm_h0 hk_h0 hsd_1 (by decide)) hSh hm_h0 hk_h0 hgad_1324 (by decide))⟩⟩⟩, by rw [ht]; exact hP, hD⟩, hS.F ht⟩) hS.2.2 dX9_term_176
                        · refine lv_iload hx hb dX9_term_119 (lv_at hl 0 rfl) ?_
                          refine lv_if_ne (tgt := 148) hx hb dX9_term_121 (by decide) (fun c_1326 => absurd c_1326 (by decide +kernel)) (fun c_1326 => ?_)
                          refine lv_iload hx hb dX9_term_124 (lv_at hl 7 rfl) ?_
                          refine lv_if_lt (tgt := 148) hx hb dX9_term_126 (by decide) (fun c_1327 => absurd c_1327 c_832) (fun c_1327 => ?_)
                          refine lv_iload hx hb dX9_term_129 (lv_at hl 7 rfl) ?_
                          refine lv_ldc (v := 129600) hx hb hown (htl (.constant RX9 174 (129600)) mW221) dX9_term_131 ?_
                          refine lv_icmp_gt (tgt := 148) hx hb dX9_term_133 (by decide) (fun c_1328 => ?_) (fun c_1328 => ?_)
                          · refine lv_iconst (v := 1) hx hb dX9_term_148 (by decide) ?_
                            refine lv_goto (tgt := 153) hx hb dX9_term_149 (by decide) ?_
                            refine lv_istore (lv' := [(8, .int 1), (7, .int r_2), (0, .ref h0), (1, .int p0), (2, .int p1), (3, .int p2), (4, .int p3), (5, .int p4), (6, .int p5)]) hx hb dX9_term_153 hl (by decide) rfl (fun ls hl => ?_)
                            refine lv_iload hx hb dX9_term_155 (lv_at hl 0 rfl) ?_
                            refine lv_if_eq (tgt := 163) hx hb dX9_term_157 (by decide) (fun c_1329 => absurd c_1329 (by decide +kernel)) (fun c_1329 => ?_)
                            refine lv_iconst (v := 1) hx hb dX9_term_160 (by decide) ?_
                            refine lv_istore (lv' := [(7, .int 1), (8, .int 1), (0, .ref h0), (1, .int p0), (2, .int p1), (3, .int p2), (4, .int p3), (5, .int p4), (6, .int p5)]) hx hb dX9_term_161 hl (by decide) rfl (fun ls hl => ?_)
                            refine lv_iload hx hb dX9_term_163 (lv_at hl 0 rfl) ?_
                            refine lv_if_eq (tgt := 177) hx hb dX9_term_165 (by decide) (fun c_1330 => absurd c_1330 (by decide +kernel)) (fun c_1330 => ?_)
                            refine lv_aload_n hx hb dX9_term_168 rfl (lv_at hl 2 rfl) ?_
                            refine lv_iload hx hb dX9_term_169 (lv_at hl 0 rfl) ?_
                            refine yVwi (As := [.int 1]) (rest := []) C0 (g_X9_no l G S d_1 h0 1 hSh hPod_1 hm_h0 hk_h0 (by decide +kernel)) ok_X9_no (mW177 : Cond.methodLink RX9 168 yX9_no ∈ wsT) ⟨Nat.le_of_ble_eq_true rfl, Nat.le_of_ble_eq_true rfl⟩ hP hD hS hA hK hN hm_h0 hk_h0 (by decide) rfl rfl rfl hl.1 rfl (Nat.le_of_ble_eq_true rfl) ⟨Nat.le_of_ble_eq_true rfl, Nat.le_of_ble_eq_true rfl⟩ dX9_term_171 (fun r_1331 d_1332 H locs hr_1331 hP hD hS => ?_)
                            obtain ⟨hgad_1332, hpad_1332, hfad_1332, hxd_1332⟩ := hr_1331
                            have hfd_1332 : yK [38] d d_1332 h0 := yK.tr hfd_1 hfad_1332 (by decide)
                            have hE0d_1332 : (d_1332.1 h0 0).toInt = (d_1.1 h0 0).toInt := congrArg Int32.toInt (hfad_1332 0 (by decide))
                            have hE1d_1332 : (d_1332.1 h0 1).toInt = (d_1.1 h0 1).toInt := congrArg Int32.toInt (hfad_1332 1 (by decide))
                            have hE2d_1332 : (d_1332.1 h0 2).toInt = (d_1.1 h0 2).toInt := congrArg Int32.toInt (hfad_1332 2 (by decide))
                            have hE3d_1332 : (d_1332.1 h0 3).toInt = (d_1.1 h0 3).toInt := congrArg Int32.toInt (hfad_1332 3 (by decide))
                            have hE63d_1332 : (d_1332.1 h0 63).toInt = (d_1.1 h0 63).toInt := congrArg Int32.toInt (hfad_1332 63 (by decide))
                            have hId_1332 : yMI S d_1332 h0 := yMI.ag hId_1 hSh hm_h0 hk_h0 hgad_1332 hfad_1332 (by decide) (by decide)
                            have hgd_1332 : yAg S [9, 34, 35, 36, 37, 38, 39, 40, 69] d d_1332 := yAg.tr hgd_1 hgad_1332 (by first | decide | exact fun _ h => h)
                            have hPod_1332 : yPo S d_1332 := hpad_1332 hPod_1
                            refine lv_pop hx hb dX9_term_174 rfl ?_
                            refine lv_iconst (v := 0) hx hb dX9_term_175 (by decide) ?_
                            have hCC_1333 := yMI.c hId_1332
                            have F_1334 := fnlt (rfl : (p2 : Int32).toInt = (p2 : Int32).toInt) (by decide +kernel : (0 : Int32).toInt = 0) c_3
                            have F_1335 := fnlt (by decide +kernel : (4 : Int32).toInt = 4) (rfl : (p2 : Int32).toInt = (p2 : Int32).toInt) c_118
                            have F_1336 := fnlt (rfl : (p3 : Int32).toInt = (p3 : Int32).toInt) (by decide +kernel : (0 : Int32).toInt = 0) c_241
                            have F_1337 := fle (rfl : (p3 : Int32).toInt = (p3 : Int32).toInt) (by decide +kernel : (4 : Int32).toInt = 4) c_372
                            have F_1338 := feq (rfl : (p3 : Int32).toInt = (p3 : Int32).toInt) (by decide +kernel : (1 : Int32).toInt = 1) c_373
                            have F_1339 := feq (by decide +kernel : (0 : Int32).toInt = 0) (by decide +kernel : (0 : Int32).toInt = 0) c_831
                            have F_1340 := fnlt (rfl : (p4 : Int32).toInt = (p4 : Int32).toInt) (by decide +kernel : (0 : Int32).toInt = 0) c_832
                            have F_1341 := fnlt (by decide +kernel : (1440 : Int32).toInt = 1440) (rfl : (p4 : Int32).toInt = (p4 : Int32).toInt) c_907
                            have F_1342 := fnlt (rfl : (p5 : Int32).toInt = (p5 : Int32).toInt) (by decide +kernel : (0 : Int32).toInt = 0) c_986
                            have F_1343 := fle (rfl : (p5 : Int32).toInt = (p5 : Int32).toInt) (by decide +kernel : (1440 : Int32).toInt = 1440) c_1069
                            have F_1344 := feq (rfl : (p3 : Int32).toInt = (p3 : Int32).toInt) (by decide +kernel : (3 : Int32).toInt = 3) c_1070
                            have F_1345 := feq (by decide +kernel : (0 : Int32).toInt = 0) (by decide +kernel : (0 : Int32).toInt = 0) c_1255
                            have F_1346 := fnlt (rfl : (p4 : Int32).toInt = (p4 : Int32).toInt) (by decide +kernel : (0 : Int32).toInt = 0) c_1256
                            have F_1347 := fle (rfl : (p4 : Int32).toInt = (p4 : Int32).toInt) (by decide +kernel : (4 : Int32).toInt = 4) c_1257
                            have F_1348 := feq (rfl : (p3 : Int32).toInt = (p3 : Int32).toInt) (by decide +kernel : (4 : Int32).toInt = 4) c_1258
                            have F_1349 := feq (by decide +kernel : (0 : Int32).toInt = 0) (by decide +kernel : (0 : Int32).toInt = 0) c_1326
                            have F_1350 := fnlt (rfl : (p4 : Int32).toInt = (p4 : Int32).toInt) (by decide +kernel : (0 : Int32).toInt = 0) c_1327
                            have F_1351 := flt (by decide +kernel : (129600 : Int32).toInt = 129600) (rfl : (p4 : Int32).toInt = (p4 : Int32).toInt) c_1328
                            have F_1352 := fne (by decide +kernel : (1 : Int32).toInt = 1) (by decide +kernel : (0 : Int32).toInt = 0) c_1329
                            have F_1353 := fne (by decide +kernel : (1 : Int32).toInt = 1) (by decide +kernel : (0 : Int32).toInt = 0) c_1330
                            exact W.zret (v := 0) (ty := .boolean) hx hb hr rfl (fun t ht hW => ⟨⟨0, d_1332, rfl, ⟨hgd_1332, (fun _ => hPod_1332), hfd_1332, ⟨hId_1332, Or.inl ⟨by have h0_ : (0 : Int32).toInt = 0 := (by decide +kernel); omega, by omega, (zTr.ag (zTr.ag zTr.rf hSh hm_h0 hk_h0 hsd_1 (by decide)) hSh hm_h0 hk_h0 hgad_1332 (by decide))⟩⟩⟩, by rw [ht]; exact hP, hD⟩, hS.F ht⟩) hS.2.2 dX9_term_176
                          · refine lv_iload hx hb dX9_term_136 (lv_at hl 8 rfl) ?_
                            refine lv_if_lt (tgt := 148) hx hb dX9_term_138 (by decide) (fun c_1354 => absurd c_1354 c_986) (fun c_1354 => ?_)
                            refine lv_iload hx hb dX9_term_141 (lv_at hl 8 rfl) ?_
                            refine lv_ldc (v := 129600) hx hb hown (htl (.constant RX9 174 (129600)) mW221) dX9_term_143 ?_
                            refine lv_icmp_le (tgt := 152) hx hb dX9_term_145 (by decide) (fun c_1355 => ?_) (fun c_1355 => ?_)
                            · refine lv_iconst (v := 0) hx hb dX9_term_152 (by decide) ?_
                              refine lv_istore (lv' := [(8, .int 0), (7, .int r_2), (0, .ref h0), (1, .int p0), (2, .int p1), (3, .int p2), (4, .int p3), (5, .int p4), (6, .int p5)]) hx hb dX9_term_153 hl (by decide) rfl (fun ls hl => ?_)
                              refine lv_iload hx hb dX9_term_155 (lv_at hl 0 rfl) ?_
                              refine lv_if_eq (tgt := 163) hx hb dX9_term_157 (by decide) (fun c_1356 => ?_) (fun c_1356 => absurd c_1356 (by decide +kernel))
                              refine lv_iload hx hb dX9_term_163 (lv_at hl 1 rfl) ?_
                              refine lv_if_eq (tgt := 177) hx hb dX9_term_165 (by decide) (fun c_1357 => ?_) (fun c_1357 => ?_)
                              · refine lv_bipush (v := 60) hx hb dX9_term_177 (by decide) ?_
                                refine lv_iload_n hx hb dX9_term_179 rfl (lv_at hl 3 rfl) ?_
                                refine lv_imul hx hb dX9_term_180 ?_
                                refine lv_topi (fun z_1358 ez_1358 => ?_)
                                refine lv_iload_n hx hb dX9_term_181 rfl (lv_at hl 4 rfl) ?_
                                refine lv_iadd hx hb dX9_term_182 ?_
                                refine lv_topi (fun z_1359 ez_1359 => ?_)
                                refine lv_istore (lv' := [(9, .int z_1359), (8, .int 0), (7, .int r_2), (0, .ref h0), (1, .int p0), (2, .int p1), (3, .int p2), (4, .int p3), (5, .int p4), (6, .int p5)]) hx hb dX9_term_183 hl (by decide) rfl (fun ls hl => ?_)
                                refine lv_aload_n hx hb dX9_term_185 rfl (lv_at hl 3 rfl) ?_
                                refine yget (ci := 9) (k := 4) (v := .ref (S.2.2.1 h0 4)) (C := RX9) (T := TX9) (N := 67) C0 hK hP hm_h0 hk_h0 (by decide) rfl inlX9 (by decide) mW108 (fun _ h9 => h9) rfl dX9_term_186 ?_
                                obtain ⟨hmy_1360, hky_1360⟩ := ySh.f9_4 hSh _ hm_h0 hk_h0
                                refine lv_iload hx hb dX9_term_189 (lv_at hl 0 rfl) ?_
                                refine lv_iconst (v := 2) hx hb dX9_term_191 (by decide) ?_
                                have hCC_1361 := yMI.c hId_1
                                have F_1362 := fnlt (rfl : (p2 : Int32).toInt = (p2 : Int32).toInt) (by decide +kernel : (0 : Int32).toInt = 0) c_3
                                have F_1363 := fnlt (by decide +kernel : (4 : Int32).toInt = 4) (rfl : (p2 : Int32).toInt = (p2 : Int32).toInt) c_118
                                have F_1364 := fnlt (rfl : (p3 : Int32).toInt = (p3 : Int32).toInt) (by decide +kernel : (0 : Int32).toInt = 0) c_241
                                have F_1365 := fle (rfl : (p3 : Int32).toInt = (p3 : Int32).toInt) (by decide +kernel : (4 : Int32).toInt = 4) c_372
                                have F_1366 := feq (rfl : (p3 : Int32).toInt = (p3 : Int32).toInt) (by decide +kernel : (1 : Int32).toInt = 1) c_373
                                have F_1367 := feq (by decide +kernel : (0 : Int32).toInt = 0) (by decide +kernel : (0 : Int32).toInt = 0) c_831
                                have F_1368 := fnlt (rfl : (p4 : Int32).toInt = (p4 : Int32).toInt) (by decide +kernel : (0 : Int32).toInt = 0) c_832
                                have F_1369 := fnlt (by decide +kernel : (1440 : Int32).toInt = 1440) (rfl : (p4 : Int32).toInt = (p4 : Int32).toInt) c_907
                                have F_1370 := fnlt (rfl : (p5 : Int32).toInt = (p5 : Int32).toInt) (by decide +kernel : (0 : Int32).toInt = 0) c_986
                                have F_1371 := fle (rfl : (p5 : Int32).toInt = (p5 : Int32).toInt) (by decide +kernel : (1440 : Int32).toInt = 1440) c_1069
                                have F_1372 := feq (rfl : (p3 : Int32).toInt = (p3 : Int32).toInt) (by decide +kernel : (3 : Int32).toInt = 3) c_1070
                                have F_1373 := feq (by decide +kernel : (0 : Int32).toInt = 0) (by decide +kernel : (0 : Int32).toInt = 0) c_1255
                                have F_1374 := fnlt (rfl : (p4 : Int32).toInt = (p4 : Int32).toInt) (by decide +kernel : (0 : Int32).toInt = 0) c_1256
                                have F_1375 := fle (rfl : (p4 : Int32).toInt = (p4 : Int32).toInt) (by decide +kernel : (4 : Int32).toInt = 4) c_1257
                                have F_1376 := feq (rfl : (p3 : Int32).toInt = (p3 : Int32).toInt) (by decide +kernel : (4 : Int32).toInt = 4) c_1258
                                have F_1377 := feq (by decide +kernel : (0 : Int32).toInt = 0) (by decide +kernel : (0 : Int32).toInt = 0) c_1326
                                have F_1378 := fnlt (rfl : (p4 : Int32).toInt = (p4 : Int32).toInt) (by decide +kernel : (0 : Int32).toInt = 0) c_1327
                                have F_1379 := fnlt (by decide +kernel : (129600 : Int32).toInt = 129600) (rfl : (p4 : Int32).toInt = (p4 : Int32).toInt) c_1328
                                have F_1380 := fnlt (rfl : (p5 : Int32).toInt = (p5 : Int32).toInt) (by decide +kernel : (0 : Int32).toInt = 0) c_1354
                                have F_1381 := fle (rfl : (p5 : Int32).toInt = (p5 : Int32).toInt) (by decide +kernel : (129600 : Int32).toInt = 129600) c_1355
                                have F_1382 := feq (by decide +kernel : (0 : Int32).toInt = 0) (by decide +kernel : (0 : Int32).toInt = 0) c_1356
                                have F_1383 := feq (rfl : (r_2 : Int32).toInt = (r_2 : Int32).toInt) (by decide +kernel : (0 : Int32).toInt = 0) c_1357
                                have T_1385 : (z_1358 : Int32).toInt = 60 * (p0 : Int32).toInt := tmul ez_1358 (by decide +kernel : (60 : Int32).toInt = 60) (rfl : (p0 : Int32).toInt = (p0 : Int32).toInt) (by omega) (by omega)
                                have T_1384 : (z_1359 : Int32).toInt = (z_1358 : Int32).toInt + (p1 : Int32).toInt := tadd ez_1359 (rfl : (z_1358 : Int32).toInt = (z_1358 : Int32).toInt) (rfl : (p1 : Int32).toInt = (p1 : Int32).toInt) (by omega) (by omega)
                                refine yastB C0 hK hP hD hS hmy_1360 hky_1360 (by decide) rfl 1 rfl (xinT 2400 rfl (by omega) (by omega)) dX9_term_192 (fun H locs hP hD hS => ?_)
                                obtain ⟨d_1386, ed_1386⟩ : ∃ z : yD, z = ycs d_1 (S.2.2.1 h0 4) (upd (d_1.2.2.2.1 (S.2.2.1 h0 4)) (z_1359 : Int32).toNatClampNeg (vp_nar .byte 2)) := ⟨_, rfl⟩
                                rw [← ed_1386] at hP hD
                                have hgd_1386 : yAg S [9, 34, 35, 36, 37, 38, 39, 40, 69] d d_1386 := by rw [ed_1386]; exact yAg.cs hgd_1 (by rw [hky_1360]; decide)
                                have hsd_1386 : yAg S [34] d_1 d_1386 := by rw [ed_1386]; exact yAg.cs yAg.rf (by rw [hky_1360]; decide)
                                have hPod_1386 : yPo S d_1386 := by rw [ed_1386]; exact hPod_1
                                have hfd_1386 : yK [38] d d_1386 h0 := yK.ag hfd_1 (show yAg S [34] d_1 d_1386 from by rw [ed_1386]; exact yAg.cs yAg.rf (by rw [hky_1360]; decide)) (by rw [hk_h0]; decide)
                                have hId_1386 : yMI S d_1386 h0 := yMI.ag hId_1 hSh hm_h0 hk_h0 (show yAg S [34] d_1 d_1386 from by rw [ed_1386]; exact yAg.cs yAg.rf (by rw [hky_1360]; decide)) (yK.ag (F := []) yK.rf (show yAg S [34] d_1 d_1386 from by rw [ed_1386]; exact yAg.cs yAg.rf (by rw [hky_1360]; decide)) (by rw [hk_h0]; decide)) (by decide) (by decide)
                                have hE0d_1386 : (d_1386.1 h0 0).toInt = (d_1.1 h0 0).toInt := congrArg Int32.toInt ((yK.ag (F := []) yK.rf (show yAg S [34] d_1 d_1386 from by rw [ed_1386]; exact yAg.cs yAg.rf (by rw [hky_1360]; decide)) (by rw [hk_h0]; decide)) 0 (by decide))
                                have hE1d_1386 : (d_1386.1 h0 1).toInt = (d_1.1 h0 1).toInt := congrArg Int32.toInt ((yK.ag (F := []) yK.rf (show yAg S [34] d_1 d_1386 from by rw [ed_1386]; exact yAg.cs yAg.rf (by rw [hky_1360]; decide)) (by rw [hk_h0]; decide)) 1 (by decide))
                                have hE2d_1386 : (d_1386.1 h0 2).toInt = (d_1.1 h0 2).toInt := congrArg Int32.toInt ((yK.ag (F := []) yK.rf (show yAg S [34] d_1 d_1386 from by rw [ed_1386]; exact yAg.cs yAg.rf (by rw [hky_1360]; decide)) (by rw [hk_h0]; decide)) 2 (by decide))
                                have hE3d_1386 : (d_1386.1 h0 3).toInt = (d_1.1 h0 3).toInt := congrArg Int32.toInt ((yK.ag (F := []) yK.rf (show yAg S [34] d_1 d_1386 from by rw [ed_1386]; exact yAg.cs yAg.rf (by rw [hky_1360]; decide)) (by rw [hk_h0]; decide)) 3 (by decide))
                                have hE63d_1386 : (d_1386.1 h0 63).toInt = (d_1.1 h0 63).toInt := congrArg Int32.toInt ((yK.ag (F := []) yK.rf (show yAg S [34] d_1 d_1386 from by rw [ed_1386]; exact yAg.cs yAg.rf (by rw [hky_1360]; decide)) (by rw [hk_h0]; decide)) 63 (by decide))
                                refine lv_aload_n hx hb dX9_term_193 rfl (lv_at hl 3 rfl) ?_
                                refine yget (ci := 9) (k := 5) (v := .ref (S.2.2.1 h0 5)) (C := RX9) (T := TX9) (N := 67) C0 hK hP hm_h0 hk_h0 (by decide) rfl inlX9 (by decide) mW109 (fun _ h9 => h9) rfl dX9_term_194 ?_
                                obtain ⟨hmy_1387, hky_1387⟩ := ySh.f9_5 hSh _ hm_h0 hk_h0
                                refine lv_iload hx hb dX9_term_197 (lv_at hl 0 rfl) ?_
                                refine lv_iload_n hx hb dX9_term_199 rfl (lv_at hl 6 rfl) ?_
                                refine lv_i2b hx hb dX9_term_200 rfl ?_
                                refine lv_topi (fun z_1388 ez_1388 => ?_)
                                have hCC_1389 := yMI.c hId_1386
                                refine yastB C0 hK hP hD hS hmy_1387 hky_1387 (by decide) rfl 1 rfl (xinT 2400 rfl (by omega) (by omega)) dX9_term_201 (fun H locs hP hD hS => ?_)
                                obtain ⟨d_1390, ed_1390⟩ : ∃ z : yD, z = ycs d_1386 (S.2.2.1 h0 5) (upd (d_1386.2.2.2.1 (S.2.2.1 h0 5)) (z_1359 : Int32).toNatClampNeg (vp_nar .byte z_1388)) := ⟨_, rfl⟩
                                rw [← ed_1390] at hP hD
                                have hgd_1390 : yAg S [9, 34, 35, 36, 37, 38, 39, 40, 69] d d_1390 := by rw [ed_1390]; exact yAg.cs hgd_1386 (by rw [hky_1387]; decide)
                                have hsd_1390 : yAg S [35] d_1386 d_1390 := by rw [ed_1390]; exact yAg.cs yAg.rf (by rw [hky_1387]; decide)
                                have hPod_1390 : yPo S d_1390 := by rw [ed_1390]; exact hPod_1386
                                have hfd_1390 : yK [38] d d_1390 h0 := yK.ag hfd_1386 (show yAg S [35] d_1386 d_1390 from by rw [ed_1390]; exact yAg.cs yAg.rf (by rw [hky_1387]; decide)) (by rw [hk_h0]; decide)
                                have hId_1390 : yMI S d_1390 h0 := yMI.ag hId_1386 hSh hm_h0 hk_h0 (show yAg S [35] d_1386 d_1390 from by rw [ed_1390]; exact yAg.cs yAg.rf (by rw [hky_1387]; decide)) (yK.ag (F := []) yK.rf (show yAg S [35] d_1386 d_1390 from by rw [ed_1390]; exact yAg.cs yAg.rf (by rw [hky_1387]; decide)) (by rw [hk_h0]; decide)) (by decide) (by decide)
                                have hE0d_1390 : (d_1390.1 h0 0).toInt = (d_1386.1 h0 0).toInt := congrArg Int32.toInt ((yK.ag (F := []) yK.rf (show yAg S [35] d_1386 d_1390 from by rw [ed_1390]; exact yAg.cs yAg.rf (by rw [hky_1387]; decide)) (by rw [hk_h0]; decide)) 0 (by decide))
                                have hE1d_1390 : (d_1390.1 h0 1).toInt = (d_1386.1 h0 1).toInt := congrArg Int32.toInt ((yK.ag (F := []) yK.rf (show yAg S [35] d_1386 d_1390 from by rw [ed_1390]; exact yAg.cs yAg.rf (by rw [hky_1387]; decide)) (by rw [hk_h0]; decide)) 1 (by decide))
                                have hE2d_1390 : (d_1390.1 h0 2).toInt = (d_1386.1 h0 2).toInt := congrArg Int32.toInt ((yK.ag (F := []) yK.rf (show yAg S [35] d_1386 d_1390 from by rw [ed_1390]; exact yAg.cs yAg.rf (by rw [hky_1387]; decide)) (by rw [hk_h0]; decide)) 2 (by decide))
                                have hE3d_1390 : (d_1390.1 h0 3).toInt = (d_1386.1 h0 3).toInt := congrArg Int32.toInt ((yK.ag (F := []) yK.rf (show yAg S [35] d_1386 d_1390 from by rw [ed_1390]; exact yAg.cs yAg.rf (by rw [hky_1387]; decide)) (by rw [hk_h0]; decide)) 3 (by decide))
                                have hE63d_1390 : (d_1390.1 h0 63).toInt = (d_1386.1 h0 63).toInt := congrArg Int32.toInt ((yK.ag (F := []) yK.rf (show yAg S [35] d_1386 d_1390 from by rw [ed_1390]; exact yAg.cs yAg.rf (by rw [hky_1387]; decide)) (by rw [hk_h0]; decide)) 63 (by decide))
                                refine lv_aload_n hx hb dX9_term_202 rfl (lv_at hl 3 rfl) ?_
                                refine yget (ci := 9) (k := 6) (v := .ref (S.2.2.1 h0 6)) (C := RX9) (T := TX9) (N := 67) C0 hK hP hm_h0 hk_h0 (by decide) rfl inlX9 (by decide) mW110 (fun _ h9 => h9) rfl dX9_term_203 ?_
                                obtain ⟨hmy_1391, hky_1391⟩ := ySh.f9_6 hSh _ hm_h0 hk_h0
                                refine lv_iload hx hb dX9_term_206 (lv_at hl 0 rfl) ?_
                                refine lv_iload hx hb dX9_term_208 (lv_at hl 7 rfl) ?_
                                refine lv_i2b hx hb dX9_term_210 rfl ?_
                                refine lv_topi (fun z_1392 ez_1392 => ?_)
                                have hCC_1393 := yMI.c hId_1390
                                refine yastB C0 hK hP hD hS hmy_1391 hky_1391 (by decide) rfl 1 rfl (xinT 2400 rfl (by omega) (by omega)) dX9_term_211 (fun H locs hP hD hS => ?_)
                                obtain ⟨d_1394, ed_1394⟩ : ∃ z : yD, z = ycs d_1390 (S.2.2.1 h0 6) (upd (d_1390.2.2.2.1 (S.2.2.1 h0 6)) (z_1359 : Int32).toNatClampNeg (vp_nar .byte z_1392)) := ⟨_, rfl⟩
                                rw [← ed_1394] at hP hD
                                have hgd_1394 : yAg S [9, 34, 35, 36, 37, 38, 39, 40, 69] d d_1394 := by rw [ed_1394]; exact yAg.cs hgd_1390 (by rw [hky_1391]; decide)
                                have hsd_1394 : yAg S [36] d_1390 d_1394 := by rw [ed_1394]; exact yAg.cs yAg.rf (by rw [hky_1391]; decide)
                                have hPod_1394 : yPo S d_1394 := by rw [ed_1394]; exact hPod_1390
                                have hfd_1394 : yK [38] d d_1394 h0 := yK.ag hfd_1390 (show yAg S [36] d_1390 d_1394 from by rw [ed_1394]; exact yAg.cs yAg.rf (by rw [hky_1391]; decide)) (by rw [hk_h0]; decide)
                                have hId_1394 : yMI S d_1394 h0 := yMI.ag hId_1390 hSh hm_h0 hk_h0 (show yAg S [36] d_1390 d_1394 from by rw [ed_1394]; exact yAg.cs yAg.rf (by rw [hky_1391]; decide)) (yK.ag (F := []) yK.rf (show yAg S [36] d_1390 d_1394 from by rw [ed_1394]; exact yAg.cs yAg.rf (by rw [hky_1391]; decide)) (by rw [hk_h0]; decide)) (by decide) (by decide)
                                have hE0d_1394 : (d_1394.1 h0 0).toInt = (d_1390.1 h0 0).toInt := congrArg Int32.toInt ((yK.ag (F := []) yK.rf (show yAg S [36] d_1390 d_1394 from by rw [ed_1394]; exact yAg.cs yAg.rf (by rw [hky_1391]; decide)) (by rw [hk_h0]; decide)) 0 (by decide))
                                have hE1d_1394 : (d_1394.1 h0 1).toInt = (d_1390.1 h0 1).toInt := congrArg Int32.toInt ((yK.ag (F := []) yK.rf (show yAg S [36] d_1390 d_1394 from by rw [ed_1394]; exact yAg.cs yAg.rf (by rw [hky_1391]; decide)) (by rw [hk_h0]; decide)) 1 (by decide))
                                have hE2d_1394 : (d_1394.1 h0 2).toInt = (d_1390.1 h0 2).toInt := congrArg Int32.toInt ((yK.ag (F := []) yK.rf (show yAg S [36] d_1390 d_1394 from by rw [ed_1394]; exact yAg.cs yAg.rf (by rw [hky_1391]; decide)) (by rw [hk_h0]; decide)) 2 (by decide))
                                have hE3d_1394 : (d_1394.1 h0 3).toInt = (d_1390.1 h0 3).toInt := congrArg Int32.toInt ((yK.ag (F := []) yK.rf (show yAg S [36] d_1390 d_1394 from by rw [ed_1394]; exact yAg.cs yAg.rf (by rw [hky_1391]; decide)) (by rw [hk_h0]; decide)) 3 (by decide))
                                have hE63d_1394 : (d_1394.1 h0 63).toInt = (d_1390.1 h0 63).toInt := congrArg Int32.toInt ((yK.ag (F := []) yK.rf (show yAg S [36] d_1390 d_1394 from by rw [ed_1394]; exact yAg.cs yAg.rf (by rw [hky_1391]; decide)) (by rw [hk_h0]; decide)) 63 (by decide))
                                refine lv_aload_n hx hb dX9_term_212 rfl (lv_at hl 3 rfl) ?_
                                refine yget (ci := 9) (k := 7) (v := .ref (S.2.2.1 h0 7)) (C := RX9) (T := TX9) (N := 67) C0 hK hP hm_h0 hk_h0 (by decide) rfl inlX9 (by decide) mW111 (fun _ h9 => h9) rfl dX9_term_213 ?_
                                obtain ⟨hmy_1395, hky_1395⟩ := ySh.f9_7 hSh _ hm_h0 hk_h0
                                refine lv_iload hx hb dX9_term_216 (lv_at hl 0 rfl) ?_
                                refine lv_iload hx hb dX9_term_218 (lv_at hl 8 rfl) ?_
                                have hCC_1396 := yMI.c hId_1394
                                refine yast C0 hK hP hD hS hmy_1395 hky_1395 (by decide) rfl 0 rfl (xinT 2400 rfl (by omega) (by omega)) dX9_term_220 (fun H locs hP hD hS => ?_)
                                obtain ⟨d_1397, ed_1397⟩ : ∃ z : yD, z = ycs d_1394 (S.2.2.1 h0 7) (upd (d_1394.2.2.2.1 (S.2.2.1 h0 7)) (z_1359 : Int32).toNatClampNeg p4) := ⟨_, rfl⟩
                                rw [← ed_1397] at hP hD
                                have hgd_1397 : yAg S [9, 34, 35, 36, 37, 38, 39, 40, 69] d d_1397 := by rw [ed_1397]; exact yAg.cs hgd_1394 (by rw [hky_1395]; decide)
                                have hsd_1397 : yAg S [37] d_1394 d_1397 := by rw [ed_1397]; exact yAg.cs yAg.rf (by rw [hky_1395]; decide)
                                have hPod_1397 : yPo S d_1397 := by rw [ed_1397]; exact hPod_1394
                                have hfd_1397 : yK [38] d d_1397 h0 := yK.ag hfd_1394 (show yAg S [37] d_1394 d_1397 from by rw [ed_1397]; exact yAg.cs yAg.rf (by rw [hky_1395]; decide)) (by rw [hk_h0]; decide)
                                have hId_1397 : yMI S d_1397 h0 := yMI.ag hId_1394 hSh hm_h0 hk_h0 (show yAg S [37] d_1394 d_1397 from by rw [ed_1397]; exact yAg.cs yAg.rf (by rw [hky_1395]; decide)) (yK.ag (F := []) yK.rf (show yAg S [37] d_1394 d_1397 from by rw [ed_1397]; exact yAg.cs yAg.rf (by rw [hky_1395]; decide)) (by rw [hk_h0]; decide)) (by decide) (by decide)
                                have hE0d_1397 : (d_1397.1 h0 0).toInt = (d_1394.1 h0 0).toInt := congrArg Int32.toInt ((yK.ag (F := []) yK.rf (show yAg S [37] d_1394 d_1397 from by rw [ed_1397]; exact yAg.cs yAg.rf (by rw [hky_1395]; decide)) (by rw [hk_h0]; decide)) 0 (by decide))
                                have hE1d_1397 : (d_1397.1 h0 1).toInt = (d_1394.1 h0 1).toInt := congrArg Int32.toInt ((yK.ag (F := []) yK.rf (show yAg S [37] d_1394 d_1397 from by rw [ed_1397]; exact yAg.cs yAg.rf (by rw [hky_1395]; decide)) (by rw [hk_h0]; decide)) 1 (by decide))
                                have hE2d_1397 : (d_1397.1 h0 2).toInt = (d_1394.1 h0 2).toInt := congrArg Int32.toInt ((yK.ag (F := []) yK.rf (show yAg S [37] d_1394 d_1397 from by rw [ed_1397]; exact yAg.cs yAg.rf (by rw [hky_1395]; decide)) (by rw [hk_h0]; decide)) 2 (by decide))
                                have hE3d_1397 : (d_1397.1 h0 3).toInt = (d_1394.1 h0 3).toInt := congrArg Int32.toInt ((yK.ag (F := []) yK.rf (show yAg S [37] d_1394 d_1397 from by rw [ed_1397]; exact yAg.cs yAg.rf (by rw [hky_1395]; decide)) (by rw [hk_h0]; decide)) 3 (by decide))
                                have hE63d_1397 : (d_1397.1 h0 63).toInt = (d_1394.1 h0 63).toInt := congrArg Int32.toInt ((yK.ag (F := []) yK.rf (show yAg S [37] d_1394 d_1397 from by rw [ed_1397]; exact yAg.cs yAg.rf (by rw [hky_1395]; decide)) (by rw [hk_h0]; decide)) 63 (by decide))
                                refine lv_aload_n hx hb dX9_term_221 rfl (lv_at hl 3 rfl) ?_
                                refine yget (ci := 9) (k := 8) (v := .ref (S.2.2.1 h0 8)) (C := RX9) (T := TX9) (N := 67) C0 hK hP hm_h0 hk_h0 (by decide) rfl inlX9 (by decide) mW112 (fun _ h9 => h9) rfl dX9_term_222 ?_
                                obtain ⟨hmy_1398, hky_1398⟩ := ySh.f9_8 hSh _ hm_h0 hk_h0
                                refine lv_iload hx hb dX9_term_225 (lv_at hl 0 rfl) ?_
                                refine lv_iload hx hb dX9_term_227 (lv_at hl 9 rfl) ?_
                                have hCC_1399 := yMI.c hId_1397
                                refine yast C0 hK hP hD hS hmy_1398 hky_1398 (by decide) rfl 0 rfl (xinT 2400 rfl (by omega) (by omega)) dX9_term_229 (fun H locs hP hD hS => ?_)
                                obtain ⟨d_1400, ed_1400⟩ : ∃ z : yD, z = ycs d_1397 (S.2.2.1 h0 8) (upd (d_1397.2.2.2.1 (S.2.2.1 h0 8)) (z_1359 : Int32).toNatClampNeg p5) := ⟨_, rfl⟩
                                rw [← ed_1400] at hP hD
                                have hgd_1400 : yAg S [9, 34, 35, 36, 37, 38, 39, 40, 69] d d_1400 := by rw [ed_1400]; exact yAg.cs hgd_1397 (by rw [hky_1398]; decide)
                                have hsd_1400 : yAg S [38] d_1397 d_1400 := by rw [ed_1400]; exact yAg.cs yAg.rf (by rw [hky_1398]; decide)
                                have hPod_1400 : yPo S d_1400 := by rw [ed_1400]; exact hPod_1397
                                have hfd_1400 : yK [38] d d_1400 h0 := yK.ag hfd_1397 (show yAg S [38] d_1397 d_1400 from by rw [ed_1400]; exact yAg.cs yAg.rf (by rw [hky_1398]; decide)) (by rw [hk_h0]; decide)
                                have hId_1400 : yMI S d_1400 h0 := yMI.ag hId_1397 hSh hm_h0 hk_h0 (show yAg S [38] d_1397 d_1400 from by rw [ed_1400]; exact yAg.cs yAg.rf (by rw [hky_1398]; decide)) (yK.ag (F := []) yK.rf (show yAg S [38] d_1397 d_1400 from by rw [ed_1400]; exact yAg.cs yAg.rf (by rw [hky_1398]; decide)) (by rw [hk_h0]; decide)) (by decide) (by decide)
                                have hE0d_1400 : (d_1400.1 h0 0).toInt = (d_1397.1 h0 0).toInt := congrArg Int32.toInt ((yK.ag (F := []) yK.rf (show yAg S [38] d_1397 d_1400 from by rw [ed_1400]; exact yAg.cs yAg.rf (by rw [hky_1398]; decide)) (by rw [hk_h0]; decide)) 0 (by decide))
                                have hE1d_1400 : (d_1400.1 h0 1).toInt = (d_1397.1 h0 1).toInt := congrArg Int32.toInt ((yK.ag (F := []) yK.rf (show yAg S [38] d_1397 d_1400 from by rw [ed_1400]; exact yAg.cs yAg.rf (by rw [hky_1398]; decide)) (by rw [hk_h0]; decide)) 1 (by decide))
                                have hE2d_1400 : (d_1400.1 h0 2).toInt = (d_1397.1 h0 2).toInt := congrArg Int32.toInt ((yK.ag (F := []) yK.rf (show yAg S [38] d_1397 d_1400 from by rw [ed_1400]; exact yAg.cs yAg.rf (by rw [hky_1398]; decide)) (by rw [hk_h0]; decide)) 2 (by decide))
                                have hE3d_1400 : (d_1400.1 h0 3).toInt = (d_1397.1 h0 3).toInt := congrArg Int32.toInt ((yK.ag (F := []) yK.rf (show yAg S [38] d_1397 d_1400 from by rw [ed_1400]; exact yAg.cs yAg.rf (by rw [hky_1398]; decide)) (by rw [hk_h0]; decide)) 3 (by decide))
                                have hE63d_1400 : (d_1400.1 h0 63).toInt = (d_1397.1 h0 63).toInt := congrArg Int32.toInt ((yK.ag (F := []) yK.rf (show yAg S [38] d_1397 d_1400 from by rw [ed_1400]; exact yAg.cs yAg.rf (by rw [hky_1398]; decide)) (by rw [hk_h0]; decide)) 63 (by decide))
                                refine lv_aload_n hx hb dX9_term_230 rfl (lv_at hl 3 rfl) ?_
                                refine yget (ci := 9) (k := 9) (v := .ref (S.2.2.1 h0 9)) (C := RX9) (T := TX9) (N := 67) C0 hK hP hm_h0 hk_h0 (by decide) rfl inlX9 (by decide) mW113 (fun _ h9 => h9) rfl dX9_term_231 ?_
                                obtain ⟨hmy_1401, hky_1401⟩ := ySh.f9_9 hSh _ hm_h0 hk_h0
                                refine lv_iload hx hb dX9_term_234 (lv_at hl 0 rfl) ?_
                                refine lv_iconst (v := 0) hx hb dX9_term_236 (by decide) ?_
                                have hCC_1402 := yMI.c hId_1400
                                refine yastB C0 hK hP hD hS hmy_1401 hky_1401 (by decide) rfl 1 rfl (xinT 2400 rfl (by omega) (by omega)) dX9_term_237 (fun H locs hP hD hS => ?_)
                                obtain ⟨d_1403, ed_1403⟩ : ∃ z : yD, z = ycs d_1400 (S.2.2.1 h0 9) (upd (d_1400.2.2.2.1 (S.2.2.1 h0 9)) (z_1359 : Int32).toNatClampNeg (vp_nar .byte 0)) := ⟨_, rfl⟩
                                rw [← ed_1403] at hP hD
                                have hgd_1403 : yAg S [9, 34, 35, 36, 37, 38, 39, 40, 69] d d_1403 := by rw [ed_1403]; exact yAg.cs hgd_1400 (by rw [hky_1401]; decide)
                                have hsd_1403 : yAg S [39] d_1400 d_1403 := by rw [ed_1403]; exact yAg.cs yAg.rf (by rw [hky_1401]; decide)
                                have hPod_1403 : yPo S d_1403 := by rw [ed_1403]; exact hPod_1400
                                have hfd_1403 : yK [38] d d_1403 h0 := yK.ag hfd_1400 (show yAg S [39] d_1400 d_1403 from by rw [ed_1403]; exact yAg.cs yAg.rf (by rw [hky_1401]; decide)) (by rw [hk_h0]; decide)
                                have hId_1403 : yMI S d_1403 h0 := yMI.ag hId_1400 hSh hm_h0 hk_h0 (show yAg S [39] d_1400 d_1403 from by rw [ed_1403]; exact yAg.cs yAg.rf (by rw [hky_1401]; decide)) (yK.ag (F := []) yK.rf (show yAg S [39] d_1400 d_1403 from by rw [ed_1403]; exact yAg.cs yAg.rf (by rw [hky_1401]; decide)) (by rw [hk_h0]; decide)) (by decide) (by decide)
                                have hE0d_1403 : (d_1403.1 h0 0).toInt = (d_1400.1 h0 0).toInt := congrArg Int32.toInt ((yK.ag (F := []) yK.rf (show yAg S [39] d_1400 d_1403 from by rw [ed_1403]; exact yAg.cs yAg.rf (by rw [hky_1401]; decide)) (by rw [hk_h0]; decide)) 0 (by decide))
                                have hE1d_1403 : (d_1403.1 h0 1).toInt = (d_1400.1 h0 1).toInt := congrArg Int32.toInt ((yK.ag (F := []) yK.rf (show yAg S [39] d_1400 d_1403 from by rw [ed_1403]; exact yAg.cs yAg.rf (by rw [hky_1401]; decide)) (by rw [hk_h0]; decide)) 1 (by decide))
                                have hE2d_1403 : (d_1403.1 h0 2).toInt = (d_1400.1 h0 2).toInt := congrArg Int32.toInt ((yK.ag (F := []) yK.rf (show yAg S [39] d_1400 d_1403 from by rw [ed_1403]; exact yAg.cs yAg.rf (by rw [hky_1401]; decide)) (by rw [hk_h0]; decide)) 2 (by decide))
                                have hE3d_1403 : (d_1403.1 h0 3).toInt = (d_1400.1 h0 3).toInt := congrArg Int32.toInt ((yK.ag (F := []) yK.rf (show yAg S [39] d_1400 d_1403 from by rw [ed_1403]; exact yAg.cs yAg.rf (by rw [hky_1401]; decide)) (by rw [hk_h0]; decide)) 3 (by decide))
                                have hE63d_1403 : (d_1403.1 h0 63).toInt = (d_1400.1 h0 63).toInt := congrArg Int32.toInt ((yK.ag (F := []) yK.rf (show yAg S [39] d_1400 d_1403 from by rw [ed_1403]; exact yAg.cs yAg.rf (by rw [hky_1401]; decide)) (by rw [hk_h0]; decide)) 63 (by decide))
                                refine lv_aload_n hx hb dX9_term_238 rfl (lv_at hl 3 rfl) ?_
                                refine yget (ci := 9) (k := 10) (v := .ref (S.2.2.1 h0 10)) (C := RX9) (T := TX9) (N := 67) C0 hK hP hm_h0 hk_h0 (by decide) rfl inlX9 (by decide) mW114 (fun _ h9 => h9) rfl dX9_term_239 ?_
                                obtain ⟨hmy_1404, hky_1404⟩ := ySh.f9_10 hSh _ hm_h0 hk_h0
                                refine lv_iload hx hb dX9_term_242 (lv_at hl 0 rfl) ?_
                                refine lv_iconst (v := 0) hx hb dX9_term_244 (by decide) ?_
                                have hCC_1405 := yMI.c hId_1403
                                refine yast C0 hK hP hD hS hmy_1404 hky_1404 (by decide) rfl 0 rfl (xinT 2400 rfl (by omega) (by omega)) dX9_term_245 (fun H locs hP hD hS => ?_)
                                obtain ⟨d_1406, ed_1406⟩ : ∃ z : yD, z = ycs d_1403 (S.2.2.1 h0 10) (upd (d_1403.2.2.2.1 (S.2.2.1 h0 10)) (z_1359 : Int32).toNatClampNeg 0) := ⟨_, rfl⟩
                                rw [← ed_1406] at hP hD
                                have hgd_1406 : yAg S [9, 34, 35, 36, 37, 38, 39, 40, 69] d d_1406 := by rw [ed_1406]; exact yAg.cs hgd_1403 (by rw [hky_1404]; decide)
                                have hsd_1406 : yAg S [40] d_1403 d_1406 := by rw [ed_1406]; exact yAg.cs yAg.rf (by rw [hky_1404]; decide)
                                have hPod_1406 : yPo S d_1406 := by rw [ed_1406]; exact hPod_1403
                                have hfd_1406 : yK [38] d d_1406 h0 := yK.ag hfd_1403 (show yAg S [40] d_1403 d_1406 from by rw [ed_1406]; exact yAg.cs yAg.rf (by rw [hky_1404]; decide)) (by rw [hk_h0]; decide)
                                have hId_1406 : yMI S d_1406 h0 := yMI.ag hId_1403 hSh hm_h0 hk_h0 (show yAg S [40] d_1403 d_1406 from by rw [ed_1406]; exact yAg.cs yAg.rf (by rw [hky_1404]; decide)) (yK.ag (F := []) yK.rf (show yAg S [40] d_1403 d_1406 from by rw [ed_1406]; exact yAg.cs yAg.rf (by rw [hky_1404]; decide)) (by rw [hk_h0]; decide)) (by decide) (by decide)
                                have hE0d_1406 : (d_1406.1 h0 0).toInt = (d_1403.1 h0 0).toInt := congrArg Int32.toInt ((yK.ag (F := []) yK.rf (show yAg S [40] d_1403 d_1406 from by rw [ed_1406]; exact yAg.cs yAg.rf (by rw [hky_1404]; decide)) (by rw [hk_h0]; decide)) 0 (by decide))
                                have hE1d_1406 : (d_1406.1 h0 1).toInt = (d_1403.1 h0 1).toInt := congrArg Int32.toInt ((yK.ag (F := []) yK.rf (show yAg S [40] d_1403 d_1406 from by rw [ed_1406]; exact yAg.cs yAg.rf (by rw [hky_1404]; decide)) (by rw [hk_h0]; decide)) 1 (by decide))
                                have hE2d_1406 : (d_1406.1 h0 2).toInt = (d_1403.1 h0 2).toInt := congrArg Int32.toInt ((yK.ag (F := []) yK.rf (show yAg S [40] d_1403 d_1406 from by rw [ed_1406]; exact yAg.cs yAg.rf (by rw [hky_1404]; decide)) (by rw [hk_h0]; decide)) 2 (by decide))
                                have hE3d_1406 : (d_1406.1 h0 3).toInt = (d_1403.1 h0 3).toInt := congrArg Int32.toInt ((yK.ag (F := []) yK.rf (show yAg S [40] d_1403 d_1406 from by rw [ed_1406]; exact yAg.cs yAg.rf (by rw [hky_1404]; decide)) (by rw [hk_h0]; decide)) 3 (by decide))
                                have hE63d_1406 : (d_1406.1 h0 63).toInt = (d_1403.1 h0 63).toInt := congrArg Int32.toInt ((yK.ag (F := []) yK.rf (show yAg S [40] d_1403 d_1406 from by rw [ed_1406]; exact yAg.cs yAg.rf (by rw [hky_1404]; decide)) (by rw [hk_h0]; decide)) 63 (by decide))
                                refine lv_iconst (v := 1) hx hb dX9_term_246 (by decide) ?_
                                have hCC_1407 := yMI.c hId_1406
                                rw [ez_1388] at ed_1390
                                rw [ez_1392] at ed_1394
                                exact W.zret (v := 1) (ty := .boolean) hx hb hr rfl (fun t ht hW => ⟨⟨1, d_1406, rfl, ⟨hgd_1406, (fun _ => hPod_1406), hfd_1406, ⟨hId_1406, Or.inr ⟨by have h0_ : (1 : Int32).toInt = 1 := (by decide +kernel); omega, by omega, (zRow7 (zTr.ag zTr.rf hSh hm_h0 hk_h0 hsd_1 (by decide)) hSh hm_h0 hk_h0 (show (z_1359 : Int32).toNatClampNeg = (60 * p0.toInt.toNat + p1.toInt.toNat) from (show (z_1359 : Int32).toInt.toNat = _ by omega)) (show (z_1359 : Int32).toNatClampNeg = (60 * p0.toInt.toNat + p1.toInt.toNat) from (show (z_1359 : Int32).toInt.toNat = _ by omega)) (show (z_1359 : Int32).toNatClampNeg = (60 * p0.toInt.toNat + p1.toInt.toNat) from (show (z_1359 : Int32).toInt.toNat = _ by omega)) (show (z_1359 : Int32).toNatClampNeg = (60 * p0.toInt.toNat + p1.toInt.toNat) from (show (z_1359 : Int32).toInt.toNat = _ by omega)) (show (z_1359 : Int32).toNatClampNeg = (60 * p0.toInt.toNat + p1.toInt.toNat) from (show (z_1359 : Int32).toInt.toNat = _ by omega)) (show (z_1359 : Int32).toNatClampNeg = (60 * p0.toInt.toNat + p1.toInt.toNat) from (show (z_1359 : Int32).toInt.toNat = _ by omega)) (show (z_1359 : Int32).toNatClampNeg = (60 * p0.toInt.toNat + p1.toInt.toNat) from (show (z_1359 : Int32).toInt.toNat = _ by omega)) ed_1386 ed_1390 ed_1394 ed_1397 ed_1400 ed_1403 ed_1406)⟩⟩⟩, by rw [ht]; exact hP, hD⟩, hS.F ht⟩) hS.2.2 dX9_term_247
                              · refine lv_aload_n hx hb dX9_term_168 rfl (lv_at hl 2 rfl) ?_
                                refine lv_iload hx hb dX9_term_169 (lv_at hl 1 rfl) ?_
                                have F_1408 := fnlt (rfl : (p2 : Int32).toInt = (p2 : Int32).toInt) (by decide +kernel : (0 : Int32).toInt = 0) c_3
                                have F_1409 := fnlt (by decide +kernel : (4 : Int32).toInt = 4) (rfl : (p2 : Int32).toInt = (p2 : Int32).toInt) c_118
                                have F_1410 := fnlt (rfl : (p3 : Int32).toInt = (p3 : Int32).toInt) (by decide +kernel : (0 : Int32).toInt = 0) c_241
                                have F_1411 := fle (rfl : (p3 : Int32).toInt = (p3 : Int32).toInt) (by decide +kernel : (4 : Int32).toInt = 4) c_372
                                have F_1412 := feq (rfl : (p3 : Int32).toInt = (p3 : Int32).toInt) (by decide +kernel : (1 : Int32).toInt = 1) c_373
                                have F_1413 := feq (by decide +kernel : (0 : Int32).toInt = 0) (by decide +kernel : (0 : Int32).toInt = 0) c_831
                                have F_1414 := fnlt (rfl : (p4 : Int32).toInt = (p4 : Int32).toInt) (by decide +kernel : (0 : Int32).toInt = 0) c_832
                                have F_1415 := fnlt (by decide +kernel : (1440 : Int32).toInt = 1440) (rfl : (p4 : Int32).toInt = (p4 : Int32).toInt) c_907
                                have F_1416 := fnlt (rfl : (p5 : Int32).toInt = (p5 : Int32).toInt) (by decide +kernel : (0 : Int32).toInt = 0) c_986
                                have F_1417 := fle (rfl : (p5 : Int32).toInt = (p5 : Int32).toInt) (by decide +kernel : (1440 : Int32).toInt = 1440) c_1069
                                have F_1418 := feq (rfl : (p3 : Int32).toInt = (p3 : Int32).toInt) (by decide +kernel : (3 : Int32).toInt = 3) c_1070
                                have F_1419 := feq (by decide +kernel : (0 : Int32).toInt = 0) (by decide +kernel : (0 : Int32).toInt = 0) c_1255
                                have F_1420 := fnlt (rfl : (p4 : Int32).toInt = (p4 : Int32).toInt) (by decide +kernel : (0 : Int32).toInt = 0) c_1256
                                have F_1421 := fle (rfl : (p4 : Int32).toInt = (p4 : Int32).toInt) (by decide +kernel : (4 : Int32).toInt = 4) c_1257
                                have F_1422 := feq (rfl : (p3 : Int32).toInt = (p3 : Int32).toInt) (by decide +kernel : (4 : Int32).toInt = 4) c_1258
                                have F_1423 := feq (by decide +kernel : (0 : Int32).toInt = 0) (by decide +kernel : (0 : Int32).toInt = 0) c_1326
                                have F_1424 := fnlt (rfl : (p4 : Int32).toInt = (p4 : Int32).toInt) (by decide +kernel : (0 : Int32).toInt = 0) c_1327
                                have F_1425 := fnlt (by decide +kernel : (129600 : Int32).toInt = 129600) (rfl : (p4 : Int32).toInt = (p4 : Int32).toInt) c_1328
                                have F_1426 := fnlt (rfl : (p5 : Int32).toInt = (p5 : Int32).toInt) (by decide +kernel : (0 : Int32).toInt = 0) c_1354
                                have F_1427 := fle (rfl : (p5 : Int32).toInt = (p5 : Int32).toInt) (by decide +kernel : (129600 : Int32).toInt = 129600) c_1355
                                have F_1428 := feq (by decide +kernel : (0 : Int32).toInt = 0) (by decide +kernel : (0 : Int32).toInt = 0) c_1356
                                have F_1429 := fne (rfl : (r_2 : Int32).toInt = (r_2 : Int32).toInt) (by decide +kernel : (0 : Int32).toInt = 0) c_1357
                                refine yVwi (As := [.int r_2]) (rest := []) C0 (g_X9_no l G S d_1 h0 r_2 hSh hPod_1 hm_h0 hk_h0 (by refine ⟨?_, ?_⟩ <;> omega)) ok_X9_no (mW177 : Cond.methodLink RX9 168 yX9_no ∈ wsT) ⟨Nat.le_of_ble_eq_true rfl, Nat.le_of_ble_eq_true rfl⟩ hP hD hS hA hK hN hm_h0 hk_h0 (by decide) rfl rfl rfl hl.1 rfl (Nat.le_of_ble_eq_true rfl) ⟨Nat.le_of_ble_eq_true rfl, Nat.le_of_ble_eq_true rfl⟩ dX9_term_171 (fun r_1430 d_1431 H locs hr_1430 hP hD hS => ?_)
                                obtain ⟨hgad_1431, hpad_1431, hfad_1431, hxd_1431⟩ := hr_1430
                                have hfd_1431 : yK [38] d d_1431 h0 := yK.tr hfd_1 hfad_1431 (by decide)
                                have hE0d_1431 : (d_1431.1 h0 0).toInt = (d_1.1 h0 0).toInt := congrArg Int32.toInt (hfad_1431 0 (by decide))
                                have hE1d_1431 : (d_1431.1 h0 1).toInt = (d_1.1 h0 1).toInt := congrArg Int32.toInt (hfad_1431 1 (by decide))
                                have hE2d_1431 : (d_1431.1 h0 2).toInt = (d_1.1 h0 2).toInt := congrArg Int32.toInt (hfad_1431 2 (by decide))
                                have hE3d_1431 : (d_1431.1 h0 3).toInt = (d_1.1 h0 3).toInt := congrArg Int32.toInt (hfad_1431 3 (by decide))
                                have hE63d_1431 : (d_1431.1 h0 63).toInt = (d_1.1 h0 63).toInt := congrArg Int32.toInt (hfad_1431 63 (by decide))
                                have hId_1431 : yMI S d_1431 h0 := yMI.ag hId_1 hSh hm_h0 hk_h0 hgad_1431 hfad_1431 (by decide) (by decide)
                                have hgd_1431 : yAg S [9, 34, 35, 36, 37, 38, 39, 40, 69] d d_1431 := yAg.tr hgd_1 hgad_1431 (by first | decide | exact fun _ h => h)
                                have hPod_1431 : yPo S d_1431 := hpad_1431 hPod_1
                                refine lv_pop hx hb dX9_term_174 rfl ?_
                                refine lv_iconst (v := 0) hx hb dX9_term_175 (by decide) ?_
                                have hCC_1432 := yMI.c hId_1431
                                exact W.zret (v := 0) (ty := .boolean) hx hb hr rfl (fun t ht hW => ⟨⟨0, d_1431, rfl, ⟨hgd_1431, (fun _ => hPod_1431), hfd_1431, ⟨hId_1431, Or.inl ⟨by have h0_ : (0 : Int32).toInt = 0 := (by decide +kernel); omega, by omega, (zTr.ag (zTr.ag zTr.rf hSh hm_h0 hk_h0 hsd_1 (by decide)) hSh hm_h0 hk_h0 hgad_1431 (by decide))⟩⟩⟩, by rw [ht]; exact hP, hD⟩, hS.F ht⟩) hS.2.2 dX9_term_176
                            · refine lv_iconst (v := 1) hx hb dX9_term_148 (by decide) ?_
                              refine lv_goto (tgt := 153) hx hb dX9_term_149 (by decide) ?_
                              refine lv_istore (lv' := [(8, .int 1), (7, .int r_2), (0, .ref h0), (1, .int p0), (2, .int p1), (3, .int p2), (4, .int p3), (5, .int p4), (6, .int p5)]) hx hb dX9_term_153 hl (by decide) rfl (fun ls hl => ?_)
                              refine lv_iload hx hb dX9_term_155 (lv_at hl 0 rfl) ?_
                              refine lv_if_eq (tgt := 163) hx hb dX9_term_157 (by decide) (fun c_1433 => absurd c_1433 (by decide +kernel)) (fun c_1433 => ?_)
                              refine lv_iconst (v := 1) hx hb dX9_term_160 (by decide) ?_
                              refine lv_istore (lv' := [(7, .int 1), (8, .int 1), (0, .ref h0), (1, .int p0), (2, .int p1), (3, .int p2), (4, .int p3), (5, .int p4), (6, .int p5)]) hx hb dX9_term_161 hl (by decide) rfl (fun ls hl => ?_)
                              refine lv_iload hx hb dX9_term_163 (lv_at hl 0 rfl) ?_
                              refine lv_if_eq (tgt := 177) hx hb dX9_term_165 (by decide) (fun c_1434 => absurd c_1434 (by decide +kernel)) (fun c_1434 => ?_)
                              refine lv_aload_n hx hb dX9_term_168 rfl (lv_at hl 2 rfl) ?_
                              refine lv_iload hx hb dX9_term_169 (lv_at hl 0 rfl) ?_
                              refine yVwi (As := [.int 1]) (rest := []) C0 (g_X9_no l G S d_1 h0 1 hSh hPod_1 hm_h0 hk_h0 (by decide +kernel)) ok_X9_no (mW177 : Cond.methodLink RX9 168 yX9_no ∈ wsT) ⟨Nat.le_of_ble_eq_true rfl, Nat.le_of_ble_eq_true rfl⟩ hP hD hS hA hK hN hm_h0 hk_h0 (by decide) rfl rfl rfl hl.1 rfl (Nat.le_of_ble_eq_true rfl) ⟨Nat.le_of_ble_eq_true rfl, Nat.le_of_ble_eq_true rfl⟩ dX9_term_171 (fun r_1435 d_1436 H locs hr_1435 hP hD hS => ?_)
                              obtain ⟨hgad_1436, hpad_1436, hfad_1436, hxd_1436⟩ := hr_1435
                              have hfd_1436 : yK [38] d d_1436 h0 := yK.tr hfd_1 hfad_1436 (by decide)
                              have hE0d_1436 : (d_1436.1 h0 0).toInt = (d_1.1 h0 0).toInt := congrArg Int32.toInt (hfad_1436 0 (by decide))
                              have hE1d_1436 : (d_1436.1 h0 1).toInt = (d_1.1 h0 1).toInt := congrArg Int32.toInt (hfad_1436 1 (by decide))
                              have hE2d_1436 : (d_1436.1 h0 2).toInt = (d_1.1 h0 2).toInt := congrArg Int32.toInt (hfad_1436 2 (by decide))
                              have hE3d_1436 : (d_1436.1 h0 3).toInt = (d_1.1 h0 3).toInt := congrArg Int32.toInt (hfad_1436 3 (by decide))
                              have hE63d_1436 : (d_1436.1 h0 63).toInt = (d_1.1 h0 63).toInt := congrArg Int32.toInt (hfad_1436 63 (by decide))
                              have hId_1436 : yMI S d_1436 h0 := yMI.ag hId_1 hSh hm_h0 hk_h0 hgad_1436 hfad_1436 (by decide) (by decide)
                              have hgd_1436 : yAg S [9, 34, 35, 36, 37, 38, 39, 40, 69] d d_1436 := yAg.tr hgd_1 hgad_1436 (by first | decide | exact fun _ h => h)
                              have hPod_1436 : yPo S d_1436 := hpad_1436 hPod_1
                              refine lv_pop hx hb dX9_term_174 rfl ?_
                              refine lv_iconst (v := 0) hx hb dX9_term_175 (by decide) ?_
                              have hCC_1437 := yMI.c hId_1436
                              have F_1438 := fnlt (rfl : (p2 : Int32).toInt = (p2 : Int32).toInt) (by decide +kernel : (0 : Int32).toInt = 0) c_3
                              have F_1439 := fnlt (by decide +kernel : (4 : Int32).toInt = 4) (rfl : (p2 : Int32).toInt = (p2 : Int32).toInt) c_118
                              have F_1440 := fnlt (rfl : (p3 : Int32).toInt = (p3 : Int32).toInt) (by decide +kernel : (0 : Int32).toInt = 0) c_241
                              have F_1441 := fle (rfl : (p3 : Int32).toInt = (p3 : Int32).toInt) (by decide +kernel : (4 : Int32).toInt = 4) c_372
                              have F_1442 := feq (rfl : (p3 : Int32).toInt = (p3 : Int32).toInt) (by decide +kernel : (1 : Int32).toInt = 1) c_373
                              have F_1443 := feq (by decide +kernel : (0 : Int32).toInt = 0) (by decide +kernel : (0 : Int32).toInt = 0) c_831
                              have F_1444 := fnlt (rfl : (p4 : Int32).toInt = (p4 : Int32).toInt) (by decide +kernel : (0 : Int32).toInt = 0) c_832
                              have F_1445 := fnlt (by decide +kernel : (1440 : Int32).toInt = 1440) (rfl : (p4 : Int32).toInt = (p4 : Int32).toInt) c_907
                              have F_1446 := fnlt (rfl : (p5 : Int32).toInt = (p5 : Int32).toInt) (by decide +kernel : (0 : Int32).toInt = 0) c_986
                              have F_1447 := fle (rfl : (p5 : Int32).toInt = (p5 : Int32).toInt) (by decide +kernel : (1440 : Int32).toInt = 1440) c_1069
                              have F_1448 := feq (rfl : (p3 : Int32).toInt = (p3 : Int32).toInt) (by decide +kernel : (3 : Int32).toInt = 3) c_1070
                              have F_1449 := feq (by decide +kernel : (0 : Int32).toInt = 0) (by decide +kernel : (0 : Int32).toInt = 0) c_1255
                              have F_1450 := fnlt (rfl : (p4 : Int32).toInt = (p4 : Int32).toInt) (by decide +kernel : (0 : Int32).toInt = 0) c_1256
                              have F_1451 := fle (rfl : (p4 : Int32).toInt = (p4 : Int32).toInt) (by decide +kernel : (4 : Int32).toInt = 4) c_1257
                              have F_1452 := feq (rfl : (p3 : Int32).toInt = (p3 : Int32).toInt) (by decide +kernel : (4 : Int32).toInt = 4) c_1258
                              have F_1453 := feq (by decide +kernel : (0 : Int32).toInt = 0) (by decide +kernel : (0 : Int32).toInt = 0) c_1326
                              have F_1454 := fnlt (rfl : (p4 : Int32).toInt = (p4 : Int32).toInt) (by decide +kernel : (0 : Int32).toInt = 0) c_1327
                              have F_1455 := fnlt (by decide +kernel : (129600 : Int32).toInt = 129600) (rfl : (p4 : Int32).toInt = (p4 : Int32).toInt) c_1328
                              have F_1456 := fnlt (rfl : (p5 : Int32).toInt = (p5 : Int32).toInt) (by decide +kernel : (0 : Int32).toInt = 0) c_1354
                              have F_1457 := fnle (rfl : (p5 : Int32).toInt = (p5 : Int32).toInt) (by decide +kernel : (129600 : Int32).toInt = 129600) c_1355
                              have F_1458 := fne (by decide +kernel : (1 : Int32).toInt = 1) (by decide +kernel : (0 : Int32).toInt = 0) c_1433
                              have F_1459 := fne (by decide +kernel : (1 : Int32).toInt = 1) (by decide +kernel : (0 : Int32).toInt = 0) c_1434
                              exact W.zret (v := 0) (ty := .boolean) hx hb hr rfl (fun t ht hW => ⟨⟨0, d_1436, rfl, ⟨hgd_1436, (fun _ => hPod_1436), hfd_1436, ⟨hId_1436, Or.inl ⟨by have h0_ : (0 : Int32).toInt = 0 := (by decide +kernel); omega, by omega, (zTr.ag (zTr.ag zTr.rf hSh hm_h0 hk_h0 hsd_1 (by decide)) hSh hm_h0 hk_h0 hgad_1436 (by decide))⟩⟩⟩, by rw [ht]; exact hP, hD⟩, hS.F ht⟩) hS.2.2 dX9_term_176
                      · refine lv_iconst (v := 1) hx hb dX9_term_106 (by decide) ?_
                        refine lv_goto (tgt := 111) hx hb dX9_term_107 (by decide) ?_
                        refine lv_istore (lv' := [(8, .int 1), (7, .int r_2), (0, .ref h0), (1, .int p0), (2, .int p1), (3, .int p2), (4, .int p3), (5, .int p4), (6, .int p5)]) hx hb dX9_term_111 hl (by decide) rfl (fun ls hl => ?_)
                        refine lv_iload hx hb dX9_term_113 (lv_at hl 6 rfl) ?_
                        refine lv_iconst (v := 4) hx hb dX9_term_115 (by decide) ?_
                        refine lv_icmp_ne (tgt := 155) hx hb dX9_term_116 (by decide) (fun c_1460 => ?_) (fun c_1460 => ?_)
                        · refine lv_iload hx hb dX9_term_155 (lv_at hl 0 rfl) ?_
                          refine lv_if_eq (tgt := 163) hx hb dX9_term_157 (by decide) (fun c_1461 => absurd c_1461 (by decide +kernel)) (fun c_1461 => ?_)
                          refine lv_iconst (v := 1) hx hb dX9_term_160 (by decide) ?_
                          refine lv_istore (lv' := [(7, .int 1), (8, .int 1), (0, .ref h0), (1, .int p0), (2, .int p1), (3, .int p2), (4, .int p3), (5, .int p4), (6, .int p5)]) hx hb dX9_term_161 hl (by decide) rfl (fun ls hl => ?_)
                          refine lv_iload hx hb dX9_term_163 (lv_at hl 0 rfl) ?_
                          refine lv_if_eq (tgt := 177) hx hb dX9_term_165 (by decide) (fun c_1462 => absurd c_1462 (by decide +kernel)) (fun c_1462 => ?_)
                          refine lv_aload_n hx hb dX9_term_168 rfl (lv_at hl 2 rfl) ?_
                          refine lv_iload hx hb dX9_term_169 (lv_at hl 0 rfl) ?_
                          refine yVwi (As := [.int 1]) (rest := []) C0 (g_X9_no l G S d_1 h0 1 hSh hPod_1 hm_h0 hk_h0 (by decide +kernel)) ok_X9_no (mW177 : Cond.methodLink RX9 168 yX9_no ∈ wsT) ⟨Nat.le_of_ble_eq_true rfl, Nat.le_of_ble_eq_true rfl⟩ hP hD hS hA hK hN hm_h0 hk_h0 (by decide) rfl rfl rfl hl.1 rfl (Nat.le_of_ble_eq_true rfl) ⟨Nat.le_of_ble_eq_true rfl, Nat.le_of_ble_eq_true rfl⟩ dX9_term_171 (fun r_1463 d_1464 H locs hr_1463 hP hD hS => ?_)
                          obtain ⟨hgad_1464, hpad_1464, hfad_1464, hxd_1464⟩ := hr_1463
                          have hfd_1464 : yK [38] d d_1464 h0 := yK.tr hfd_1 hfad_1464 (by decide)
                          have hE0d_1464 : (d_1464.1 h0 0).toInt = (d_1.1 h0 0).toInt := congrArg Int32.toInt (hfad_1464 0 (by decide))
                          have hE1d_1464 : (d_1464.1 h0 1).toInt = (d_1.1 h0 1).toInt := congrArg Int32.toInt (hfad_1464 1 (by decide))
                          have hE2d_1464 : (d_1464.1 h0 2).toInt = (d_1.1 h0 2).toInt := congrArg Int32.toInt (hfad_1464 2 (by decide))
                          have hE3d_1464 : (d_1464.1 h0 3).toInt = (d_1.1 h0 3).toInt := congrArg Int32.toInt (hfad_1464 3 (by decide))
                          have hE63d_1464 : (d_1464.1 h0 63).toInt = (d_1.1 h0 63).toInt := congrArg Int32.toInt (hfad_1464 63 (by decide))
                          have hId_1464 : yMI S d_1464 h0 := yMI.ag hId_1 hSh hm_h0 hk_h0 hgad_1464 hfad_1464 (by decide) (by decide)
                          have hgd_1464 : yAg S [9, 34, 35, 36, 37, 38, 39, 40, 69] d d_1464 := yAg.tr hgd_1 hgad_1464 (by first | decide | exact fun _ h => h)
                          have hPod_1464 : yPo S d_1464 := hpad_1464 hPod_1
                          refine lv_pop hx hb dX9_term_174 rfl ?_
                          refine lv_iconst (v := 0) hx hb dX9_term_175 (by decide) ?_
                          have hCC_1465 := yMI.c hId_1464
                          have F_1466 := fnlt (rfl : (p2 : Int32).toInt = (p2 : Int32).toInt) (by decide +kernel : (0 : Int32).toInt = 0) c_3
                          have F_1467 := fnlt (by decide +kernel : (4 : Int32).toInt = 4) (rfl : (p2 : Int32).toInt = (p2 : Int32).toInt) c_118
                          have F_1468 := fnlt (rfl : (p3 : Int32).toInt = (p3 : Int32).toInt) (by decide +kernel : (0 : Int32).toInt = 0) c_241
                          have F_1469 := fle (rfl : (p3 : Int32).toInt = (p3 : Int32).toInt) (by decide +kernel : (4 : Int32).toInt = 4) c_372
                          have F_1470 := feq (rfl : (p3 : Int32).toInt = (p3 : Int32).toInt) (by decide +kernel : (1 : Int32).toInt = 1) c_373
                          have F_1471 := feq (by decide +kernel : (0 : Int32).toInt = 0) (by decide +kernel : (0 : Int32).toInt = 0) c_831
                          have F_1472 := fnlt (rfl : (p4 : Int32).toInt = (p4 : Int32).toInt) (by decide +kernel : (0 : Int32).toInt = 0) c_832
                          have F_1473 := fnlt (by decide +kernel : (1440 : Int32).toInt = 1440) (rfl : (p4 : Int32).toInt = (p4 : Int32).toInt) c_907
                          have F_1474 := fnlt (rfl : (p5 : Int32).toInt = (p5 : Int32).toInt) (by decide +kernel : (0 : Int32).toInt = 0) c_986
                          have F_1475 := fle (rfl : (p5 : Int32).toInt = (p5 : Int32).toInt) (by decide +kernel : (1440 : Int32).toInt = 1440) c_1069
                          have F_1476 := feq (rfl : (p3 : Int32).toInt = (p3 : Int32).toInt) (by decide +kernel : (3 : Int32).toInt = 3) c_1070
                          have F_1477 := feq (by decide +kernel : (0 : Int32).toInt = 0) (by decide +kernel : (0 : Int32).toInt = 0) c_1255
                          have F_1478 := fnlt (rfl : (p4 : Int32).toInt = (p4 : Int32).toInt) (by decide +kernel : (0 : Int32).toInt = 0) c_1256
                          have F_1479 := fnle (rfl : (p4 : Int32).toInt = (p4 : Int32).toInt) (by decide +kernel : (4 : Int32).toInt = 4) c_1257
                          have F_1480 := fne (rfl : (p3 : Int32).toInt = (p3 : Int32).toInt) (by decide +kernel : (4 : Int32).toInt = 4) c_1460
                          have F_1481 := fne (by decide +kernel : (1 : Int32).toInt = 1) (by decide +kernel : (0 : Int32).toInt = 0) c_1461
                          have F_1482 := fne (by decide +kernel : (1 : Int32).toInt = 1) (by decide +kernel : (0 : Int32).toInt = 0) c_1462
                          exact W.zret (v := 0) (ty := .boolean) hx hb hr rfl (fun t ht hW => ⟨⟨0, d_1464, rfl, ⟨hgd_1464, (fun _ => hPod_1464), hfd_1464, ⟨hId_1464, Or.inl ⟨by have h0_ : (0 : Int32).toInt = 0 := (by decide +kernel); omega, by omega, (zTr.ag (zTr.ag zTr.rf hSh hm_h0 hk_h0 hsd_1 (by decide)) hSh hm_h0 hk_h0 hgad_1464 (by decide))⟩⟩⟩, by rw [ht]; exact hP, hD⟩, hS.F ht⟩) hS.2.2 dX9_term_176
                        · refine lv_iload hx hb dX9_term_119 (lv_at hl 0 rfl) ?_
                          refine lv_if_ne (tgt := 148) hx hb dX9_term_121 (by decide) (fun c_1483 => ?_) (fun c_1483 => absurd c_1483 (by decide +kernel))
                          refine lv_iconst (v := 1) hx hb dX9_term_148 (by decide) ?_
                          refine lv_goto (tgt := 153) hx hb dX9_term_149 (by decide) ?_
                          refine lv_istore (lv' := [(8, .int 1), (7, .int r_2), (0, .ref h0), (1, .int p0), (2, .int p1), (3, .int p2), (4, .int p3), (5, .int p4), (6, .int p5)]) hx hb dX9_term_153 hl (by decide) rfl (fun ls hl => ?_)
                          refine lv_iload hx hb dX9_term_155 (lv_at hl 0 rfl) ?_
                          refine lv_if_eq (tgt := 163) hx hb dX9_term_157 (by decide) (fun c_1484 => absurd c_1484 (by decide +kernel)) (fun c_1484 => ?_)
                          refine lv_iconst (v := 1) hx hb dX9_term_160 (by decide) ?_
                          refine lv_istore (lv' := [(7, .int 1), (8, .int 1), (0, .ref h0), (1, .int p0), (2, .int p1), (3, .int p2), (4, .int p3), (5, .int p4), (6, .int p5)]) hx hb dX9_term_161 hl (by decide) rfl (fun ls hl => ?_)
                          refine lv_iload hx hb dX9_term_163 (lv_at hl 0 rfl) ?_
                          refine lv_if_eq (tgt := 177) hx hb dX9_term_165 (by decide) (fun c_1485 => absurd c_1485 (by decide +kernel)) (fun c_1485 => ?_)
                          refine lv_aload_n hx hb dX9_term_168 rfl (lv_at hl 2 rfl) ?_
                          refine lv_iload hx hb dX9_term_169 (lv_at hl 0 rfl) ?_
                          refine yVwi (As := [.int 1]) (rest := []) C0 (g_X9_no l G S d_1 h0 1 hSh hPod_1 hm_h0 hk_h0 (by decide +kernel)) ok_X9_no (mW177 : Cond.methodLink RX9 168 yX9_no ∈ wsT) ⟨Nat.le_of_ble_eq_true rfl, Nat.le_of_ble_eq_true rfl⟩ hP hD hS hA hK hN hm_h0 hk_h0 (by decide) rfl rfl rfl hl.1 rfl (Nat.le_of_ble_eq_true rfl) ⟨Nat.le_of_ble_eq_true rfl, Nat.le_of_ble_eq_true rfl⟩ dX9_term_171 (fun r_1486 d_1487 H locs hr_1486 hP hD hS => ?_)
                          obtain ⟨hgad_1487, hpad_1487, hfad_1487, hxd_1487⟩ := hr_1486
                          have hfd_1487 : yK [38] d d_1487 h0 := yK.tr hfd_1 hfad_1487 (by decide)
                          have hE0d_1487 : (d_1487.1 h0 0).toInt = (d_1.1 h0 0).toInt := congrArg Int32.toInt (hfad_1487 0 (by decide))
                          have hE1d_1487 : (d_1487.1 h0 1).toInt = (d_1.1 h0 1).toInt := congrArg Int32.toInt (hfad_1487 1 (by decide))
                          have hE2d_1487 : (d_1487.1 h0 2).toInt = (d_1.1 h0 2).toInt := congrArg Int32.toInt (hfad_1487 2 (by decide))
                          have hE3d_1487 : (d_1487.1 h0 3).toInt = (d_1.1 h0 3).toInt := congrArg Int32.toInt (hfad_1487 3 (by decide))
                          have hE63d_1487 : (d_1487.1 h0 63).toInt = (d_1.1 h0 63).toInt := congrArg Int32.toInt (hfad_1487 63 (by decide))
                          have hId_1487 : yMI S d_1487 h0 := yMI.ag hId_1 hSh hm_h0 hk_h0 hgad_1487 hfad_1487 (by decide) (by decide)
                          have hgd_1487 : yAg S [9, 34, 35, 36, 37, 38, 39, 40, 69] d d_1487 := yAg.tr hgd_1 hgad_1487 (by first | decide | exact fun _ h => h)
                          have hPod_1487 : yPo S d_1487 := hpad_1487 hPod_1
                          refine lv_pop hx hb dX9_term_174 rfl ?_
                          refine lv_iconst (v := 0) hx hb dX9_term_175 (by decide) ?_
                          have hCC_1488 := yMI.c hId_1487
                          have F_1489 := fnlt (rfl : (p2 : Int32).toInt = (p2 : Int32).toInt) (by decide +kernel : (0 : Int32).toInt = 0) c_3
                          have F_1490 := fnlt (by decide +kernel : (4 : Int32).toInt = 4) (rfl : (p2 : Int32).toInt = (p2 : Int32).toInt) c_118
                          have F_1491 := fnlt (rfl : (p3 : Int32).toInt = (p3 : Int32).toInt) (by decide +kernel : (0 : Int32).toInt = 0) c_241
                          have F_1492 := fle (rfl : (p3 : Int32).toInt = (p3 : Int32).toInt) (by decide +kernel : (4 : Int32).toInt = 4) c_372
                          have F_1493 := feq (rfl : (p3 : Int32).toInt = (p3 : Int32).toInt) (by decide +kernel : (1 : Int32).toInt = 1) c_373
                          have F_1494 := feq (by decide +kernel : (0 : Int32).toInt = 0) (by decide +kernel : (0 : Int32).toInt = 0) c_831
                          have F_1495 := fnlt (rfl : (p4 : Int32).toInt = (p4 : Int32).toInt) (by decide +kernel : (0 : Int32).toInt = 0) c_832
                          have F_1496 := fnlt (by decide +kernel : (1440 : Int32).toInt = 1440) (rfl : (p4 : Int32).toInt = (p4 : Int32).toInt) c_907
                          have F_1497 := fnlt (rfl : (p5 : Int32).toInt = (p5 : Int32).toInt) (by decide +kernel : (0 : Int32).toInt = 0) c_986
                          have F_1498 := fle (rfl : (p5 : Int32).toInt = (p5 : Int32).toInt) (by decide +kernel : (1440 : Int32).toInt = 1440) c_1069
                          have F_1499 := feq (rfl : (p3 : Int32).toInt = (p3 : Int32).toInt) (by decide +kernel : (3 : Int32).toInt = 3) c_1070
                          have F_1500 := feq (by decide +kernel : (0 : Int32).toInt = 0) (by decide +kernel : (0 : Int32).toInt = 0) c_1255
                          have F_1501 := fnlt (rfl : (p4 : Int32).toInt = (p4 : Int32).toInt) (by decide +kernel : (0 : Int32).toInt = 0) c_1256
                          have F_1502 := fnle (rfl : (p4 : Int32).toInt = (p4 : Int32).toInt) (by decide +kernel : (4 : Int32).toInt = 4) c_1257
                          have F_1503 := feq (rfl : (p3 : Int32).toInt = (p3 : Int32).toInt) (by decide +kernel : (4 : Int32).toInt = 4) c_1460
                          have F_1504 := fne (by decide +kernel : (1 : Int32).toInt = 1) (by decide +kernel : (0 : Int32).toInt = 0) c_1483
                          have F_1505 := fne (by decide +kernel : (1 : Int32).toInt = 1) (by decide +kernel : (0 : Int32).toInt = 0) c_1484
                          have F_1506 := fne (by decide +kernel : (1 : Int32).toInt = 1) (by decide +kernel : (0 : Int32).toInt = 0) c_1485
                          exact W.zret (v := 0) (ty := .boolean) hx hb hr rfl (fun t ht hW => ⟨⟨0, d_1487, rfl, ⟨hgd_1487, (fun _ => hPod_1487), hfd_1487, ⟨hId_1487, Or.inl ⟨by have h0_ : (0 : Int32).toInt = 0 := (by decide +kernel); omega, by omega, (zTr.ag (zTr.ag zTr.rf hSh hm_h0 hk_h0 hsd_1 (by decide)) hSh hm_h0 hk_h0 hgad_1487 (by decide))⟩⟩⟩, by rw [ht]; exact hP, hD⟩, hS.F ht⟩) hS.2.2 dX9_term_176
                  · refine lv_iconst (v := 1) hx hb dX9_term_77 (by decide) ?_
                    refine lv_goto (tgt := 82) hx hb dX9_term_78 (by decide) ?_
                    refine lv_istore (lv' := [(8, .int 1), (7, .int r_2), (0, .ref h0), (1, .int p0), (2, .int p1), (3, .int p2), (4, .int p3), (5, .int p4), (6, .int p5)]) hx hb dX9_term_82 hl (by decide) rfl (fun ls hl => ?_)
                    refine lv_iload hx hb dX9_term_84 (lv_at hl 6 rfl) ?_
                    refine lv_iconst (v := 3) hx hb dX9_term_86 (by decide) ?_
                    refine lv_icmp_ne (tgt := 113) hx hb dX9_term_87 (by decide) (fun c_1507 => ?_) (fun c_1507 => ?_)
                    · refine lv_iload hx hb dX9_term_113 (lv_at hl 6 rfl) ?_
                      refine lv_iconst (v := 4) hx hb dX9_term_115 (by decide) ?_
                      refine lv_icmp_ne (tgt := 155) hx hb dX9_term_116 (by decide) (fun c_1508 => ?_) (fun c_1508 => ?_)
                      · refine lv_iload hx hb dX9_term_155 (lv_at hl 0 rfl) ?_
                        refine lv_if_eq (tgt := 163) hx hb dX9_term_157 (by decide) (fun c_1509 => absurd c_1509 (by decide +kernel)) (fun c_1509 => ?_)
                        refine lv_iconst (v := 1) hx hb dX9_term_160 (by decide) ?_
                        refine lv_istore (lv' := [(7, .int 1), (8, .int 1), (0, .ref h0), (1, .int p0), (2, .int p1), (3, .int p2), (4, .int p3), (5, .int p4), (6, .int p5)]) hx hb dX9_term_161 hl (by decide) rfl (fun ls hl => ?_)
                        refine lv_iload hx hb dX9_term_163 (lv_at hl 0 rfl) ?_
                        refine lv_if_eq (tgt := 177) hx hb dX9_term_165 (by decide) (fun c_1510 => absurd c_1510 (by decide +kernel)) (fun c_1510 => ?_)
                        refine lv_aload_n hx hb dX9_term_168 rfl (lv_at hl 2 rfl) ?_
                        refine lv_iload hx hb dX9_term_169 (lv_at hl 0 rfl) ?_
                        refine yVwi (As := [.int 1]) (rest := []) C0 (g_X9_no l G S d_1 h0 1 hSh hPod_1 hm_h0 hk_h0 (by decide +kernel)) ok_X9_no (mW177 : Cond.methodLink RX9 168 yX9_no ∈ wsT) ⟨Nat.le_of_ble_eq_true rfl, Nat.le_of_ble_eq_true rfl⟩ hP hD hS hA hK hN hm_h0 hk_h0 (by decide) rfl rfl rfl hl.1 rfl (Nat.le_of_ble_eq_true rfl) ⟨Nat.le_of_ble_eq_true rfl, Nat.le_of_ble_eq_true rfl⟩ dX9_term_171 (fun r_1511 d_1512 H locs hr_1511 hP hD hS => ?_)
                        obtain ⟨hgad_1512, hpad_1512, hfad_1512, hxd_1512⟩ := hr_1511
                        have hfd_1512 : yK [38] d d_1512 h0 := yK.tr hfd_1 hfad_1512 (by decide)
                        have hE0d_1512 : (d_1512.1 h0 0).toInt = (d_1.1 h0 0).toInt := congrArg Int32.toInt (hfad_1512 0 (by decide))
                        have hE1d_1512 : (d_1512.1 h0 1).toInt = (d_1.1 h0 1).toInt := congrArg Int32.toInt (hfad_1512 1 (by decide))
                        have hE2d_1512 : (d_1512.1 h0 2).toInt = (d_1.1 h0 2).toInt := congrArg Int32.toInt (hfad_1512 2 (by decide))
                        have hE3d_1512 : (d_1512.1 h0 3).toInt = (d_1.1 h0 3).toInt := congrArg Int32.toInt (hfad_1512 3 (by decide))
                        have hE63d_1512 : (d_1512.1 h0 63).toInt = (d_1.1 h0 63).toInt := congrArg Int32.toInt (hfad_1512 63 (by decide))
                        have hId_1512 : yMI S d_1512 h0 := yMI.ag hId_1 hSh hm_h0 hk_h0 hgad_1512 hfad_1512 (by decide) (by decide)
                        have hgd_1512 : yAg S [9, 34, 35, 36, 37, 38, 39, 40, 69] d d_1512 := yAg.tr hgd_1 hgad_1512 (by first | decide | exact fun _ h => h)
                        have hPod_1512 : yPo S d_1512 := hpad_1512 hPod_1
                        refine lv_pop hx hb dX9_term_174 rfl ?_
                        refine lv_iconst (v := 0) hx hb dX9_term_175 (by decide) ?_
                        have hCC_1513 := yMI.c hId_1512
                        have F_1514 := fnlt (rfl : (p2 : Int32).toInt = (p2 : Int32).toInt) (by decide +kernel : (0 : Int32).toInt = 0) c_3
                        have F_1515 := fnlt (by decide +kernel : (4 : Int32).toInt = 4) (rfl : (p2 : Int32).toInt = (p2 : Int32).toInt) c_118
                        have F_1516 := fnlt (rfl : (p3 : Int32).toInt = (p3 : Int32).toInt) (by decide +kernel : (0 : Int32).toInt = 0) c_241
                        have F_1517 := fle (rfl : (p3 : Int32).toInt = (p3 : Int32).toInt) (by decide +kernel : (4 : Int32).toInt = 4) c_372
                        have F_1518 := feq (rfl : (p3 : Int32).toInt = (p3 : Int32).toInt) (by decide +kernel : (1 : Int32).toInt = 1) c_373
                        have F_1519 := feq (by decide +kernel : (0 : Int32).toInt = 0) (by decide +kernel : (0 : Int32).toInt = 0) c_831
                        have F_1520 := fnlt (rfl : (p4 : Int32).toInt = (p4 : Int32).toInt) (by decide +kernel : (0 : Int32).toInt = 0) c_832
                        have F_1521 := fnlt (by decide +kernel : (1440 : Int32).toInt = 1440) (rfl : (p4 : Int32).toInt = (p4 : Int32).toInt) c_907
                        have F_1522 := fnlt (rfl : (p5 : Int32).toInt = (p5 : Int32).toInt) (by decide +kernel : (0 : Int32).toInt = 0) c_986
                        have F_1523 := fnle (rfl : (p5 : Int32).toInt = (p5 : Int32).toInt) (by decide +kernel : (1440 : Int32).toInt = 1440) c_1069
                        have F_1524 := fne (rfl : (p3 : Int32).toInt = (p3 : Int32).toInt) (by decide +kernel : (3 : Int32).toInt = 3) c_1507
                        have F_1525 := fne (rfl : (p3 : Int32).toInt = (p3 : Int32).toInt) (by decide +kernel : (4 : Int32).toInt = 4) c_1508
                        have F_1526 := fne (by decide +kernel : (1 : Int32).toInt = 1) (by decide +kernel : (0 : Int32).toInt = 0) c_1509
                        have F_1527 := fne (by decide +kernel : (1 : Int32).toInt = 1) (by decide +kernel : (0 : Int32).toInt = 0) c_1510
                        exact W.zret (v := 0) (ty := .boolean) hx hb hr rfl (fun t ht hW => ⟨⟨0, d_1512, rfl, ⟨hgd_1512, (fun _ => hPod_1512), hfd_1512, ⟨hId_1512, Or.inl ⟨by have h0_ : (0 : Int32).toInt = 0 := (by decide +kernel); omega, by omega, (zTr.ag (zTr.ag zTr.rf hSh hm_h0 hk_h0 hsd_1 (by decide)) hSh hm_h0 hk_h0 hgad_1512 (by decide))⟩⟩⟩, by rw [ht]; exact hP, hD⟩, hS.F ht⟩) hS.2.2 dX9_term_176
                      · refine lv_iload hx hb dX9_term_119 (lv_at hl 0 rfl) ?_
                        refine lv_if_ne (tgt := 148) hx hb dX9_term_121 (by decide) (fun c_1528 => ?_) (fun c_1528 => absurd c_1528 (by decide +kernel))
                        refine lv_iconst (v := 1) hx hb dX9_term_148 (by decide) ?_
                        refine lv_goto (tgt := 153) hx hb dX9_term_149 (by decide) ?_
                        refine lv_istore (lv' := [(8, .int 1), (7, .int r_2), (0, .ref h0), (1, .int p0), (2, .int p1), (3, .int p2), (4, .int p3), (5, .int p4), (6, .int p5)]) hx hb dX9_term_153 hl (by decide) rfl (fun ls hl => ?_)
                        refine lv_iload hx hb dX9_term_155 (lv_at hl 0 rfl) ?_
                        refine lv_if_eq (tgt := 163) hx hb dX9_term_157 (by decide) (fun c_1529 => absurd c_1529 (by decide +kernel)) (fun c_1529 => ?_)
                        refine lv_iconst (v := 1) hx hb dX9_term_160 (by decide) ?_
                        refine lv_istore (lv' := [(7, .int 1), (8, .int 1), (0, .ref h0), (1, .int p0), (2, .int p1), (3, .int p2), (4, .int p3), (5, .int p4), (6, .int p5)]) hx hb dX9_term_161 hl (by decide) rfl (fun ls hl => ?_)
                        refine lv_iload hx hb dX9_term_163 (lv_at hl 0 rfl) ?_
                        refine lv_if_eq (tgt := 177) hx hb dX9_term_165 (by decide) (fun c_1530 => absurd c_1530 (by decide +kernel)) (fun c_1530 => ?_)
                        refine lv_aload_n hx hb dX9_term_168 rfl (lv_at hl 2 rfl) ?_
                        refine lv_iload hx hb dX9_term_169 (lv_at hl 0 rfl) ?_
                        refine yVwi (As := [.int 1]) (rest := []) C0 (g_X9_no l G S d_1 h0 1 hSh hPod_1 hm_h0 hk_h0 (by decide +kernel)) ok_X9_no (mW177 : Cond.methodLink RX9 168 yX9_no ∈ wsT) ⟨Nat.le_of_ble_eq_true rfl, Nat.le_of_ble_eq_true rfl⟩ hP hD hS hA hK hN hm_h0 hk_h0 (by decide) rfl rfl rfl hl.1 rfl (Nat.le_of_ble_eq_true rfl) ⟨Nat.le_of_ble_eq_true rfl, Nat.le_of_ble_eq_true rfl⟩ dX9_term_171 (fun r_1531 d_1532 H locs hr_1531 hP hD hS => ?_)
                        obtain ⟨hgad_1532, hpad_1532, hfad_1532, hxd_1532⟩ := hr_1531
                        have hfd_1532 : yK [38] d d_1532 h0 := yK.tr hfd_1 hfad_1532 (by decide)
                        have hE0d_1532 : (d_1532.1 h0 0).toInt = (d_1.1 h0 0).toInt := congrArg Int32.toInt (hfad_1532 0 (by decide))
                        have hE1d_1532 : (d_1532.1 h0 1).toInt = (d_1.1 h0 1).toInt := congrArg Int32.toInt (hfad_1532 1 (by decide))
                        have hE2d_1532 : (d_1532.1 h0 2).toInt = (d_1.1 h0 2).toInt := congrArg Int32.toInt (hfad_1532 2 (by decide))
                        have hE3d_1532 : (d_1532.1 h0 3).toInt = (d_1.1 h0 3).toInt := congrArg Int32.toInt (hfad_1532 3 (by decide))
                        have hE63d_1532 : (d_1532.1 h0 63).toInt = (d_1.1 h0 63).toInt := congrArg Int32.toInt (hfad_1532 63 (by decide))
                        have hId_1532 : yMI S d_1532 h0 := yMI.ag hId_1 hSh hm_h0 hk_h0 hgad_1532 hfad_1532 (by decide) (by decide)
                        have hgd_1532 : yAg S [9, 34, 35, 36, 37, 38, 39, 40, 69] d d_1532 := yAg.tr hgd_1 hgad_1532 (by first | decide | exact fun _ h => h)
                        have hPod_1532 : yPo S d_1532 := hpad_1532 hPod_1
                        refine lv_pop hx hb dX9_term_174 rfl ?_
                        refine lv_iconst (v := 0) hx hb dX9_term_175 (by decide) ?_
                        have hCC_1533 := yMI.c hId_1532
                        have F_1534 := fnlt (rfl : (p2 : Int32).toInt = (p2 : Int32).toInt) (by decide +kernel : (0 : Int32).toInt = 0) c_3
                        have F_1535 := fnlt (by decide +kernel : (4 : Int32).toInt = 4) (rfl : (p2 : Int32).toInt = (p2 : Int32).toInt) c_118
                        have F_1536 := fnlt (rfl : (p3 : Int32).toInt = (p3 : Int32).toInt) (by decide +kernel : (0 : Int32).toInt = 0) c_241
                        have F_1537 := fle (rfl : (p3 : Int32).toInt = (p3 : Int32).toInt) (by decide +kernel : (4 : Int32).toInt = 4) c_372
                        have F_1538 := feq (rfl : (p3 : Int32).toInt = (p3 : Int32).toInt) (by decide +kernel : (1 : Int32).toInt = 1) c_373
                        have F_1539 := feq (by decide +kernel : (0 : Int32).toInt = 0) (by decide +kernel : (0 : Int32).toInt = 0) c_831
                        have F_1540 := fnlt (rfl : (p4 : Int32).toInt = (p4 : Int32).toInt) (by decide +kernel : (0 : Int32).toInt = 0) c_832
                        have F_1541 := fnlt (by decide +kernel : (1440 : Int32).toInt = 1440) (rfl : (p4 : Int32).toInt = (p4 : Int32).toInt) c_907
                        have F_1542 := fnlt (rfl : (p5 : Int32).toInt = (p5 : Int32).toInt) (by decide +kernel : (0 : Int32).toInt = 0) c_986
                        have F_1543 := fnle (rfl : (p5 : Int32).toInt = (p5 : Int32).toInt) (by decide +kernel : (1440 : Int32).toInt = 1440) c_1069
                        have F_1544 := fne (rfl : (p3 : Int32).toInt = (p3 : Int32).toInt) (by decide +kernel : (3 : Int32).toInt = 3) c_1507
                        have F_1545 := feq (rfl : (p3 : Int32).toInt = (p3 : Int32).toInt) (by decide +kernel : (4 : Int32).toInt = 4) c_1508
                        have F_1546 := fne (by decide +kernel : (1 : Int32).toInt = 1) (by decide +kernel : (0 : Int32).toInt = 0) c_1528
                        have F_1547 := fne (by decide +kernel : (1 : Int32).toInt = 1) (by decide +kernel : (0 : Int32).toInt = 0) c_1529
                        have F_1548 := fne (by decide +kernel : (1 : Int32).toInt = 1) (by decide +kernel : (0 : Int32).toInt = 0) c_1530
                        exact W.zret (v := 0) (ty := .boolean) hx hb hr rfl (fun t ht hW => ⟨⟨0, d_1532, rfl, ⟨hgd_1532, (fun _ => hPod_1532), hfd_1532, ⟨hId_1532, Or.inl ⟨by have h0_ : (0 : Int32).toInt = 0 := (by decide +kernel); omega, by omega, (zTr.ag (zTr.ag zTr.rf hSh hm_h0 hk_h0 hsd_1 (by decide)) hSh hm_h0 hk_h0 hgad_1532 (by decide))⟩⟩⟩, by rw [ht]; exact hP, hD⟩, hS.F ht⟩) hS.2.2 dX9_term_176
                    · refine lv_iload hx hb dX9_term_90 (lv_at hl 0 rfl) ?_
                      refine lv_if_ne (tgt := 106) hx hb dX9_term_92 (by decide) (fun c_1549 => ?_) (fun c_1549 => absurd c_1549 (by decide +kernel))
                      refine lv_iconst (v := 1) hx hb dX9_term_106 (by decide) ?_
                      refine lv_goto (tgt := 111) hx hb dX9_term_107 (by decide) ?_
                      refine lv_istore (lv' := [(8, .int 1), (7, .int r_2), (0, .ref h0), (1, .int p0), (2, .int p1), (3, .int p2), (4, .int p3), (5, .int p4), (6, .int p5)]) hx hb dX9_term_111 hl (by decide) rfl (fun ls hl => ?_)
                      refine lv_iload hx hb dX9_term_113 (lv_at hl 6 rfl) ?_
                      refine lv_iconst (v := 4) hx hb dX9_term_115 (by decide) ?_
                      refine lv_icmp_ne (tgt := 155) hx hb dX9_term_116 (by decide) (fun c_1550 => ?_) (fun c_1550 => ?_)
                      · refine lv_iload hx hb dX9_term_155 (lv_at hl 0 rfl) ?_
                        refine lv_if_eq (tgt := 163) hx hb dX9_term_157 (by decide) (fun c_1551 => absurd c_1551 (by decide +kernel)) (fun c_1551 => ?_)
                        refine lv_iconst (v := 1) hx hb dX9_term_160 (by decide) ?_
                        refine lv_istore (lv' := [(7, .int 1), (8, .int 1), (0, .ref h0), (1, .int p0), (2, .int p1), (3, .int p2), (4, .int p3), (5, .int p4), (6, .int p5)]) hx hb dX9_term_161 hl (by decide) rfl (fun ls hl => ?_)
                        refine lv_iload hx hb dX9_term_163 (lv_at hl 0 rfl) ?_
                        refine lv_if_eq (tgt := 177) hx hb dX9_term_165 (by decide) (fun c_1552 => absurd c_1552 (by decide +kernel)) (fun c_1552 => ?_)
                        refine lv_aload_n hx hb dX9_term_168 rfl (lv_at hl 2 rfl) ?_
                        refine lv_iload hx hb dX9_term_169 (lv_at hl 0 rfl) ?_
                        refine yVwi (As := [.int 1]) (rest := []) C0 (g_X9_no l G S d_1 h0 1 hSh hPod_1 hm_h0 hk_h0 (by decide +kernel)) ok_X9_no (mW177 : Cond.methodLink RX9 168 yX9_no ∈ wsT) ⟨Nat.le_of_ble_eq_true rfl, Nat.le_of_ble_eq_true rfl⟩ hP hD hS hA hK hN hm_h0 hk_h0 (by decide) rfl rfl rfl hl.1 rfl (Nat.le_of_ble_eq_true rfl) ⟨Nat.le_of_ble_eq_true rfl, Nat.le_of_ble_eq_true rfl⟩ dX9_term_171 (fun r_1553 d_1554 H locs hr_1553 hP hD hS => ?_)
                        obtain ⟨hgad_1554, hpad_1554, hfad_1554, hxd_1554⟩ := hr_1553
                        have hfd_1554 : yK [38] d d_1554 h0 := yK.tr hfd_1 hfad_1554 (by decide)
                        have hE0d_1554 : (d_1554.1 h0 0).toInt = (d_1.1 h0 0).toInt := congrArg Int32.toInt (hfad_1554 0 (by decide))
                        have hE1d_1554 : (d_1554.1 h0 1).toInt = (d_1.1 h0 1).toInt := congrArg Int32.toInt (hfad_1554 1 (by decide))
                        have hE2d_1554 : (d_1554.1 h0 2).toInt = (d_1.1 h0 2).toInt := congrArg Int32.toInt (hfad_1554 2 (by decide))
                        have hE3d_1554 : (d_1554.1 h0 3).toInt = (d_1.1 h0 3).toInt := congrArg Int32.toInt (hfad_1554 3 (by decide))
                        have hE63d_1554 : (d_1554.1 h0 63).toInt = (d_1.1 h0 63).toInt := congrArg Int32.toInt (hfad_1554 63 (by decide))
                        have hId_1554 : yMI S d_1554 h0 := yMI.ag hId_1 hSh hm_h0 hk_h0 hgad_1554 hfad_1554 (by decide) (by decide)
                        have hgd_1554 : yAg S [9, 34, 35, 36, 37, 38, 39, 40, 69] d d_1554 := yAg.tr hgd_1 hgad_1554 (by first | decide | exact fun _ h => h)
                        have hPod_1554 : yPo S d_1554 := hpad_1554 hPod_1
                        refine lv_pop hx hb dX9_term_174 rfl ?_
                        refine lv_iconst (v := 0) hx hb dX9_term_175 (by decide) ?_
                        have hCC_1555 := yMI.c hId_1554
                        have F_1556 := fnlt (rfl : (p2 : Int32).toInt = (p2 : Int32).toInt) (by decide +kernel : (0 : Int32).toInt = 0) c_3
                        have F_1557 := fnlt (by decide +kernel : (4 : Int32).toInt = 4) (rfl : (p2 : Int32).toInt = (p2 : Int32).toInt) c_118
                        have F_1558 := fnlt (rfl : (p3 : Int32).toInt = (p3 : Int32).toInt) (by decide +kernel : (0 : Int32).toInt = 0) c_241
                        have F_1559 := fle (rfl : (p3 : Int32).toInt = (p3 : Int32).toInt) (by decide +kernel : (4 : Int32).toInt = 4) c_372
                        have F_1560 := feq (rfl : (p3 : Int32).toInt = (p3 : Int32).toInt) (by decide +kernel : (1 : Int32).toInt = 1) c_373
                        have F_1561 := feq (by decide +kernel : (0 : Int32).toInt = 0) (by decide +kernel : (0 : Int32).toInt = 0) c_831
                        have F_1562 := fnlt (rfl : (p4 : Int32).toInt = (p4 : Int32).toInt) (by decide +kernel : (0 : Int32).toInt = 0) c_832
                        have F_1563 := fnlt (by decide +kernel : (1440 : Int32).toInt = 1440) (rfl : (p4 : Int32).toInt = (p4 : Int32).toInt) c_907
                        have F_1564 := fnlt (rfl : (p5 : Int32).toInt = (p5 : Int32).toInt) (by decide +kernel : (0 : Int32).toInt = 0) c_986
                        have F_1565 := fnle (rfl : (p5 : Int32).toInt = (p5 : Int32).toInt) (by decide +kernel : (1440 : Int32).toInt = 1440) c_1069
                        have F_1566 := feq (rfl : (p3 : Int32).toInt = (p3 : Int32).toInt) (by decide +kernel : (3 : Int32).toInt = 3) c_1507
                        have F_1567 := fne (by decide +kernel : (1 : Int32).toInt = 1) (by decide +kernel : (0 : Int32).toInt = 0) c_1549
                        have F_1568 := fne (rfl : (p3 : Int32).toInt = (p3 : Int32).toInt) (by decide +kernel : (4 : Int32).toInt = 4) c_1550
                        have F_1569 := fne (by decide +kernel : (1 : Int32).toInt = 1) (by decide +kernel : (0 : Int32).toInt = 0) c_1551
                        have F_1570 := fne (by decide +kernel : (1 : Int32).toInt = 1) (by decide +kernel : (0 : Int32).toInt = 0) c_1552
                        exact W.zret (v := 0) (ty := .boolean) hx hb hr rfl (fun t ht hW => ⟨⟨0, d_1554, rfl, ⟨hgd_1554, (fun _ => hPod_1554), hfd_1554, ⟨hId_1554, Or.inl ⟨by have h0_ : (0 : Int32).toInt = 0 := (by decide +kernel); omega, by omega, (zTr.ag (zTr.ag zTr.rf hSh hm_h0 hk_h0 hsd_1 (by decide)) hSh hm_h0 hk_h0 hgad_1554 (by decide))⟩⟩⟩, by rw [ht]; exact hP, hD⟩, hS.F ht⟩) hS.2.2 dX9_term_176
                      · refine lv_iload hx hb dX9_term_119 (lv_at hl 0 rfl) ?_
                        refine lv_if_ne (tgt := 148) hx hb dX9_term_121 (by decide) (fun c_1571 => ?_) (fun c_1571 => absurd c_1571 (by decide +kernel))
                        refine lv_iconst (v := 1) hx hb dX9_term_148 (by decide) ?_
                        refine lv_goto (tgt := 153) hx hb dX9_term_149 (by decide) ?_
                        refine lv_istore (lv' := [(8, .int 1), (7, .int r_2), (0, .ref h0), (1, .int p0), (2, .int p1), (3, .int p2), (4, .int p3), (5, .int p4), (6, .int p5)]) hx hb dX9_term_153 hl (by decide) rfl (fun ls hl => ?_)
                        refine lv_iload hx hb dX9_term_155 (lv_at hl 0 rfl) ?_
                        refine lv_if_eq (tgt := 163) hx hb dX9_term_157 (by decide) (fun c_1572 => absurd c_1572 (by decide +kernel)) (fun c_1572 => ?_)
                        refine lv_iconst (v := 1) hx hb dX9_term_160 (by decide) ?_
                        refine lv_istore (lv' := [(7, .int 1), (8, .int 1), (0, .ref h0), (1, .int p0), (2, .int p1), (3, .int p2), (4, .int p3), (5, .int p4), (6, .int p5)]) hx hb dX9_term_161 hl (by decide) rfl (fun ls hl => ?_)
                        refine lv_iload hx hb dX9_term_163 (lv_at hl 0 rfl) ?_
                        refine lv_if_eq (tgt := 177) hx hb dX9_term_165 (by decide) (fun c_1573 => absurd c_1573 (by decide +kernel)) (fun c_1573 => ?_)
                        refine lv_aload_n hx hb dX9_term_168 rfl (lv_at hl 2 rfl) ?_
                        refine lv_iload hx hb dX9_term_169 (lv_at hl 0 rfl) ?_
                        refine yVwi (As := [.int 1]) (rest := []) C0 (g_X9_no l G S d_1 h0 1 hSh hPod_1 hm_h0 hk_h0 (by decide +kernel)) ok_X9_no (mW177 : Cond.methodLink RX9 168 yX9_no ∈ wsT) ⟨Nat.le_of_ble_eq_true rfl, Nat.le_of_ble_eq_true rfl⟩ hP hD hS hA hK hN hm_h0 hk_h0 (by decide) rfl rfl rfl hl.1 rfl (Nat.le_of_ble_eq_true rfl) ⟨Nat.le_of_ble_eq_true rfl, Nat.le_of_ble_eq_true rfl⟩ dX9_term_171 (fun r_1574 d_1575 H locs hr_1574 hP hD hS => ?_)
                        obtain ⟨hgad_1575, hpad_1575, hfad_1575, hxd_1575⟩ := hr_1574
                        have hfd_1575 : yK [38] d d_1575 h0 := yK.tr hfd_1 hfad_1575 (by decide)
                        have hE0d_1575 : (d_1575.1 h0 0).toInt = (d_1.1 h0 0).toInt := congrArg Int32.toInt (hfad_1575 0 (by decide))
                        have hE1d_1575 : (d_1575.1 h0 1).toInt = (d_1.1 h0 1).toInt := congrArg Int32.toInt (hfad_1575 1 (by decide))
                        have hE2d_1575 : (d_1575.1 h0 2).toInt = (d_1.1 h0 2).toInt := congrArg Int32.toInt (hfad_1575 2 (by decide))
                        have hE3d_1575 : (d_1575.1 h0 3).toInt = (d_1.1 h0 3).toInt := congrArg Int32.toInt (hfad_1575 3 (by decide))
                        have hE63d_1575 : (d_1575.1 h0 63).toInt = (d_1.1 h0 63).toInt := congrArg Int32.toInt (hfad_1575 63 (by decide))
                        have hId_1575 : yMI S d_1575 h0 := yMI.ag hId_1 hSh hm_h0 hk_h0 hgad_1575 hfad_1575 (by decide) (by decide)
                        have hgd_1575 : yAg S [9, 34, 35, 36, 37, 38, 39, 40, 69] d d_1575 := yAg.tr hgd_1 hgad_1575 (by first | decide | exact fun _ h => h)
                        have hPod_1575 : yPo S d_1575 := hpad_1575 hPod_1
                        refine lv_pop hx hb dX9_term_174 rfl ?_
                        refine lv_iconst (v := 0) hx hb dX9_term_175 (by decide) ?_
                        have hCC_1576 := yMI.c hId_1575
                        have F_1577 := fnlt (rfl : (p2 : Int32).toInt = (p2 : Int32).toInt) (by decide +kernel : (0 : Int32).toInt = 0) c_3
                        have F_1578 := fnlt (by decide +kernel : (4 : Int32).toInt = 4) (rfl : (p2 : Int32).toInt = (p2 : Int32).toInt) c_118
                        have F_1579 := fnlt (rfl : (p3 : Int32).toInt = (p3 : Int32).toInt) (by decide +kernel : (0 : Int32).toInt = 0) c_241
                        have F_1580 := fle (rfl : (p3 : Int32).toInt = (p3 : Int32).toInt) (by decide +kernel : (4 : Int32).toInt = 4) c_372
                        have F_1581 := feq (rfl : (p3 : Int32).toInt = (p3 : Int32).toInt) (by decide +kernel : (1 : Int32).toInt = 1) c_373
                        have F_1582 := feq (by decide +kernel : (0 : Int32).toInt = 0) (by decide +kernel : (0 : Int32).toInt = 0) c_831
                        have F_1583 := fnlt (rfl : (p4 : Int32).toInt = (p4 : Int32).toInt) (by decide +kernel : (0 : Int32).toInt = 0) c_832
                        have F_1584 := fnlt (by decide +kernel : (1440 : Int32).toInt = 1440) (rfl : (p4 : Int32).toInt = (p4 : Int32).toInt) c_907
                        have F_1585 := fnlt (rfl : (p5 : Int32).toInt = (p5 : Int32).toInt) (by decide +kernel : (0 : Int32).toInt = 0) c_986
                        have F_1586 := fnle (rfl : (p5 : Int32).toInt = (p5 : Int32).toInt) (by decide +kernel : (1440 : Int32).toInt = 1440) c_1069
                        have F_1587 := feq (rfl : (p3 : Int32).toInt = (p3 : Int32).toInt) (by decide +kernel : (3 : Int32).toInt = 3) c_1507
                        have F_1588 := fne (by decide +kernel : (1 : Int32).toInt = 1) (by decide +kernel : (0 : Int32).toInt = 0) c_1549
                        have F_1589 := feq (rfl : (p3 : Int32).toInt = (p3 : Int32).toInt) (by decide +kernel : (4 : Int32).toInt = 4) c_1550
                        have F_1590 := fne (by decide +kernel : (1 : Int32).toInt = 1) (by decide +kernel : (0 : Int32).toInt = 0) c_1571
                        have F_1591 := fne (by decide +kernel : (1 : Int32).toInt = 1) (by decide +kernel : (0 : Int32).toInt = 0) c_1572
                        have F_1592 := fne (by decide +kernel : (1 : Int32).toInt = 1) (by decide +kernel : (0 : Int32).toInt = 0) c_1573
                        exact W.zret (v := 0) (ty := .boolean) hx hb hr rfl (fun t ht hW => ⟨⟨0, d_1575, rfl, ⟨hgd_1575, (fun _ => hPod_1575), hfd_1575, ⟨hId_1575, Or.inl ⟨by have h0_ : (0 : Int32).toInt = 0 := (by decide +kernel); omega, by omega, (zTr.ag (zTr.ag zTr.rf hSh hm_h0 hk_h0 hsd_1 (by decide)) hSh hm_h0 hk_h0 hgad_1575 (by decide))⟩⟩⟩, by rw [ht]; exact hP, hD⟩, hS.F ht⟩) hS.2.2 dX9_term_176
        · refine lv_iconst (v := 1) hx hb dX9_term_33 (by decide) ?_
          refine lv_goto (tgt := 38) hx hb dX9_term_34 (by decide) ?_
          refine lv_istore (lv' := [(8, .int 1), (7, .int r_2), (0, .ref h0), (1, .int p0), (2, .int p1), (3, .int p2), (4, .int p3), (5, .int p4), (6, .int p5)]) hx hb dX9_term_38 hl (by decide) rfl (fun ls hl => ?_)
          refine lv_iload hx hb dX9_term_40 (lv_at hl 6 rfl) ?_
          refine lv_iconst (v := 1) hx hb dX9_term_42 (by decide) ?_
          refine lv_icmp_ne (tgt := 84) hx hb dX9_term_43 (by decide) (fun c_1593 => ?_) (fun c_1593 => ?_)
          · refine lv_iload hx hb dX9_term_84 (lv_at hl 6 rfl) ?_
            refine lv_iconst (v := 3) hx hb dX9_term_86 (by decide) ?_
            refine lv_icmp_ne (tgt := 113) hx hb dX9_term_87 (by decide) (fun c_1594 => ?_) (fun c_1594 => ?_)
            · refine lv_iload hx hb dX9_term_113 (lv_at hl 6 rfl) ?_
              refine lv_iconst (v := 4) hx hb dX9_term_115 (by decide) ?_
              refine lv_icmp_ne (tgt := 155) hx hb dX9_term_116 (by decide) (fun c_1595 => ?_) (fun c_1595 => ?_)
              · refine lv_iload hx hb dX9_term_155 (lv_at hl 0 rfl) ?_
                refine lv_if_eq (tgt := 163) hx hb dX9_term_157 (by decide) (fun c_1596 => absurd c_1596 (by decide +kernel)) (fun c_1596 => ?_)
                refine lv_iconst (v := 1) hx hb dX9_term_160 (by decide) ?_
                refine lv_istore (lv' := [(7, .int 1), (8, .int 1), (0, .ref h0), (1, .int p0), (2, .int p1), (3, .int p2), (4, .int p3), (5, .int p4), (6, .int p5)]) hx hb dX9_term_161 hl (by decide) rfl (fun ls hl => ?_)
                refine lv_iload hx hb dX9_term_163 (lv_at hl 0 rfl) ?_
                refine lv_if_eq (tgt := 177) hx hb dX9_term_165 (by decide) (fun c_1597 => absurd c_1597 (by decide +kernel)) (fun c_1597 => ?_)
                refine lv_aload_n hx hb dX9_term_168 rfl (lv_at hl 2 rfl) ?_
                refine lv_iload hx hb dX9_term_169 (lv_at hl 0 rfl) ?_
                refine yVwi (As := [.int 1]) (rest := []) C0 (g_X9_no l G S d_1 h0 1 hSh hPod_1 hm_h0 hk_h0 (by decide +kernel)) ok_X9_no (mW177 : Cond.methodLink RX9 168 yX9_no ∈ wsT) ⟨Nat.le_of_ble_eq_true rfl, Nat.le_of_ble_eq_true rfl⟩ hP hD hS hA hK hN hm_h0 hk_h0 (by decide) rfl rfl rfl hl.1 rfl (Nat.le_of_ble_eq_true rfl) ⟨Nat.le_of_ble_eq_true rfl, Nat.le_of_ble_eq_true rfl⟩ dX9_term_171 (fun r_1598 d_1599 H locs hr_1598 hP hD hS => ?_)
                obtain ⟨hgad_1599, hpad_1599, hfad_1599, hxd_1599⟩ := hr_1598
                have hfd_1599 : yK [38] d d_1599 h0 := yK.tr hfd_1 hfad_1599 (by decide)
                have hE0d_1599 : (d_1599.1 h0 0).toInt = (d_1.1 h0 0).toInt := congrArg Int32.toInt (hfad_1599 0 (by decide))
                have hE1d_1599 : (d_1599.1 h0 1).toInt = (d_1.1 h0 1).toInt := congrArg Int32.toInt (hfad_1599 1 (by decide))
                have hE2d_1599 : (d_1599.1 h0 2).toInt = (d_1.1 h0 2).toInt := congrArg Int32.toInt (hfad_1599 2 (by decide))
                have hE3d_1599 : (d_1599.1 h0 3).toInt = (d_1.1 h0 3).toInt := congrArg Int32.toInt (hfad_1599 3 (by decide))
                have hE63d_1599 : (d_1599.1 h0 63).toInt = (d_1.1 h0 63).toInt := congrArg Int32.toInt (hfad_1599 63 (by decide))
                have hId_1599 : yMI S d_1599 h0 := yMI.ag hId_1 hSh hm_h0 hk_h0 hgad_1599 hfad_1599 (by decide) (by decide)
                have hgd_1599 : yAg S [9, 34, 35, 36, 37, 38, 39, 40, 69] d d_1599 := yAg.tr hgd_1 hgad_1599 (by first | decide | exact fun _ h => h)
                have hPod_1599 : yPo S d_1599 := hpad_1599 hPod_1
                refine lv_pop hx hb dX9_term_174 rfl ?_
                refine lv_iconst (v := 0) hx hb dX9_term_175 (by decide) ?_
                have hCC_1600 := yMI.c hId_1599
                have F_1601 := fnlt (rfl : (p2 : Int32).toInt = (p2 : Int32).toInt) (by decide +kernel : (0 : Int32).toInt = 0) c_3
                have F_1602 := fnlt (by decide +kernel : (4 : Int32).toInt = 4) (rfl : (p2 : Int32).toInt = (p2 : Int32).toInt) c_118
                have F_1603 := fnlt (rfl : (p3 : Int32).toInt = (p3 : Int32).toInt) (by decide +kernel : (0 : Int32).toInt = 0) c_241
                have F_1604 := fnle (rfl : (p3 : Int32).toInt = (p3 : Int32).toInt) (by decide +kernel : (4 : Int32).toInt = 4) c_372
                have F_1605 := fne (rfl : (p3 : Int32).toInt = (p3 : Int32).toInt) (by decide +kernel : (1 : Int32).toInt = 1) c_1593
                have F_1606 := fne (rfl : (p3 : Int32).toInt = (p3 : Int32).toInt) (by decide +kernel : (3 : Int32).toInt = 3) c_1594
                have F_1607 := fne (rfl : (p3 : Int32).toInt = (p3 : Int32).toInt) (by decide +kernel : (4 : Int32).toInt = 4) c_1595
                have F_1608 := fne (by decide +kernel : (1 : Int32).toInt = 1) (by decide +kernel : (0 : Int32).toInt = 0) c_1596
                have F_1609 := fne (by decide +kernel : (1 : Int32).toInt = 1) (by decide +kernel : (0 : Int32).toInt = 0) c_1597
                exact W.zret (v := 0) (ty := .boolean) hx hb hr rfl (fun t ht hW => ⟨⟨0, d_1599, rfl, ⟨hgd_1599, (fun _ => hPod_1599), hfd_1599, ⟨hId_1599, Or.inl ⟨by have h0_ : (0 : Int32).toInt = 0 := (by decide +kernel); omega, by omega, (zTr.ag (zTr.ag zTr.rf hSh hm_h0 hk_h0 hsd_1 (by decide)) hSh hm_h0 hk_h0 hgad_1599 (by decide))⟩⟩⟩, by rw [ht]; exact hP, hD⟩, hS.F ht⟩) hS.2.2 dX9_term_176
              · refine lv_iload hx hb dX9_term_119 (lv_at hl 0 rfl) ?_
                refine lv_if_ne (tgt := 148) hx hb dX9_term_121 (by decide) (fun c_1610 => ?_) (fun c_1610 => absurd c_1610 (by decide +kernel))
                refine lv_iconst (v := 1) hx hb dX9_term_148 (by decide) ?_
                refine lv_goto (tgt := 153) hx hb dX9_term_149 (by decide) ?_
                refine lv_istore (lv' := [(8, .int 1), (7, .int r_2), (0, .ref h0), (1, .int p0), (2, .int p1), (3, .int p2), (4, .int p3), (5, .int p4), (6, .int p5)]) hx hb dX9_term_153 hl (by decide) rfl (fun ls hl => ?_)
                refine lv_iload hx hb dX9_term_155 (lv_at hl 0 rfl) ?_
                refine lv_if_eq (tgt := 163) hx hb dX9_term_157 (by decide) (fun c_1611 => absurd c_1611 (by decide +kernel)) (fun c_1611 => ?_)
                refine lv_iconst (v := 1) hx hb dX9_term_160 (by decide) ?_
                refine lv_istore (lv' := [(7, .int 1), (8, .int 1), (0, .ref h0), (1, .int p0), (2, .int p1), (3, .int p2), (4, .int p3), (5, .int p4), (6, .int p5)]) hx hb dX9_term_161 hl (by decide) rfl (fun ls hl => ?_)
                refine lv_iload hx hb dX9_term_163 (lv_at hl 0 rfl) ?_
                refine lv_if_eq (tgt := 177) hx hb dX9_term_165 (by decide) (fun c_1612 => absurd c_1612 (by decide +kernel)) (fun c_1612 => ?_)
                refine lv_aload_n hx hb dX9_term_168 rfl (lv_at hl 2 rfl) ?_
                refine lv_iload hx hb dX9_term_169 (lv_at hl 0 rfl) ?_
                refine yVwi (As := [.int 1]) (rest := []) C0 (g_X9_no l G S d_1 h0 1 hSh hPod_1 hm_h0 hk_h0 (by decide +kernel)) ok_X9_no (mW177 : Cond.methodLink RX9 168 yX9_no ∈ wsT) ⟨Nat.le_of_ble_eq_true rfl, Nat.le_of_ble_eq_true rfl⟩ hP hD hS hA hK hN hm_h0 hk_h0 (by decide) rfl rfl rfl hl.1 rfl (Nat.le_of_ble_eq_true rfl) ⟨Nat.le_of_ble_eq_true rfl, Nat.le_of_ble_eq_true rfl⟩ dX9_term_171 (fun r_1613 d_1614 H locs hr_1613 hP hD hS => ?_)
                obtain ⟨hgad_1614, hpad_1614, hfad_1614, hxd_1614⟩ := hr_1613
                have hfd_1614 : yK [38] d d_1614 h0 := yK.tr hfd_1 hfad_1614 (by decide)
                have hE0d_1614 : (d_1614.1 h0 0).toInt = (d_1.1 h0 0).toInt := congrArg Int32.toInt (hfad_1614 0 (by decide))
                have hE1d_1614 : (d_1614.1 h0 1).toInt = (d_1.1 h0 1).toInt := congrArg Int32.toInt (hfad_1614 1 (by decide))
                have hE2d_1614 : (d_1614.1 h0 2).toInt = (d_1.1 h0 2).toInt := congrArg Int32.toInt (hfad_1614 2 (by decide))
                have hE3d_1614 : (d_1614.1 h0 3).toInt = (d_1.1 h0 3).toInt := congrArg Int32.toInt (hfad_1614 3 (by decide))
                have hE63d_1614 : (d_1614.1 h0 63).toInt = (d_1.1 h0 63).toInt := congrArg Int32.toInt (hfad_1614 63 (by decide))
                have hId_1614 : yMI S d_1614 h0 := yMI.ag hId_1 hSh hm_h0 hk_h0 hgad_1614 hfad_1614 (by decide) (by decide)
                have hgd_1614 : yAg S [9, 34, 35, 36, 37, 38, 39, 40, 69] d d_1614 := yAg.tr hgd_1 hgad_1614 (by first | decide | exact fun _ h => h)
                have hPod_1614 : yPo S d_1614 := hpad_1614 hPod_1
                refine lv_pop hx hb dX9_term_174 rfl ?_
                refine lv_iconst (v := 0) hx hb dX9_term_175 (by decide) ?_
                have hCC_1615 := yMI.c hId_1614
                have F_1616 := fnlt (rfl : (p2 : Int32).toInt = (p2 : Int32).toInt) (by decide +kernel : (0 : Int32).toInt = 0) c_3
                have F_1617 := fnlt (by decide +kernel : (4 : Int32).toInt = 4) (rfl : (p2 : Int32).toInt = (p2 : Int32).toInt) c_118
                have F_1618 := fnlt (rfl : (p3 : Int32).toInt = (p3 : Int32).toInt) (by decide +kernel : (0 : Int32).toInt = 0) c_241
                have F_1619 := fnle (rfl : (p3 : Int32).toInt = (p3 : Int32).toInt) (by decide +kernel : (4 : Int32).toInt = 4) c_372
                have F_1620 := fne (rfl : (p3 : Int32).toInt = (p3 : Int32).toInt) (by decide +kernel : (1 : Int32).toInt = 1) c_1593
                have F_1621 := fne (rfl : (p3 : Int32).toInt = (p3 : Int32).toInt) (by decide +kernel : (3 : Int32).toInt = 3) c_1594
                have F_1622 := feq (rfl : (p3 : Int32).toInt = (p3 : Int32).toInt) (by decide +kernel : (4 : Int32).toInt = 4) c_1595
                have F_1623 := fne (by decide +kernel : (1 : Int32).toInt = 1) (by decide +kernel : (0 : Int32).toInt = 0) c_1610
                have F_1624 := fne (by decide +kernel : (1 : Int32).toInt = 1) (by decide +kernel : (0 : Int32).toInt = 0) c_1611
                have F_1625 := fne (by decide +kernel : (1 : Int32).toInt = 1) (by decide +kernel : (0 : Int32).toInt = 0) c_1612
                exact W.zret (v := 0) (ty := .boolean) hx hb hr rfl (fun t ht hW => ⟨⟨0, d_1614, rfl, ⟨hgd_1614, (fun _ => hPod_1614), hfd_1614, ⟨hId_1614, Or.inl ⟨by have h0_ : (0 : Int32).toInt = 0 := (by decide +kernel); omega, by omega, (zTr.ag (zTr.ag zTr.rf hSh hm_h0 hk_h0 hsd_1 (by decide)) hSh hm_h0 hk_h0 hgad_1614 (by decide))⟩⟩⟩, by rw [ht]; exact hP, hD⟩, hS.F ht⟩) hS.2.2 dX9_term_176
            · refine lv_iload hx hb dX9_term_90 (lv_at hl 0 rfl) ?_
              refine lv_if_ne (tgt := 106) hx hb dX9_term_92 (by decide) (fun c_1626 => ?_) (fun c_1626 => absurd c_1626 (by decide +kernel))
              refine lv_iconst (v := 1) hx hb dX9_term_106 (by decide) ?_
              refine lv_goto (tgt := 111) hx hb dX9_term_107 (by decide) ?_
              refine lv_istore (lv' := [(8, .int 1), (7, .int r_2), (0, .ref h0), (1, .int p0), (2, .int p1), (3, .int p2), (4, .int p3), (5, .int p4), (6, .int p5)]) hx hb dX9_term_111 hl (by decide) rfl (fun ls hl => ?_)
              refine lv_iload hx hb dX9_term_113 (lv_at hl 6 rfl) ?_
              refine lv_iconst (v := 4) hx hb dX9_term_115 (by decide) ?_
              refine lv_icmp_ne (tgt := 155) hx hb dX9_term_116 (by decide) (fun c_1627 => ?_) (fun c_1627 => ?_)
              · refine lv_iload hx hb dX9_term_155 (lv_at hl 0 rfl) ?_
                refine lv_if_eq (tgt := 163) hx hb dX9_term_157 (by decide) (fun c_1628 => absurd c_1628 (by decide +kernel)) (fun c_1628 => ?_)
                refine lv_iconst (v := 1) hx hb dX9_term_160 (by decide) ?_
                refine lv_istore (lv' := [(7, .int 1), (8, .int 1), (0, .ref h0), (1, .int p0), (2, .int p1), (3, .int p2), (4, .int p3), (5, .int p4), (6, .int p5)]) hx hb dX9_term_161 hl (by decide) rfl (fun ls hl => ?_)
                refine lv_iload hx hb dX9_term_163 (lv_at hl 0 rfl) ?_
                refine lv_if_eq (tgt := 177) hx hb dX9_term_165 (by decide) (fun c_1629 => absurd c_1629 (by decide +kernel)) (fun c_1629 => ?_)
                refine lv_aload_n hx hb dX9_term_168 rfl (lv_at hl 2 rfl) ?_
                refine lv_iload hx hb dX9_term_169 (lv_at hl 0 rfl) ?_
                refine yVwi (As := [.int 1]) (rest := []) C0 (g_X9_no l G S d_1 h0 1 hSh hPod_1 hm_h0 hk_h0 (by decide +kernel)) ok_X9_no (mW177 : Cond.methodLink RX9 168 yX9_no ∈ wsT) ⟨Nat.le_of_ble_eq_true rfl, Nat.le_of_ble_eq_true rfl⟩ hP hD hS hA hK hN hm_h0 hk_h0 (by decide) rfl rfl rfl hl.1 rfl (Nat.le_of_ble_eq_true rfl) ⟨Nat.le_of_ble_eq_true rfl, Nat.le_of_ble_eq_true rfl⟩ dX9_term_171 (fun r_1630 d_1631 H locs hr_1630 hP hD hS => ?_)
                obtain ⟨hgad_1631, hpad_1631, hfad_1631, hxd_1631⟩ := hr_1630
                have hfd_1631 : yK [38] d d_1631 h0 := yK.tr hfd_1 hfad_1631 (by decide)
                have hE0d_1631 : (d_1631.1 h0 0).toInt = (d_1.1 h0 0).toInt := congrArg Int32.toInt (hfad_1631 0 (by decide))
                have hE1d_1631 : (d_1631.1 h0 1).toInt = (d_1.1 h0 1).toInt := congrArg Int32.toInt (hfad_1631 1 (by decide))
                have hE2d_1631 : (d_1631.1 h0 2).toInt = (d_1.1 h0 2).toInt := congrArg Int32.toInt (hfad_1631 2 (by decide))
                have hE3d_1631 : (d_1631.1 h0 3).toInt = (d_1.1 h0 3).toInt := congrArg Int32.toInt (hfad_1631 3 (by decide))
                have hE63d_1631 : (d_1631.1 h0 63).toInt = (d_1.1 h0 63).toInt := congrArg Int32.toInt (hfad_1631 63 (by decide))
                have hId_1631 : yMI S d_1631 h0 := yMI.ag hId_1 hSh hm_h0 hk_h0 hgad_1631 hfad_1631 (by decide) (by decide)
                have hgd_1631 : yAg S [9, 34, 35, 36, 37, 38, 39, 40, 69] d d_1631 := yAg.tr hgd_1 hgad_1631 (by first | decide | exact fun _ h => h)
                have hPod_1631 : yPo S d_1631 := hpad_1631 hPod_1
                refine lv_pop hx hb dX9_term_174 rfl ?_
                refine lv_iconst (v := 0) hx hb dX9_term_175 (by decide) ?_
                have hCC_1632 := yMI.c hId_1631
                have F_1633 := fnlt (rfl : (p2 : Int32).toInt = (p2 : Int32).toInt) (by decide +kernel : (0 : Int32).toInt = 0) c_3
                have F_1634 := fnlt (by decide +kernel : (4 : Int32).toInt = 4) (rfl : (p2 : Int32).toInt = (p2 : Int32).toInt) c_118
                have F_1635 := fnlt (rfl : (p3 : Int32).toInt = (p3 : Int32).toInt) (by decide +kernel : (0 : Int32).toInt = 0) c_241
                have F_1636 := fnle (rfl : (p3 : Int32).toInt = (p3 : Int32).toInt) (by decide +kernel : (4 : Int32).toInt = 4) c_372
                have F_1637 := fne (rfl : (p3 : Int32).toInt = (p3 : Int32).toInt) (by decide +kernel : (1 : Int32).toInt = 1) c_1593
                have F_1638 := feq (rfl : (p3 : Int32).toInt = (p3 : Int32).toInt) (by decide +kernel : (3 : Int32).toInt = 3) c_1594
                have F_1639 := fne (by decide +kernel : (1 : Int32).toInt = 1) (by decide +kernel : (0 : Int32).toInt = 0) c_1626
                have F_1640 := fne (rfl : (p3 : Int32).toInt = (p3 : Int32).toInt) (by decide +kernel : (4 : Int32).toInt = 4) c_1627
                have F_1641 := fne (by decide +kernel : (1 : Int32).toInt = 1) (by decide +kernel : (0 : Int32).toInt = 0) c_1628
                have F_1642 := fne (by decide +kernel : (1 : Int32).toInt = 1) (by decide +kernel : (0 : Int32).toInt = 0) c_1629
                exact W.zret (v := 0) (ty := .boolean) hx hb hr rfl (fun t ht hW => ⟨⟨0, d_1631, rfl, ⟨hgd_1631, (fun _ => hPod_1631), hfd_1631, ⟨hId_1631, Or.inl ⟨by have h0_ : (0 : Int32).toInt = 0 := (by decide +kernel); omega, by omega, (zTr.ag (zTr.ag zTr.rf hSh hm_h0 hk_h0 hsd_1 (by decide)) hSh hm_h0 hk_h0 hgad_1631 (by decide))⟩⟩⟩, by rw [ht]; exact hP, hD⟩, hS.F ht⟩) hS.2.2 dX9_term_176
              · refine lv_iload hx hb dX9_term_119 (lv_at hl 0 rfl) ?_
                refine lv_if_ne (tgt := 148) hx hb dX9_term_121 (by decide) (fun c_1643 => ?_) (fun c_1643 => absurd c_1643 (by decide +kernel))
                refine lv_iconst (v := 1) hx hb dX9_term_148 (by decide) ?_
                refine lv_goto (tgt := 153) hx hb dX9_term_149 (by decide) ?_
                refine lv_istore (lv' := [(8, .int 1), (7, .int r_2), (0, .ref h0), (1, .int p0), (2, .int p1), (3, .int p2), (4, .int p3), (5, .int p4), (6, .int p5)]) hx hb dX9_term_153 hl (by decide) rfl (fun ls hl => ?_)
                refine lv_iload hx hb dX9_term_155 (lv_at hl 0 rfl) ?_
                refine lv_if_eq (tgt := 163) hx hb dX9_term_157 (by decide) (fun c_1644 => absurd c_1644 (by decide +kernel)) (fun c_1644 => ?_)
                refine lv_iconst (v := 1) hx hb dX9_term_160 (by decide) ?_
                refine lv_istore (lv' := [(7, .int 1), (8, .int 1), (0, .ref h0), (1, .int p0), (2, .int p1), (3, .int p2), (4, .int p3), (5, .int p4), (6, .int p5)]) hx hb dX9_term_161 hl (by decide) rfl (fun ls hl => ?_)
                refine lv_iload hx hb dX9_term_163 (lv_at hl 0 rfl) ?_
                refine lv_if_eq (tgt := 177) hx hb dX9_term_165 (by decide) (fun c_1645 => absurd c_1645 (by decide +kernel)) (fun c_1645 => ?_)
                refine lv_aload_n hx hb dX9_term_168 rfl (lv_at hl 2 rfl) ?_
                refine lv_iload hx hb dX9_term_169 (lv_at hl 0 rfl) ?_
                refine yVwi (As := [.int 1]) (rest := []) C0 (g_X9_no l G S d_1 h0 1 hSh hPod_1 hm_h0 hk_h0 (by decide +kernel)) ok_X9_no (mW177 : Cond.methodLink RX9 168 yX9_no ∈ wsT) ⟨Nat.le_of_ble_eq_true rfl, Nat.le_of_ble_eq_true rfl⟩ hP hD hS hA hK hN hm_h0 hk_h0 (by decide) rfl rfl rfl hl.1 rfl (Nat.le_of_ble_eq_true rfl) ⟨Nat.le_of_ble_eq_true rfl, Nat.le_of_ble_eq_true rfl⟩ dX9_term_171 (fun r_1646 d_1647 H locs hr_1646 hP hD hS => ?_)
                obtain ⟨hgad_1647, hpad_1647, hfad_1647, hxd_1647⟩ := hr_1646
                have hfd_1647 : yK [38] d d_1647 h0 := yK.tr hfd_1 hfad_1647 (by decide)
                have hE0d_1647 : (d_1647.1 h0 0).toInt = (d_1.1 h0 0).toInt := congrArg Int32.toInt (hfad_1647 0 (by decide))
                have hE1d_1647 : (d_1647.1 h0 1).toInt = (d_1.1 h0 1).toInt := congrArg Int32.toInt (hfad_1647 1 (by decide))
                have hE2d_1647 : (d_1647.1 h0 2).toInt = (d_1.1 h0 2).toInt := congrArg Int32.toInt (hfad_1647 2 (by decide))
                have hE3d_1647 : (d_1647.1 h0 3).toInt = (d_1.1 h0 3).toInt := congrArg Int32.toInt (hfad_1647 3 (by decide))
                have hE63d_1647 : (d_1647.1 h0 63).toInt = (d_1.1 h0 63).toInt := congrArg Int32.toInt (hfad_1647 63 (by decide))
                have hId_1647 : yMI S d_1647 h0 := yMI.ag hId_1 hSh hm_h0 hk_h0 hgad_1647 hfad_1647 (by decide) (by decide)
                have hgd_1647 : yAg S [9, 34, 35, 36, 37, 38, 39, 40, 69] d d_1647 := yAg.tr hgd_1 hgad_1647 (by first | decide | exact fun _ h => h)
                have hPod_1647 : yPo S d_1647 := hpad_1647 hPod_1
                refine lv_pop hx hb dX9_term_174 rfl ?_
                refine lv_iconst (v := 0) hx hb dX9_term_175 (by decide) ?_
                have hCC_1648 := yMI.c hId_1647
                have F_1649 := fnlt (rfl : (p2 : Int32).toInt = (p2 : Int32).toInt) (by decide +kernel : (0 : Int32).toInt = 0) c_3
                have F_1650 := fnlt (by decide +kernel : (4 : Int32).toInt = 4) (rfl : (p2 : Int32).toInt = (p2 : Int32).toInt) c_118
                have F_1651 := fnlt (rfl : (p3 : Int32).toInt = (p3 : Int32).toInt) (by decide +kernel : (0 : Int32).toInt = 0) c_241
                have F_1652 := fnle (rfl : (p3 : Int32).toInt = (p3 : Int32).toInt) (by decide +kernel : (4 : Int32).toInt = 4) c_372
                have F_1653 := fne (rfl : (p3 : Int32).toInt = (p3 : Int32).toInt) (by decide +kernel : (1 : Int32).toInt = 1) c_1593
                have F_1654 := feq (rfl : (p3 : Int32).toInt = (p3 : Int32).toInt) (by decide +kernel : (3 : Int32).toInt = 3) c_1594
                have F_1655 := fne (by decide +kernel : (1 : Int32).toInt = 1) (by decide +kernel : (0 : Int32).toInt = 0) c_1626
                have F_1656 := feq (rfl : (p3 : Int32).toInt = (p3 : Int32).toInt) (by decide +kernel : (4 : Int32).toInt = 4) c_1627
                have F_1657 := fne (by decide +kernel : (1 : Int32).toInt = 1) (by decide +kernel : (0 : Int32).toInt = 0) c_1643
                have F_1658 := fne (by decide +kernel : (1 : Int32).toInt = 1) (by decide +kernel : (0 : Int32).toInt = 0) c_1644
                have F_1659 := fne (by decide +kernel : (1 : Int32).toInt = 1) (by decide +kernel : (0 : Int32).toInt = 0) c_1645
                exact W.zret (v := 0) (ty := .boolean) hx hb hr rfl (fun t ht hW => ⟨⟨0, d_1647, rfl, ⟨hgd_1647, (fun _ => hPod_1647), hfd_1647, ⟨hId_1647, Or.inl ⟨by have h0_ : (0 : Int32).toInt = 0 := (by decide +kernel); omega, by omega, (zTr.ag (zTr.ag zTr.rf hSh hm_h0 hk_h0 hsd_1 (by decide)) hSh hm_h0 hk_h0 hgad_1647 (by decide))⟩⟩⟩, by rw [ht]; exact hP, hD⟩, hS.F ht⟩) hS.2.2 dX9_term_176
          · refine lv_iload hx hb dX9_term_46 (lv_at hl 0 rfl) ?_
            refine lv_if_ne (tgt := 77) hx hb dX9_term_48 (by decide) (fun c_1660 => ?_) (fun c_1660 => absurd c_1660 (by decide +kernel))
            refine lv_iconst (v := 1) hx hb dX9_term_77 (by decide) ?_
            refine lv_goto (tgt := 82) hx hb dX9_term_78 (by decide) ?_
            refine lv_istore (lv' := [(8, .int 1), (7, .int r_2), (0, .ref h0), (1, .int p0), (2, .int p1), (3, .int p2), (4, .int p3), (5, .int p4), (6, .int p5)]) hx hb dX9_term_82 hl (by decide) rfl (fun ls hl => ?_)
            refine lv_iload hx hb dX9_term_84 (lv_at hl 6 rfl) ?_
            refine lv_iconst (v := 3) hx hb dX9_term_86 (by decide) ?_
            refine lv_icmp_ne (tgt := 113) hx hb dX9_term_87 (by decide) (fun c_1661 => ?_) (fun c_1661 => ?_)
            · refine lv_iload hx hb dX9_term_113 (lv_at hl 6 rfl) ?_
              refine lv_iconst (v := 4) hx hb dX9_term_115 (by decide) ?_
              refine lv_icmp_ne (tgt := 155) hx hb dX9_term_116 (by decide) (fun c_1662 => ?_) (fun c_1662 => ?_)
              · refine lv_iload hx hb dX9_term_155 (lv_at hl 0 rfl) ?_
                refine lv_if_eq (tgt := 163) hx hb dX9_term_157 (by decide) (fun c_1663 => absurd c_1663 (by decide +kernel)) (fun c_1663 => ?_)
                refine lv_iconst (v := 1) hx hb dX9_term_160 (by decide) ?_
                refine lv_istore (lv' := [(7, .int 1), (8, .int 1), (0, .ref h0), (1, .int p0), (2, .int p1), (3, .int p2), (4, .int p3), (5, .int p4), (6, .int p5)]) hx hb dX9_term_161 hl (by decide) rfl (fun ls hl => ?_)
                refine lv_iload hx hb dX9_term_163 (lv_at hl 0 rfl) ?_
                refine lv_if_eq (tgt := 177) hx hb dX9_term_165 (by decide) (fun c_1664 => absurd c_1664 (by decide +kernel)) (fun c_1664 => ?_)
                refine lv_aload_n hx hb dX9_term_168 rfl (lv_at hl 2 rfl) ?_
                refine lv_iload hx hb dX9_term_169 (lv_at hl 0 rfl) ?_
                refine yVwi (As := [.int 1]) (rest := []) C0 (g_X9_no l G S d_1 h0 1 hSh hPod_1 hm_h0 hk_h0 (by decide +kernel)) ok_X9_no (mW177 : Cond.methodLink RX9 168 yX9_no ∈ wsT) ⟨Nat.le_of_ble_eq_true rfl, Nat.le_of_ble_eq_true rfl⟩ hP hD hS hA hK hN hm_h0 hk_h0 (by decide) rfl rfl rfl hl.1 rfl (Nat.le_of_ble_eq_true rfl) ⟨Nat.le_of_ble_eq_true rfl, Nat.le_of_ble_eq_true rfl⟩ dX9_term_171 (fun r_1665 d_1666 H locs hr_1665 hP hD hS => ?_)
                obtain ⟨hgad_1666, hpad_1666, hfad_1666, hxd_1666⟩ := hr_1665
                have hfd_1666 : yK [38] d d_1666 h0 := yK.tr hfd_1 hfad_1666 (by decide)
                have hE0d_1666 : (d_1666.1 h0 0).toInt = (d_1.1 h0 0).toInt := congrArg Int32.toInt (hfad_1666 0 (by decide))
                have hE1d_1666 : (d_1666.1 h0 1).toInt = (d_1.1 h0 1).toInt := congrArg Int32.toInt (hfad_1666 1 (by decide))
                have hE2d_1666 : (d_1666.1 h0 2).toInt = (d_1.1 h0 2).toInt := congrArg Int32.toInt (hfad_1666 2 (by decide))
                have hE3d_1666 : (d_1666.1 h0 3).toInt = (d_1.1 h0 3).toInt := congrArg Int32.toInt (hfad_1666 3 (by decide))
                have hE63d_1666 : (d_1666.1 h0 63).toInt = (d_1.1 h0 63).toInt := congrArg Int32.toInt (hfad_1666 63 (by decide))
                have hId_1666 : yMI S d_1666 h0 := yMI.ag hId_1 hSh hm_h0 hk_h0 hgad_1666 hfad_1666 (by decide) (by decide)
                have hgd_1666 : yAg S [9, 34, 35, 36, 37, 38, 39, 40, 69] d d_1666 := yAg.tr hgd_1 hgad_1666 (by first | decide | exact fun _ h => h)
                have hPod_1666 : yPo S d_1666 := hpad_1666 hPod_1
                refine lv_pop hx hb dX9_term_174 rfl ?_
                refine lv_iconst (v := 0) hx hb dX9_term_175 (by decide) ?_
                have hCC_1667 := yMI.c hId_1666
                have F_1668 := fnlt (rfl : (p2 : Int32).toInt = (p2 : Int32).toInt) (by decide +kernel : (0 : Int32).toInt = 0) c_3
                have F_1669 := fnlt (by decide +kernel : (4 : Int32).toInt = 4) (rfl : (p2 : Int32).toInt = (p2 : Int32).toInt) c_118
                have F_1670 := fnlt (rfl : (p3 : Int32).toInt = (p3 : Int32).toInt) (by decide +kernel : (0 : Int32).toInt = 0) c_241
                have F_1671 := fnle (rfl : (p3 : Int32).toInt = (p3 : Int32).toInt) (by decide +kernel : (4 : Int32).toInt = 4) c_372
                have F_1672 := feq (rfl : (p3 : Int32).toInt = (p3 : Int32).toInt) (by decide +kernel : (1 : Int32).toInt = 1) c_1593
                have F_1673 := fne (by decide +kernel : (1 : Int32).toInt = 1) (by decide +kernel : (0 : Int32).toInt = 0) c_1660
                have F_1674 := fne (rfl : (p3 : Int32).toInt = (p3 : Int32).toInt) (by decide +kernel : (3 : Int32).toInt = 3) c_1661
                have F_1675 := fne (rfl : (p3 : Int32).toInt = (p3 : Int32).toInt) (by decide +kernel : (4 : Int32).toInt = 4) c_1662
                have F_1676 := fne (by decide +kernel : (1 : Int32).toInt = 1) (by decide +kernel : (0 : Int32).toInt = 0) c_1663
                have F_1677 := fne (by decide +kernel : (1 : Int32).toInt = 1) (by decide +kernel : (0 : Int32).toInt = 0) c_1664
                exact W.zret (v := 0) (ty := .boolean) hx hb hr rfl (fun t ht hW => ⟨⟨0, d_1666, rfl, ⟨hgd_1666, (fun _ => hPod_1666), hfd_1666, ⟨hId_1666, Or.inl ⟨by have h0_ : (0 : Int32).toInt = 0 := (by decide +kernel); omega, by omega, (zTr.ag (zTr.ag zTr.rf hSh hm_h0 hk_h0 hsd_1 (by decide)) hSh hm_h0 hk_h0 hgad_1666 (by decide))⟩⟩⟩, by rw [ht]; exact hP, hD⟩, hS.F ht⟩) hS.2.2 dX9_term_176
              · refine lv_iload hx hb dX9_term_119 (lv_at hl 0 rfl) ?_
                refine lv_if_ne (tgt := 148) hx hb dX9_term_121 (by decide) (fun c_1678 => ?_) (fun c_1678 => absurd c_1678 (by decide +kernel))
                refine lv_iconst (v := 1) hx hb dX9_term_148 (by decide) ?_
                refine lv_goto (tgt := 153) hx hb dX9_term_149 (by decide) ?_
                refine lv_istore (lv' := [(8, .int 1), (7, .int r_2), (0, .ref h0), (1, .int p0), (2, .int p1), (3, .int p2), (4, .int p3), (5, .int p4), (6, .int p5)]) hx hb dX9_term_153 hl (by decide) rfl (fun ls hl => ?_)
                refine lv_iload hx hb dX9_term_155 (lv_at hl 0 rfl) ?_
                refine lv_if_eq (tgt := 163) hx hb dX9_term_157 (by decide) (fun c_1679 => absurd c_1679 (by decide +kernel)) (fun c_1679 => ?_)
                refine lv_iconst (v := 1) hx hb dX9_term_160 (by decide) ?_
                refine lv_istore (lv' := [(7, .int 1), (8, .int 1), (0, .ref h0), (1, .int p0), (2, .int p1), (3, .int p2), (4, .int p3), (5, .int p4), (6, .int p5)]) hx hb dX9_term_161 hl (by decide) rfl (fun ls hl => ?_)
                refine lv_iload hx hb dX9_term_163 (lv_at hl 0 rfl) ?_
                refine lv_if_eq (tgt := 177) hx hb dX9_term_165 (by decide) (fun c_1680 => absurd c_1680 (by decide +kernel)) (fun c_1680 => ?_)
                refine lv_aload_n hx hb dX9_term_168 rfl (lv_at hl 2 rfl) ?_
                refine lv_iload hx hb dX9_term_169 (lv_at hl 0 rfl) ?_
                refine yVwi (As := [.int 1]) (rest := []) C0 (g_X9_no l G S d_1 h0 1 hSh hPod_1 hm_h0 hk_h0 (by decide +kernel)) ok_X9_no (mW177 : Cond.methodLink RX9 168 yX9_no ∈ wsT) ⟨Nat.le_of_ble_eq_true rfl, Nat.le_of_ble_eq_true rfl⟩ hP hD hS hA hK hN hm_h0 hk_h0 (by decide) rfl rfl rfl hl.1 rfl (Nat.le_of_ble_eq_true rfl) ⟨Nat.le_of_ble_eq_true rfl, Nat.le_of_ble_eq_true rfl⟩ dX9_term_171 (fun r_1681 d_1682 H locs hr_1681 hP hD hS => ?_)
                obtain ⟨hgad_1682, hpad_1682, hfad_1682, hxd_1682⟩ := hr_1681
                have hfd_1682 : yK [38] d d_1682 h0 := yK.tr hfd_1 hfad_1682 (by decide)
                have hE0d_1682 : (d_1682.1 h0 0).toInt = (d_1.1 h0 0).toInt := congrArg Int32.toInt (hfad_1682 0 (by decide))
                have hE1d_1682 : (d_1682.1 h0 1).toInt = (d_1.1 h0 1).toInt := congrArg Int32.toInt (hfad_1682 1 (by decide))
                have hE2d_1682 : (d_1682.1 h0 2).toInt = (d_1.1 h0 2).toInt := congrArg Int32.toInt (hfad_1682 2 (by decide))
                have hE3d_1682 : (d_1682.1 h0 3).toInt = (d_1.1 h0 3).toInt := congrArg Int32.toInt (hfad_1682 3 (by decide))
                have hE63d_1682 : (d_1682.1 h0 63).toInt = (d_1.1 h0 63).toInt := congrArg Int32.toInt (hfad_1682 63 (by decide))
                have hId_1682 : yMI S d_1682 h0 := yMI.ag hId_1 hSh hm_h0 hk_h0 hgad_1682 hfad_1682 (by decide) (by decide)
                have hgd_1682 : yAg S [9, 34, 35, 36, 37, 38, 39, 40, 69] d d_1682 := yAg.tr hgd_1 hgad_1682 (by first | decide | exact fun _ h => h)
                have hPod_1682 : yPo S d_1682 := hpad_1682 hPod_1
                refine lv_pop hx hb dX9_term_174 rfl ?_
                refine lv_iconst (v := 0) hx hb dX9_term_175 (by decide) ?_
                have hCC_1683 := yMI.c hId_1682
                have F_1684 := fnlt (rfl : (p2 : Int32).toInt = (p2 : Int32).toInt) (by decide +kernel : (0 : Int32).toInt = 0) c_3
                have F_1685 := fnlt (by decide +kernel : (4 : Int32).toInt = 4) (rfl : (p2 : Int32).toInt = (p2 : Int32).toInt) c_118
                have F_1686 := fnlt (rfl : (p3 : Int32).toInt = (p3 : Int32).toInt) (by decide +kernel : (0 : Int32).toInt = 0) c_241
                have F_1687 := fnle (rfl : (p3 : Int32).toInt = (p3 : Int32).toInt) (by decide +kernel : (4 : Int32).toInt = 4) c_372
                have F_1688 := feq (rfl : (p3 : Int32).toInt = (p3 : Int32).toInt) (by decide +kernel : (1 : Int32).toInt = 1) c_1593
                have F_1689 := fne (by decide +kernel : (1 : Int32).toInt = 1) (by decide +kernel : (0 : Int32).toInt = 0) c_1660
                have F_1690 := fne (rfl : (p3 : Int32).toInt = (p3 : Int32).toInt) (by decide +kernel : (3 : Int32).toInt = 3) c_1661
                have F_1691 := feq (rfl : (p3 : Int32).toInt = (p3 : Int32).toInt) (by decide +kernel : (4 : Int32).toInt = 4) c_1662
                have F_1692 := fne (by decide +kernel : (1 : Int32).toInt = 1) (by decide +kernel : (0 : Int32).toInt = 0) c_1678
                have F_1693 := fne (by decide +kernel : (1 : Int32).toInt = 1) (by decide +kernel : (0 : Int32).toInt = 0) c_1679
                have F_1694 := fne (by decide +kernel : (1 : Int32).toInt = 1) (by decide +kernel : (0 : Int32).toInt = 0) c_1680
                exact W.zret (v := 0) (ty := .boolean) hx hb hr rfl (fun t ht hW => ⟨⟨0, d_1682, rfl, ⟨hgd_1682, (fun _ => hPod_1682), hfd_1682, ⟨hId_1682, Or.inl ⟨by have h0_ : (0 : Int32).toInt = 0 := (by decide +kernel); omega, by omega, (zTr.ag (zTr.ag zTr.rf hSh hm_h0 hk_h0 hsd_1 (by decide)) hSh hm_h0 hk_h0 hgad_1682 (by decide))⟩⟩⟩, by rw [ht]; exact hP, hD⟩, hS.F ht⟩) hS.2.2 dX9_term_176
            · refine lv_iload hx hb dX9_term_90 (lv_at hl 0 rfl) ?_
              refine lv_if_ne (tgt := 106) hx hb dX9_term_92 (by decide) (fun c_1695 => ?_) (fun c_1695 => absurd c_1695 (by decide +kernel))
              refine lv_iconst (v := 1) hx hb dX9_term_106 (by decide) ?_
              refine lv_goto (tgt := 111) hx hb dX9_term_107 (by decide) ?_
              refine lv_istore (lv' := [(8, .int 1), (7, .int r_2), (0, .ref h0), (1, .int p0), (2, .int p1), (3, .int p2), (4, .int p3), (5, .int p4), (6, .int p5)]) hx hb dX9_term_111 hl (by decide) rfl (fun ls hl => ?_)
              refine lv_iload hx hb dX9_term_113 (lv_at hl 6 rfl) ?_
              refine lv_iconst (v := 4) hx hb dX9_term_115 (by decide) ?_
              refine lv_icmp_ne (tgt := 155) hx hb dX9_term_116 (by decide) (fun c_1696 => ?_) (fun c_1696 => ?_)
              · refine lv_iload hx hb dX9_term_155 (lv_at hl 0 rfl) ?_
                refine lv_if_eq (tgt := 163) hx hb dX9_term_157 (by decide) (fun c_1697 => absurd c_1697 (by decide +kernel)) (fun c_1697 => ?_)
                refine lv_iconst (v := 1) hx hb dX9_term_160 (by decide) ?_
                refine lv_istore (lv' := [(7, .int 1), (8, .int 1), (0, .ref h0), (1, .int p0), (2, .int p1), (3, .int p2), (4, .int p3), (5, .int p4), (6, .int p5)]) hx hb dX9_term_161 hl (by decide) rfl (fun ls hl => ?_)
                refine lv_iload hx hb dX9_term_163 (lv_at hl 0 rfl) ?_
                refine lv_if_eq (tgt := 177) hx hb dX9_term_165 (by decide) (fun c_1698 => absurd c_1698 (by decide +kernel)) (fun c_1698 => ?_)
                refine lv_aload_n hx hb dX9_term_168 rfl (lv_at hl 2 rfl) ?_
                refine lv_iload hx hb dX9_term_169 (lv_at hl 0 rfl) ?_
                refine yVwi (As := [.int 1]) (rest := []) C0 (g_X9_no l G S d_1 h0 1 hSh hPod_1 hm_h0 hk_h0 (by decide +kernel)) ok_X9_no (mW177 : Cond.methodLink RX9 168 yX9_no ∈ wsT) ⟨Nat.le_of_ble_eq_true rfl, Nat.le_of_ble_eq_true rfl⟩ hP hD hS hA hK hN hm_h0 hk_h0 (by decide) rfl rfl rfl hl.1 rfl (Nat.le_of_ble_eq_true rfl) ⟨Nat.le_of_ble_eq_true rfl, Nat.le_of_ble_eq_true rfl⟩ dX9_term_171 (fun r_1699 d_1700 H locs hr_1699 hP hD hS => ?_)
                obtain ⟨hgad_1700, hpad_1700, hfad_1700, hxd_1700⟩ := hr_1699
                have hfd_1700 : yK [38] d d_1700 h0 := yK.tr hfd_1 hfad_1700 (by decide)
                have hE0d_1700 : (d_1700.1 h0 0).toInt = (d_1.1 h0 0).toInt := congrArg Int32.toInt (hfad_1700 0 (by decide))
                have hE1d_1700 : (d_1700.1 h0 1).toInt = (d_1.1 h0 1).toInt := congrArg Int32.toInt (hfad_1700 1 (by decide))
                have hE2d_1700 : (d_1700.1 h0 2).toInt = (d_1.1 h0 2).toInt := congrArg Int32.toInt (hfad_1700 2 (by decide))
                have hE3d_1700 : (d_1700.1 h0 3).toInt = (d_1.1 h0 3).toInt := congrArg Int32.toInt (hfad_1700 3 (by decide))
                have hE63d_1700 : (d_1700.1 h0 63).toInt = (d_1.1 h0 63).toInt := congrArg Int32.toInt (hfad_1700 63 (by decide))
                have hId_1700 : yMI S d_1700 h0 := yMI.ag hId_1 hSh hm_h0 hk_h0 hgad_1700 hfad_1700 (by decide) (by decide)
                have hgd_1700 : yAg S [9, 34, 35, 36, 37, 38, 39, 40, 69] d d_1700 := yAg.tr hgd_1 hgad_1700 (by first | decide | exact fun _ h => h)
                have hPod_1700 : yPo S d_1700 := hpad_1700 hPod_1
                refine lv_pop hx hb dX9_term_174 rfl ?_
                refine lv_iconst (v := 0) hx hb dX9_term_175 (by decide) ?_
                have hCC_1701 := yMI.c hId_1700
                have F_1702 := fnlt (rfl : (p2 : Int32).toInt = (p2 : Int32).toInt) (by decide +kernel : (0 : Int32).toInt = 0) c_3
                have F_1703 := fnlt (by decide +kernel : (4 : Int32).toInt = 4) (rfl : (p2 : Int32).toInt = (p2 : Int32).toInt) c_118
                have F_1704 := fnlt (rfl : (p3 : Int32).toInt = (p3 : Int32).toInt) (by decide +kernel : (0 : Int32).toInt = 0) c_241
                have F_1705 := fnle (rfl : (p3 : Int32).toInt = (p3 : Int32).toInt) (by decide +kernel : (4 : Int32).toInt = 4) c_372
                have F_1706 := feq (rfl : (p3 : Int32).toInt = (p3 : Int32).toInt) (by decide +kernel : (1 : Int32).toInt = 1) c_1593
                have F_1707 := fne (by decide +kernel : (1 : Int32).toInt = 1) (by decide +kernel : (0 : Int32).toInt = 0) c_1660
                have F_1708 := feq (rfl : (p3 : Int32).toInt = (p3 : Int32).toInt) (by decide +kernel : (3 : Int32).toInt = 3) c_1661
                have F_1709 := fne (by decide +kernel : (1 : Int32).toInt = 1) (by decide +kernel : (0 : Int32).toInt = 0) c_1695
                have F_1710 := fne (rfl : (p3 : Int32).toInt = (p3 : Int32).toInt) (by decide +kernel : (4 : Int32).toInt = 4) c_1696
                have F_1711 := fne (by decide +kernel : (1 : Int32).toInt = 1) (by decide +kernel : (0 : Int32).toInt = 0) c_1697
                have F_1712 := fne (by decide +kernel : (1 : Int32).toInt = 1) (by decide +kernel : (0 : Int32).toInt = 0) c_1698
                exact W.zret (v := 0) (ty := .boolean) hx hb hr rfl (fun t ht hW => ⟨⟨0, d_1700, rfl, ⟨hgd_1700, (fun _ => hPod_1700), hfd_1700, ⟨hId_1700, Or.inl ⟨by have h0_ : (0 : Int32).toInt = 0 := (by decide +kernel); omega, by omega, (zTr.ag (zTr.ag zTr.rf hSh hm_h0 hk_h0 hsd_1 (by decide)) hSh hm_h0 hk_h0 hgad_1700 (by decide))⟩⟩⟩, by rw [ht]; exact hP, hD⟩, hS.F ht⟩) hS.2.2 dX9_term_176
              · refine lv_iload hx hb dX9_term_119 (lv_at hl 0 rfl) ?_
                refine lv_if_ne (tgt := 148) hx hb dX9_term_121 (by decide) (fun c_1713 => ?_) (fun c_1713 => absurd c_1713 (by decide +kernel))
                refine lv_iconst (v := 1) hx hb dX9_term_148 (by decide) ?_
                refine lv_goto (tgt := 153) hx hb dX9_term_149 (by decide) ?_
                refine lv_istore (lv' := [(8, .int 1), (7, .int r_2), (0, .ref h0), (1, .int p0), (2, .int p1), (3, .int p2), (4, .int p3), (5, .int p4), (6, .int p5)]) hx hb dX9_term_153 hl (by decide) rfl (fun ls hl => ?_)
                refine lv_iload hx hb dX9_term_155 (lv_at hl 0 rfl) ?_
                refine lv_if_eq (tgt := 163) hx hb dX9_term_157 (by decide) (fun c_1714 => absurd c_1714 (by decide +kernel)) (fun c_1714 => ?_)
                refine lv_iconst (v := 1) hx hb dX9_term_160 (by decide) ?_
                refine lv_istore (lv' := [(7, .int 1), (8, .int 1), (0, .ref h0), (1, .int p0), (2, .int p1), (3, .int p2), (4, .int p3), (5, .int p4), (6, .int p5)]) hx hb dX9_term_161 hl (by decide) rfl (fun ls hl => ?_)
                refine lv_iload hx hb dX9_term_163 (lv_at hl 0 rfl) ?_
                refine lv_if_eq (tgt := 177) hx hb dX9_term_165 (by decide) (fun c_1715 => absurd c_1715 (by decide +kernel)) (fun c_1715 => ?_)
                refine lv_aload_n hx hb dX9_term_168 rfl (lv_at hl 2 rfl) ?_
                refine lv_iload hx hb dX9_term_169 (lv_at hl 0 rfl) ?_
                refine yVwi (As := [.int 1]) (rest := []) C0 (g_X9_no l G S d_1 h0 1 hSh hPod_1 hm_h0 hk_h0 (by decide +kernel)) ok_X9_no (mW177 : Cond.methodLink RX9 168 yX9_no ∈ wsT) ⟨Nat.le_of_ble_eq_true rfl, Nat.le_of_ble_eq_true rfl⟩ hP hD hS hA hK hN hm_h0 hk_h0 (by decide) rfl rfl rfl hl.1 rfl (Nat.le_of_ble_eq_true rfl) ⟨Nat.le_of_ble_eq_true rfl, Nat.le_of_ble_eq_true rfl⟩ dX9_term_171 (fun r_1716 d_1717 H locs hr_1716 hP hD hS => ?_)
                obtain ⟨hgad_1717, hpad_1717, hfad_1717, hxd_1717⟩ := hr_1716
                have hfd_1717 : yK [38] d d_1717 h0 := yK.tr hfd_1 hfad_1717 (by decide)
                have hE0d_1717 : (d_1717.1 h0 0).toInt = (d_1.1 h0 0).toInt := congrArg Int32.toInt (hfad_1717 0 (by decide))
                have hE1d_1717 : (d_1717.1 h0 1).toInt = (d_1.1 h0 1).toInt := congrArg Int32.toInt (hfad_1717 1 (by decide))
                have hE2d_1717 : (d_1717.1 h0 2).toInt = (d_1.1 h0 2).toInt := congrArg Int32.toInt (hfad_1717 2 (by decide))
                have hE3d_1717 : (d_1717.1 h0 3).toInt = (d_1.1 h0 3).toInt := congrArg Int32.toInt (hfad_1717 3 (by decide))
                have hE63d_1717 : (d_1717.1 h0 63).toInt = (d_1.1 h0 63).toInt := congrArg Int32.toInt (hfad_1717 63 (by decide))
                have hId_1717 : yMI S d_1717 h0 := yMI.ag hId_1 hSh hm_h0 hk_h0 hgad_1717 hfad_1717 (by decide) (by decide)
                have hgd_1717 : yAg S [9, 34, 35, 36, 37, 38, 39, 40, 69] d d_1717 := yAg.tr hgd_1 hgad_1717 (by first | decide | exact fun _ h => h)
                have hPod_1717 : yPo S d_1717 := hpad_1717 hPod_1
                refine lv_pop hx hb dX9_term_174 rfl ?_
                refine lv_iconst (v := 0) hx hb dX9_term_175 (by decide) ?_
                have hCC_1718 := yMI.c hId_1717
                have F_1719 := fnlt (rfl : (p2 : Int32).toInt = (p2 : Int32).toInt) (by decide +kernel : (0 : Int32).toInt = 0) c_3
                have F_1720 := fnlt (by decide +kernel : (4 : Int32).toInt = 4) (rfl : (p2 : Int32).toInt = (p2 : Int32).toInt) c_118
                have F_1721 := fnlt (rfl : (p3 : Int32).toInt = (p3 : Int32).toInt) (by decide +kernel : (0 : Int32).toInt = 0) c_241
                have F_1722 := fnle (rfl : (p3 : Int32).toInt = (p3 : Int32).toInt) (by decide +kernel : (4 : Int32).toInt = 4) c_372
                have F_1723 := feq (rfl : (p3 : Int32).toInt = (p3 : Int32).toInt) (by decide +kernel : (1 : Int32).toInt = 1) c_1593
                have F_1724 := fne (by decide +kernel : (1 : Int32).toInt = 1) (by decide +kernel : (0 : Int32).toInt = 0) c_1660
                have F_1725 := feq (rfl : (p3 : Int32).toInt = (p3 : Int32).toInt) (by decide +kernel : (3 : Int32).toInt = 3) c_1661
                have F_1726 := fne (by decide +kernel : (1 : Int32).toInt = 1) (by decide +kernel : (0 : Int32).toInt = 0) c_1695
                have F_1727 := feq (rfl : (p3 : Int32).toInt = (p3 : Int32).toInt) (by decide +kernel : (4 : Int32).toInt = 4) c_1696
                have F_1728 := fne (by decide +kernel : (1 : Int32).toInt = 1) (by decide +kernel : (0 : Int32).toInt = 0) c_1713
                have F_1729 := fne (by decide +kernel : (1 : Int32).toInt = 1) (by decide +kernel : (0 : Int32).toInt = 0) c_1714
                have F_1730 := fne (by decide +kernel : (1 : Int32).toInt = 1) (by decide +kernel : (0 : Int32).toInt = 0) c_1715
                exact W.zret (v := 0) (ty := .boolean) hx hb hr rfl (fun t ht hW => ⟨⟨0, d_1717, rfl, ⟨hgd_1717, (fun _ => hPod_1717), hfd_1717, ⟨hId_1717, Or.inl ⟨by have h0_ : (0 : Int32).toInt = 0 := (by decide +kernel); omega, by omega, (zTr.ag (zTr.ag zTr.rf hSh hm_h0 hk_h0 hsd_1 (by decide)) hSh hm_h0 hk_h0 hgad_1717 (by decide))⟩⟩⟩, by rw [ht]; exact hP, hD⟩, hS.F ht⟩) hS.2.2 dX9_term_176
theorem dX9_yields_0 : decode cX9_yields 0 = .ok (.aload_n 0, 1) := by decide +kernel
theorem dX9_yields_1 : decode cX9_yields 1 = .ok (.iconst 0, 1) := by decide +kernel
theorem dX9_yields_2 : decode cX9_yields 2 = .ok (.putfield 147, 3) := by decide +kernel
theorem dX9_yields_5 : decode cX9_yields 5 = .ok (.iload_n 3, 1) := by decide +kernel
theorem dX9_yields_6 : decode cX9_yields 6 = .ok (.ifCond .lt 9, 3) := by decide +kernel
theorem dX9_yields_9 : decode cX9_yields 9 = .ok (.iload_n 3, 1) := by decide +kernel
theorem dX9_yields_10 : decode cX9_yields 10 = .ok (.bipush 31, 2) := by decide +kernel
theorem dX9_yields_12 : decode cX9_yields 12 = .ok (.if_icmp .le 7, 3) := by decide +kernel
theorem dX9_yields_15 : decode cX9_yields 15 = .ok (.iconst 1, 1) := by decide +kernel
theorem dX9_yields_16 : decode cX9_yields 16 = .ok (.goto 9, 3) := by decide +kernel
theorem dX9_yields_19 : decode cX9_yields 19 = .ok (.aload_n 0, 1) := by decide +kernel
theorem dX9_yields_20 : decode cX9_yields 20 = .ok (.iload_n 1, 1) := by decide +kernel
theorem dX9_yields_21 : decode cX9_yields 21 = .ok (.iload_n 2, 1) := by decide +kernel
theorem dX9_yields_22 : decode cX9_yields 22 = .ok (.invokevirtual 175, 3) := by decide +kernel
theorem dX9_yields_25 : decode cX9_yields 25 = .ok (.istore 4, 2) := by decide +kernel
theorem dX9_yields_27 : decode cX9_yields 27 = .ok (.iload 4, 2) := by decide +kernel
theorem dX9_yields_29 : decode cX9_yields 29 = .ok (.ifCond .eq 10, 3) := by decide +kernel
theorem dX9_yields_32 : decode cX9_yields 32 = .ok (.aload_n 0, 1) := by decide +kernel
theorem dX9_yields_33 : decode cX9_yields 33 = .ok (.iload 4, 2) := by decide +kernel
theorem dX9_yields_35 : decode cX9_yields 35 = .ok (.invokevirtual 168, 3) := by decide +kernel
theorem dX9_yields_38 : decode cX9_yields 38 = .ok (.ireturn, 1) := by decide +kernel
theorem dX9_yields_39 : decode cX9_yields 39 = .ok (.aload_n 0, 1) := by decide +kernel
theorem dX9_yields_40 : decode cX9_yields 40 = .ok (.getfield 30, 3) := by decide +kernel
theorem dX9_yields_43 : decode cX9_yields 43 = .ok (.bipush 60, 2) := by decide +kernel
theorem dX9_yields_45 : decode cX9_yields 45 = .ok (.iload_n 1, 1) := by decide +kernel
theorem dX9_yields_46 : decode cX9_yields 46 = .ok (.imul, 1) := by decide +kernel
theorem dX9_yields_47 : decode cX9_yields 47 = .ok (.iload_n 2, 1) := by decide +kernel
theorem dX9_yields_48 : decode cX9_yields 48 = .ok (.iadd, 1) := by decide +kernel
theorem dX9_yields_49 : decode cX9_yields 49 = .ok (.baload, 1) := by decide +kernel
theorem dX9_yields_50 : decode cX9_yields 50 = .ok (.istore 5, 2) := by decide +kernel
theorem dX9_yields_52 : decode cX9_yields 52 = .ok (.aload_n 0, 1) := by decide +kernel
theorem dX9_yields_53 : decode cX9_yields 53 = .ok (.getfield 30, 3) := by decide +kernel
theorem dX9_yields_56 : decode cX9_yields 56 = .ok (.bipush 60, 2) := by decide +kernel
theorem dX9_yields_58 : decode cX9_yields 58 = .ok (.iload_n 1, 1) := by decide +kernel
theorem dX9_yields_59 : decode cX9_yields 59 = .ok (.imul, 1) := by decide +kernel
theorem dX9_yields_60 : decode cX9_yields 60 = .ok (.iload_n 2, 1) := by decide +kernel
theorem dX9_yields_61 : decode cX9_yields 61 = .ok (.iadd, 1) := by decide +kernel
theorem dX9_yields_62 : decode cX9_yields 62 = .ok (.iload_n 3, 1) := by decide +kernel
theorem dX9_yields_63 : decode cX9_yields 63 = .ok (.i2b, 1) := by decide +kernel
theorem dX9_yields_64 : decode cX9_yields 64 = .ok (.bastore, 1) := by decide +kernel
theorem dX9_yields_65 : decode cX9_yields 65 = .ok (.iload 5, 2) := by decide +kernel
theorem dX9_yields_67 : decode cX9_yields 67 = .ok (.ireturn, 1) := by decide +kernel
set_option maxHeartbeats 4000000 in
set_option maxRecDepth 100000 in
theorem g_X9_yields (l : Launch) (G : xG) (S : yS) (d : yD) (h0 : Nat) (p0 : Int32) (p1 : Int32) (p2 : Int32) (hSh : ySh S) (hPo : yPo S d) (hm_h0 : h0 ∈ S.1) (hk_h0 : S.2.1 h0 = 9) (hI : yMI S d h0) : xWi l G yX9_yields cX9_yields 6 (some .int) 3 66 0 0 [.ref h0, .int p0, .int p1, .int p2] (yW G S d) (fun r (u : yD) => yAg S [9, 39, 69] d u ∧ (yPo S d → yPo S u) ∧ yK [38] d u h0 ∧ (yMI S u h0 ∧ ((r.toInt = -1 ∧ ¬ ((((0 ≤ p0.toInt ∧ p0.toInt ≤ 39 ∧ p0.toInt < (d.1 h0 0).toInt) ∧ 0 ≤ p1.toInt ∧ p1.toInt ≤ 59) ∧ (yCe S d h0 4 p0 p1).toInt ≠ 0 ∧ (yCe S d h0 4 p0 p1).toInt ≠ 1) ∧ 0 ≤ p2.toInt ∧ p2.toInt ≤ 31) ∧ zTr S u h0 (fun s => d.2.2.2.1 (S.2.2.1 h0 s))) ∨ (((((0 ≤ p0.toInt ∧ p0.toInt ≤ 39 ∧ p0.toInt < (d.1 h0 0).toInt) ∧ 0 ≤ p1.toInt ∧ p1.toInt ≤ 59) ∧ (yCe S d h0 4 p0 p1).toInt ≠ 0 ∧ (yCe S d h0 4 p0 p1).toInt ≠ 1) ∧ 0 ≤ p2.toInt ∧ p2.toInt ≤ 31) ∧ r = yCe S d h0 9 p0 p1 ∧ zTr S u h0 (fun s => if s = 9 then upd (d.2.2.2.1 (S.2.2.1 h0 9)) (60 * p0.toInt.toNat + p1.toInt.toNat) (vp_nar .byte p2.toInt8.toInt32) else d.2.2.2.1 (S.2.2.1 h0 s)))))) (fun u => yW G S u) := by
  intro sz
  refine xstart (by decide) (Nat.le_of_ble_eq_true rfl) (fun p e s m args below meth c ls C0 hr hlocks hin hsz hP hK hD hN hl => ?_)
  obtain ⟨hx, hb, hml, hown, htl⟩ := id C0
  subst hsz
  have hD := hD.self (sz := s.heap.size)
  generalize hAe : va_A (yW G S d) s.heap.size = A at hD ⊢
  have hA : ∀ q : Nat, s.heap.size ≤ q → A q := fun q h => by rw [← hAe]; exact Or.inr h
  have hS : va_S A s.heap s.heap [] := va_S.rf
  have hg0 : yAg S [9, 39, 69] d d := yAg.rf
  have hl : lv_has ls 6 [(0, .ref h0), (1, .int p0), (2, .int p1), (3, .int p2)] := hl
  refine lv_aload_n hx hb dX9_yields_0 rfl (lv_at hl 0 rfl) ?_
  refine lv_iconst (v := 0) hx hb dX9_yields_1 (by decide) ?_
  refine yputI (ci := 9) (k := 38) (ty := .int) (C := RX9) (T := TX9) (N := 67) C0 hK hP hD hS hm_h0 hk_h0 (by decide) rfl inlX9 tyX9 tyX9_ok nmX9 (by decide) mW175 (fun _ h9 => h9) rfl (by decide +kernel) rfl rfl (Nat.le_of_ble_eq_true rfl) ysi_9_38 dX9_yields_2 (fun H locs hP hD hS => ?_)
  obtain ⟨d_1, ed_1⟩ : ∃ z : yD, z = yi d h0 38 0 := ⟨_, rfl⟩
  rw [← ed_1] at hP hD
  have hgd_1 : yAg S [9, 39, 69] d d_1 := by rw [ed_1]; exact yAg.i hg0 (by rw [hk_h0]; decide)
  have hsd_1 : yAg S [9] d d_1 := by rw [ed_1]; exact yAg.i yAg.rf (by rw [hk_h0]; decide)
  have hPod_1 : yPo S d_1 := by rw [ed_1]; exact yPo.i hPo hk_h0 (Or.inl rfl)
  have hfd_1 : yK [38] d d_1 h0 := by rw [ed_1]; exact yK.i yK.rf (by decide)
  have hId_1 : yMI S d_1 h0 := yMI.ag hI hSh hm_h0 hk_h0 (show yAg S [9] d d_1 from by rw [ed_1]; exact yAg.i yAg.rf (by rw [hk_h0]; decide)) (show yK [38] d d_1 h0 from by rw [ed_1]; exact yK.i yK.rf (by decide)) (by decide) (by decide)
  have hE0d_1 : (d_1.1 h0 0).toInt = (d.1 h0 0).toInt := congrArg Int32.toInt ((show yK [38] d d_1 h0 from by rw [ed_1]; exact yK.i yK.rf (by decide)) 0 (by decide))
  have hE1d_1 : (d_1.1 h0 1).toInt = (d.1 h0 1).toInt := congrArg Int32.toInt ((show yK [38] d d_1 h0 from by rw [ed_1]; exact yK.i yK.rf (by decide)) 1 (by decide))
  have hE2d_1 : (d_1.1 h0 2).toInt = (d.1 h0 2).toInt := congrArg Int32.toInt ((show yK [38] d d_1 h0 from by rw [ed_1]; exact yK.i yK.rf (by decide)) 2 (by decide))
  have hE3d_1 : (d_1.1 h0 3).toInt = (d.1 h0 3).toInt := congrArg Int32.toInt ((show yK [38] d d_1 h0 from by rw [ed_1]; exact yK.i yK.rf (by decide)) 3 (by decide))
  have hE63d_1 : (d_1.1 h0 63).toInt = (d.1 h0 63).toInt := congrArg Int32.toInt ((show yK [38] d d_1 h0 from by rw [ed_1]; exact yK.i yK.rf (by decide)) 63 (by decide))
  refine lv_iload_n hx hb dX9_yields_5 rfl (lv_at hl 3 rfl) ?_
  refine lv_if_lt (tgt := 15) hx hb dX9_yields_6 (by decide) (fun c_2 => ?_) (fun c_2 => ?_)
  · refine lv_iconst (v := 1) hx hb dX9_yields_15 (by decide) ?_
    refine lv_goto (tgt := 25) hx hb dX9_yields_16 (by decide) ?_
    refine lv_istore (lv' := [(4, .int 1), (0, .ref h0), (1, .int p0), (2, .int p1), (3, .int p2)]) hx hb dX9_yields_25 hl (by decide) rfl (fun ls hl => ?_)
    refine lv_iload hx hb dX9_yields_27 (lv_at hl 0 rfl) ?_
    refine lv_if_eq (tgt := 39) hx hb dX9_yields_29 (by decide) (fun c_3 => absurd c_3 (by decide +kernel)) (fun c_3 => ?_)
    refine lv_aload_n hx hb dX9_yields_32 rfl (lv_at hl 1 rfl) ?_
    refine lv_iload hx hb dX9_yields_33 (lv_at hl 0 rfl) ?_
    refine yVwi (As := [.int 1]) (rest := []) C0 (g_X9_no l G S d_1 h0 1 hSh hPod_1 hm_h0 hk_h0 (by decide +kernel)) ok_X9_no (mW177 : Cond.methodLink RX9 168 yX9_no ∈ wsT) ⟨Nat.le_of_ble_eq_true rfl, Nat.le_of_ble_eq_true rfl⟩ hP hD hS hA hK hN hm_h0 hk_h0 (by decide) rfl rfl rfl hl.1 rfl (Nat.le_of_ble_eq_true rfl) ⟨Nat.le_of_ble_eq_true rfl, Nat.le_of_ble_eq_true rfl⟩ dX9_yields_35 (fun r_4 d_5 H locs hr_4 hP hD hS => ?_)
    obtain ⟨hgad_5, hpad_5, hfad_5, hxd_5⟩ := hr_4
    have hfd_5 : yK [38] d d_5 h0 := yK.tr hfd_1 hfad_5 (by decide)
    have hE0d_5 : (d_5.1 h0 0).toInt = (d_1.1 h0 0).toInt := congrArg Int32.toInt (hfad_5 0 (by decide))
    have hE1d_5 : (d_5.1 h0 1).toInt = (d_1.1 h0 1).toInt := congrArg Int32.toInt (hfad_5 1 (by decide))
    have hE2d_5 : (d_5.1 h0 2).toInt = (d_1.1 h0 2).toInt := congrArg Int32.toInt (hfad_5 2 (by decide))
    have hE3d_5 : (d_5.1 h0 3).toInt = (d_1.1 h0 3).toInt := congrArg Int32.toInt (hfad_5 3 (by decide))
    have hE63d_5 : (d_5.1 h0 63).toInt = (d_1.1 h0 63).toInt := congrArg Int32.toInt (hfad_5 63 (by decide))
    have hId_5 : yMI S d_5 h0 := yMI.ag hId_1 hSh hm_h0 hk_h0 hgad_5 hfad_5 (by decide) (by decide)
    have hgd_5 : yAg S [9, 39, 69] d d_5 := yAg.tr hgd_1 hgad_5 (by first | decide | exact fun _ h => h)
    have hPod_5 : yPo S d_5 := hpad_5 hPod_1
    have hm1r_4 : (r_4 : Int32).toInt = -1 := by rw [hxd_5]; decide +kernel
    have hCC_6 := yMI.c hId_5
    have F_7 := flt (rfl : (p2 : Int32).toInt = (p2 : Int32).toInt) (by decide +kernel : (0 : Int32).toInt = 0) c_2
    have F_8 := fne (by decide +kernel : (1 : Int32).toInt = 1) (by decide +kernel : (0 : Int32).toInt = 0) c_3
    exact W.iret (v := r_4) hx hb hr (fun t ht hW => ⟨⟨r_4, d_5, rfl, ⟨hgd_5, (fun _ => hPod_5), hfd_5, ⟨hId_5, Or.inl ⟨by omega, by omega, (zTr.ag (zTr.ag zTr.rf hSh hm_h0 hk_h0 hsd_1 (by decide)) hSh hm_h0 hk_h0 hgad_5 (by decide))⟩⟩⟩, by rw [ht]; exact hP, hD⟩, hS.F ht⟩) hS.2.2 dX9_yields_38
  · refine lv_iload_n hx hb dX9_yields_9 rfl (lv_at hl 3 rfl) ?_
    refine lv_bipush (v := 31) hx hb dX9_yields_10 (by decide) ?_
    refine lv_icmp_le (tgt := 19) hx hb dX9_yields_12 (by decide) (fun c_9 => ?_) (fun c_9 => ?_)
    · refine lv_aload_n hx hb dX9_yields_19 rfl (lv_at hl 0 rfl) ?_
      refine lv_iload_n hx hb dX9_yields_20 rfl (lv_at hl 1 rfl) ?_
      refine lv_iload_n hx hb dX9_yields_21 rfl (lv_at hl 2 rfl) ?_
      refine yVri (As := [.int p0, .int p1]) (rest := []) C0 (g_X9_termWhy l G S d_1 h0 p0 p1 hSh hm_h0 hk_h0) ok_X9_termWhy (mW248 : Cond.methodLink RX9 175 yX9_termWhy ∈ wsT) ⟨Nat.le_of_ble_eq_true rfl, Nat.le_of_ble_eq_true rfl⟩ hP hD hK hN hm_h0 hk_h0 (by decide) rfl rfl rfl hl.1 rfl (Nat.le_of_ble_eq_true rfl) ⟨Nat.le_of_ble_eq_true rfl, Nat.le_of_ble_eq_true rfl⟩ dX9_yields_22 (fun r_10 hr_10 => ?_)
      refine lv_istore (lv' := [(4, .int r_10), (0, .ref h0), (1, .int p0), (2, .int p1), (3, .int p2)]) hx hb dX9_yields_25 hl (by decide) rfl (fun ls hl => ?_)
      refine lv_iload hx hb dX9_yields_27 (lv_at hl 0 rfl) ?_
      refine lv_if_eq (tgt := 39) hx hb dX9_yields_29 (by decide) (fun c_11 => ?_) (fun c_11 => ?_)
      · refine lv_aload_n hx hb dX9_yields_39 rfl (lv_at hl 1 rfl) ?_
        refine yget (ci := 9) (k := 9) (v := .ref (S.2.2.1 h0 9)) (C := RX9) (T := TX9) (N := 67) C0 hK hP hm_h0 hk_h0 (by decide) rfl inlX9 (by decide) mW113 (fun _ h9 => h9) rfl dX9_yields_40 ?_
        obtain ⟨hmy_12, hky_12⟩ := ySh.f9_9 hSh _ hm_h0 hk_h0
        refine lv_bipush (v := 60) hx hb dX9_yields_43 (by decide) ?_
        refine lv_iload_n hx hb dX9_yields_45 rfl (lv_at hl 2 rfl) ?_
        refine lv_imul hx hb dX9_yields_46 ?_
        refine lv_topi (fun z_13 ez_13 => ?_)
        refine lv_iload_n hx hb dX9_yields_47 rfl (lv_at hl 3 rfl) ?_
        refine lv_iadd hx hb dX9_yields_48 ?_
        refine lv_topi (fun z_14 ez_14 => ?_)
        have hCC_15 := yMI.c hId_1
        have F_16 := fnlt (rfl : (p2 : Int32).toInt = (p2 : Int32).toInt) (by decide +kernel : (0 : Int32).toInt = 0) c_2
        have F_17 := fle (rfl : (p2 : Int32).toInt = (p2 : Int32).toInt) (by decide +kernel : (31 : Int32).toInt = 31) c_9
        have F_18 := feq (rfl : (r_10 : Int32).toInt = (r_10 : Int32).toInt) (by decide +kernel : (0 : Int32).toInt = 0) c_11
        have T_20 : (z_13 : Int32).toInt = 60 * (p0 : Int32).toInt := tmul ez_13 (by decide +kernel : (60 : Int32).toInt = 60) (rfl : (p0 : Int32).toInt = (p0 : Int32).toInt) (by omega) (by omega)
        have T_19 : (z_14 : Int32).toInt = (z_13 : Int32).toInt + (p1 : Int32).toInt := tadd ez_14 (rfl : (z_13 : Int32).toInt = (z_13 : Int32).toInt) (rfl : (p1 : Int32).toInt = (p1 : Int32).toInt) (by omega) (by omega)
        refine yaldB C0 hK hP hmy_12 hky_12 (by decide) rfl 1 rfl (xinT 2400 rfl (by omega) (by omega)) dX9_yields_49 ?_
        refine lv_topi (fun z_21 ez_21 => ?_)
        refine lv_istore (lv' := [(5, .int z_21), (4, .int r_10), (0, .ref h0), (1, .int p0), (2, .int p1), (3, .int p2)]) hx hb dX9_yields_50 hl (by decide) rfl (fun ls hl => ?_)
        refine lv_aload_n hx hb dX9_yields_52 rfl (lv_at hl 2 rfl) ?_
        refine yget (ci := 9) (k := 9) (v := .ref (S.2.2.1 h0 9)) (C := RX9) (T := TX9) (N := 67) C0 hK hP hm_h0 hk_h0 (by decide) rfl inlX9 (by decide) mW113 (fun _ h9 => h9) rfl dX9_yields_53 ?_
        refine lv_bipush (v := 60) hx hb dX9_yields_56 (by decide) ?_
        refine lv_iload_n hx hb dX9_yields_58 rfl (lv_at hl 3 rfl) ?_
        refine lv_imul hx hb dX9_yields_59 ?_
        refine lv_topi (fun z_22 ez_22 => ?_)
        refine lv_iload_n hx hb dX9_yields_60 rfl (lv_at hl 4 rfl) ?_
        refine lv_iadd hx hb dX9_yields_61 ?_
        refine lv_topi (fun z_23 ez_23 => ?_)
        refine lv_iload_n hx hb dX9_yields_62 rfl (lv_at hl 5 rfl) ?_
        refine lv_i2b hx hb dX9_yields_63 rfl ?_
        refine lv_topi (fun z_24 ez_24 => ?_)
        have T_26 : (z_22 : Int32).toInt = 60 * (p0 : Int32).toInt := tmul ez_22 (by decide +kernel : (60 : Int32).toInt = 60) (rfl : (p0 : Int32).toInt = (p0 : Int32).toInt) (by omega) (by omega)
        have T_25 : (z_23 : Int32).toInt = (z_22 : Int32).toInt + (p1 : Int32).toInt := tadd ez_23 (rfl : (z_22 : Int32).toInt = (z_22 : Int32).toInt) (rfl : (p1 : Int32).toInt = (p1 : Int32).toInt) (by omega) (by omega)
        refine yastB C0 hK hP hD hS hmy_12 hky_12 (by decide) rfl 1 rfl (xinT 2400 rfl (by omega) (by omega)) dX9_yields_64 (fun H locs hP hD hS => ?_)
        obtain ⟨d_27, ed_27⟩ : ∃ z : yD, z = ycs d_1 (S.2.2.1 h0 9) (upd (d_1.2.2.2.1 (S.2.2.1 h0 9)) (z_23 : Int32).toNatClampNeg (vp_nar .byte z_24)) := ⟨_, rfl⟩
        rw [← ed_27] at hP hD
        have hgd_27 : yAg S [9, 39, 69] d d_27 := by rw [ed_27]; exact yAg.cs hgd_1 (by rw [hky_12]; decide)
        have hsd_27 : yAg S [39] d_1 d_27 := by rw [ed_27]; exact yAg.cs yAg.rf (by rw [hky_12]; decide)
        have hPod_27 : yPo S d_27 := by rw [ed_27]; exact hPod_1
        have hfd_27 : yK [38] d d_27 h0 := yK.ag hfd_1 (show yAg S [39] d_1 d_27 from by rw [ed_27]; exact yAg.cs yAg.rf (by rw [hky_12]; decide)) (by rw [hk_h0]; decide)
        have hId_27 : yMI S d_27 h0 := yMI.ag hId_1 hSh hm_h0 hk_h0 (show yAg S [39] d_1 d_27 from by rw [ed_27]; exact yAg.cs yAg.rf (by rw [hky_12]; decide)) (yK.ag (F := []) yK.rf (show yAg S [39] d_1 d_27 from by rw [ed_27]; exact yAg.cs yAg.rf (by rw [hky_12]; decide)) (by rw [hk_h0]; decide)) (by decide) (by decide)
        have hE0d_27 : (d_27.1 h0 0).toInt = (d_1.1 h0 0).toInt := congrArg Int32.toInt ((yK.ag (F := []) yK.rf (show yAg S [39] d_1 d_27 from by rw [ed_27]; exact yAg.cs yAg.rf (by rw [hky_12]; decide)) (by rw [hk_h0]; decide)) 0 (by decide))
        have hE1d_27 : (d_27.1 h0 1).toInt = (d_1.1 h0 1).toInt := congrArg Int32.toInt ((yK.ag (F := []) yK.rf (show yAg S [39] d_1 d_27 from by rw [ed_27]; exact yAg.cs yAg.rf (by rw [hky_12]; decide)) (by rw [hk_h0]; decide)) 1 (by decide))
        have hE2d_27 : (d_27.1 h0 2).toInt = (d_1.1 h0 2).toInt := congrArg Int32.toInt ((yK.ag (F := []) yK.rf (show yAg S [39] d_1 d_27 from by rw [ed_27]; exact yAg.cs yAg.rf (by rw [hky_12]; decide)) (by rw [hk_h0]; decide)) 2 (by decide))
        have hE3d_27 : (d_27.1 h0 3).toInt = (d_1.1 h0 3).toInt := congrArg Int32.toInt ((yK.ag (F := []) yK.rf (show yAg S [39] d_1 d_27 from by rw [ed_27]; exact yAg.cs yAg.rf (by rw [hky_12]; decide)) (by rw [hk_h0]; decide)) 3 (by decide))
        have hE63d_27 : (d_27.1 h0 63).toInt = (d_1.1 h0 63).toInt := congrArg Int32.toInt ((yK.ag (F := []) yK.rf (show yAg S [39] d_1 d_27 from by rw [ed_27]; exact yAg.cs yAg.rf (by rw [hky_12]; decide)) (by rw [hk_h0]; decide)) 63 (by decide))
        refine lv_iload hx hb dX9_yields_65 (lv_at hl 0 rfl) ?_
        have hCC_28 := yMI.c hId_27
        have hrcd_1 : yCe S d_1 h0 4 p0 p1 = yCe S d h0 4 p0 p1 := by unfold yCe; rw [show d_1.2.2.2.1 (S.2.2.1 h0 4) = d.2.2.2.1 (S.2.2.1 h0 4) from (hsd_1 _ (by rw [(ySh.f9_4 hSh h0 hm_h0 hk_h0).2]; decide)).2.2.2.1]
        have hrud_1 : (yCe S d_1 h0 4 p0 p1).toInt = (yCe S d h0 4 p0 p1).toInt := congrArg Int32.toInt hrcd_1
        have hcez_21 : z_21 = yCe S d_1 h0 9 p0 p1 := yCe_of (by omega) (by omega) (by omega) ez_21
        have hcdz_21 : yCe S d_1 h0 9 p0 p1 = yCe S d h0 9 p0 p1 := by unfold yCe; rw [show d_1.2.2.2.1 (S.2.2.1 h0 9) = d.2.2.2.1 (S.2.2.1 h0 9) from (hsd_1 _ (by rw [(ySh.f9_9 hSh h0 hm_h0 hk_h0).2]; decide)).2.2.2.1]
        have hctz_21 : (z_21 : Int32).toInt = (yCe S d h0 9 p0 p1).toInt := congrArg Int32.toInt (hcez_21.trans hcdz_21)
        rw [ez_24] at ed_27
        rw [show (z_23 : Int32).toNatClampNeg = (60 * p0.toInt.toNat + p1.toInt.toNat) from (show (z_23 : Int32).toInt.toNat = _ by omega), show d_1.2.2.2.1 (S.2.2.1 h0 9) = d.2.2.2.1 (S.2.2.1 h0 9) from (hsd_1 _ (by rw [(ySh.f9_9 hSh h0 hm_h0 hk_h0).2]; decide)).2.2.2.1] at ed_27
        exact W.iret (v := z_21) hx hb hr (fun t ht hW => ⟨⟨z_21, d_27, rfl, ⟨hgd_27, (fun _ => hPod_27), hfd_27, ⟨hId_27, Or.inr ⟨by omega, (hcez_21.trans hcdz_21), (zTr.put (zTr.ag zTr.rf hSh hm_h0 hk_h0 hsd_1 (by decide)) hSh hm_h0 hk_h0 (by decide) (by decide) ed_27)⟩⟩⟩, by rw [ht]; exact hP, hD⟩, hS.F ht⟩) hS.2.2 dX9_yields_67
      · refine lv_aload_n hx hb dX9_yields_32 rfl (lv_at hl 1 rfl) ?_
        refine lv_iload hx hb dX9_yields_33 (lv_at hl 0 rfl) ?_
        have F_29 := fnlt (rfl : (p2 : Int32).toInt = (p2 : Int32).toInt) (by decide +kernel : (0 : Int32).toInt = 0) c_2
        have F_30 := fle (rfl : (p2 : Int32).toInt = (p2 : Int32).toInt) (by decide +kernel : (31 : Int32).toInt = 31) c_9
        have F_31 := fne (rfl : (r_10 : Int32).toInt = (r_10 : Int32).toInt) (by decide +kernel : (0 : Int32).toInt = 0) c_11
        refine yVwi (As := [.int r_10]) (rest := []) C0 (g_X9_no l G S d_1 h0 r_10 hSh hPod_1 hm_h0 hk_h0 (by refine ⟨?_, ?_⟩ <;> omega)) ok_X9_no (mW177 : Cond.methodLink RX9 168 yX9_no ∈ wsT) ⟨Nat.le_of_ble_eq_true rfl, Nat.le_of_ble_eq_true rfl⟩ hP hD hS hA hK hN hm_h0 hk_h0 (by decide) rfl rfl rfl hl.1 rfl (Nat.le_of_ble_eq_true rfl) ⟨Nat.le_of_ble_eq_true rfl, Nat.le_of_ble_eq_true rfl⟩ dX9_yields_35 (fun r_32 d_33 H locs hr_32 hP hD hS => ?_)
        obtain ⟨hgad_33, hpad_33, hfad_33, hxd_33⟩ := hr_32
        have hfd_33 : yK [38] d d_33 h0 := yK.tr hfd_1 hfad_33 (by decide)
        have hE0d_33 : (d_33.1 h0 0).toInt = (d_1.1 h0 0).toInt := congrArg Int32.toInt (hfad_33 0 (by decide))
        have hE1d_33 : (d_33.1 h0 1).toInt = (d_1.1 h0 1).toInt := congrArg Int32.toInt (hfad_33 1 (by decide))
        have hE2d_33 : (d_33.1 h0 2).toInt = (d_1.1 h0 2).toInt := congrArg Int32.toInt (hfad_33 2 (by decide))
        have hE3d_33 : (d_33.1 h0 3).toInt = (d_1.1 h0 3).toInt := congrArg Int32.toInt (hfad_33 3 (by decide))
        have hE63d_33 : (d_33.1 h0 63).toInt = (d_1.1 h0 63).toInt := congrArg Int32.toInt (hfad_33 63 (by decide))
        have hId_33 : yMI S d_33 h0 := yMI.ag hId_1 hSh hm_h0 hk_h0 hgad_33 hfad_33 (by decide) (by decide)
        have hgd_33 : yAg S [9, 39, 69] d d_33 := yAg.tr hgd_1 hgad_33 (by first | decide | exact fun _ h => h)
        have hPod_33 : yPo S d_33 := hpad_33 hPod_1
        have hm1r_32 : (r_32 : Int32).toInt = -1 := by rw [hxd_33]; decide +kernel
        have hCC_34 := yMI.c hId_33
        have hrcd_1 : yCe S d_1 h0 4 p0 p1 = yCe S d h0 4 p0 p1 := by unfold yCe; rw [show d_1.2.2.2.1 (S.2.2.1 h0 4) = d.2.2.2.1 (S.2.2.1 h0 4) from (hsd_1 _ (by rw [(ySh.f9_4 hSh h0 hm_h0 hk_h0).2]; decide)).2.2.2.1]
        have hrud_1 : (yCe S d_1 h0 4 p0 p1).toInt = (yCe S d h0 4 p0 p1).toInt := congrArg Int32.toInt hrcd_1
        exact W.iret (v := r_32) hx hb hr (fun t ht hW => ⟨⟨r_32, d_33, rfl, ⟨hgd_33, (fun _ => hPod_33), hfd_33, ⟨hId_33, Or.inl ⟨by omega, by omega, (zTr.ag (zTr.ag zTr.rf hSh hm_h0 hk_h0 hsd_1 (by decide)) hSh hm_h0 hk_h0 hgad_33 (by decide))⟩⟩⟩, by rw [ht]; exact hP, hD⟩, hS.F ht⟩) hS.2.2 dX9_yields_38
    · refine lv_iconst (v := 1) hx hb dX9_yields_15 (by decide) ?_
      refine lv_goto (tgt := 25) hx hb dX9_yields_16 (by decide) ?_
      refine lv_istore (lv' := [(4, .int 1), (0, .ref h0), (1, .int p0), (2, .int p1), (3, .int p2)]) hx hb dX9_yields_25 hl (by decide) rfl (fun ls hl => ?_)
      refine lv_iload hx hb dX9_yields_27 (lv_at hl 0 rfl) ?_
      refine lv_if_eq (tgt := 39) hx hb dX9_yields_29 (by decide) (fun c_35 => absurd c_35 (by decide +kernel)) (fun c_35 => ?_)
      refine lv_aload_n hx hb dX9_yields_32 rfl (lv_at hl 1 rfl) ?_
      refine lv_iload hx hb dX9_yields_33 (lv_at hl 0 rfl) ?_
      refine yVwi (As := [.int 1]) (rest := []) C0 (g_X9_no l G S d_1 h0 1 hSh hPod_1 hm_h0 hk_h0 (by decide +kernel)) ok_X9_no (mW177 : Cond.methodLink RX9 168 yX9_no ∈ wsT) ⟨Nat.le_of_ble_eq_true rfl, Nat.le_of_ble_eq_true rfl⟩ hP hD hS hA hK hN hm_h0 hk_h0 (by decide) rfl rfl rfl hl.1 rfl (Nat.le_of_ble_eq_true rfl) ⟨Nat.le_of_ble_eq_true rfl, Nat.le_of_ble_eq_true rfl⟩ dX9_yields_35 (fun r_36 d_37 H locs hr_36 hP hD hS => ?_)
      obtain ⟨hgad_37, hpad_37, hfad_37, hxd_37⟩ := hr_36
      have hfd_37 : yK [38] d d_37 h0 := yK.tr hfd_1 hfad_37 (by decide)
      have hE0d_37 : (d_37.1 h0 0).toInt = (d_1.1 h0 0).toInt := congrArg Int32.toInt (hfad_37 0 (by decide))
      have hE1d_37 : (d_37.1 h0 1).toInt = (d_1.1 h0 1).toInt := congrArg Int32.toInt (hfad_37 1 (by decide))
      have hE2d_37 : (d_37.1 h0 2).toInt = (d_1.1 h0 2).toInt := congrArg Int32.toInt (hfad_37 2 (by decide))
      have hE3d_37 : (d_37.1 h0 3).toInt = (d_1.1 h0 3).toInt := congrArg Int32.toInt (hfad_37 3 (by decide))
      have hE63d_37 : (d_37.1 h0 63).toInt = (d_1.1 h0 63).toInt := congrArg Int32.toInt (hfad_37 63 (by decide))
      have hId_37 : yMI S d_37 h0 := yMI.ag hId_1 hSh hm_h0 hk_h0 hgad_37 hfad_37 (by decide) (by decide)
      have hgd_37 : yAg S [9, 39, 69] d d_37 := yAg.tr hgd_1 hgad_37 (by first | decide | exact fun _ h => h)
      have hPod_37 : yPo S d_37 := hpad_37 hPod_1
      have hm1r_36 : (r_36 : Int32).toInt = -1 := by rw [hxd_37]; decide +kernel
      have hCC_38 := yMI.c hId_37
      have F_39 := fnlt (rfl : (p2 : Int32).toInt = (p2 : Int32).toInt) (by decide +kernel : (0 : Int32).toInt = 0) c_2
      have F_40 := fnle (rfl : (p2 : Int32).toInt = (p2 : Int32).toInt) (by decide +kernel : (31 : Int32).toInt = 31) c_9
      have F_41 := fne (by decide +kernel : (1 : Int32).toInt = 1) (by decide +kernel : (0 : Int32).toInt = 0) c_35
      exact W.iret (v := r_36) hx hb hr (fun t ht hW => ⟨⟨r_36, d_37, rfl, ⟨hgd_37, (fun _ => hPod_37), hfd_37, ⟨hId_37, Or.inl ⟨by omega, by omega, (zTr.ag (zTr.ag zTr.rf hSh hm_h0 hk_h0 hsd_1 (by decide)) hSh hm_h0 hk_h0 hgad_37 (by decide))⟩⟩⟩, by rw [ht]; exact hP, hD⟩, hS.F ht⟩) hS.2.2 dX9_yields_38
theorem dX9_amount_0 : decode cX9_amount 0 = .ok (.aload_n 0, 1) := by decide +kernel
theorem dX9_amount_1 : decode cX9_amount 1 = .ok (.iconst 0, 1) := by decide +kernel
theorem dX9_amount_2 : decode cX9_amount 2 = .ok (.putfield 147, 3) := by decide +kernel
theorem dX9_amount_5 : decode cX9_amount 5 = .ok (.iload_n 3, 1) := by decide +kernel
theorem dX9_amount_6 : decode cX9_amount 6 = .ok (.ldc 178, 2) := by decide +kernel
theorem dX9_amount_8 : decode cX9_amount 8 = .ok (.if_icmp .lt 9, 3) := by decide +kernel
theorem dX9_amount_11 : decode cX9_amount 11 = .ok (.iload_n 3, 1) := by decide +kernel
theorem dX9_amount_12 : decode cX9_amount 12 = .ok (.ldc 179, 2) := by decide +kernel
theorem dX9_amount_14 : decode cX9_amount 14 = .ok (.if_icmp .le 7, 3) := by decide +kernel
theorem dX9_amount_17 : decode cX9_amount 17 = .ok (.iconst 1, 1) := by decide +kernel
theorem dX9_amount_18 : decode cX9_amount 18 = .ok (.goto 9, 3) := by decide +kernel
theorem dX9_amount_21 : decode cX9_amount 21 = .ok (.aload_n 0, 1) := by decide +kernel
theorem dX9_amount_22 : decode cX9_amount 22 = .ok (.iload_n 1, 1) := by decide +kernel
theorem dX9_amount_23 : decode cX9_amount 23 = .ok (.iload_n 2, 1) := by decide +kernel
theorem dX9_amount_24 : decode cX9_amount 24 = .ok (.invokevirtual 175, 3) := by decide +kernel
theorem dX9_amount_27 : decode cX9_amount 27 = .ok (.istore 4, 2) := by decide +kernel
theorem dX9_amount_29 : decode cX9_amount 29 = .ok (.iload 4, 2) := by decide +kernel
theorem dX9_amount_31 : decode cX9_amount 31 = .ok (.ifCond .eq 12, 3) := by decide +kernel
theorem dX9_amount_34 : decode cX9_amount 34 = .ok (.aload_n 0, 1) := by decide +kernel
theorem dX9_amount_35 : decode cX9_amount 35 = .ok (.iload 4, 2) := by decide +kernel
theorem dX9_amount_37 : decode cX9_amount 37 = .ok (.invokevirtual 168, 3) := by decide +kernel
theorem dX9_amount_40 : decode cX9_amount 40 = .ok (.pop, 1) := by decide +kernel
theorem dX9_amount_41 : decode cX9_amount 41 = .ok (.iconst 0, 1) := by decide +kernel
theorem dX9_amount_42 : decode cX9_amount 42 = .ok (.ireturn, 1) := by decide +kernel
theorem dX9_amount_43 : decode cX9_amount 43 = .ok (.aload_n 0, 1) := by decide +kernel
theorem dX9_amount_44 : decode cX9_amount 44 = .ok (.getfield 33, 3) := by decide +kernel
theorem dX9_amount_47 : decode cX9_amount 47 = .ok (.bipush 60, 2) := by decide +kernel
theorem dX9_amount_49 : decode cX9_amount 49 = .ok (.iload_n 1, 1) := by decide +kernel
theorem dX9_amount_50 : decode cX9_amount 50 = .ok (.imul, 1) := by decide +kernel
theorem dX9_amount_51 : decode cX9_amount 51 = .ok (.iload_n 2, 1) := by decide +kernel
theorem dX9_amount_52 : decode cX9_amount 52 = .ok (.iadd, 1) := by decide +kernel
theorem dX9_amount_53 : decode cX9_amount 53 = .ok (.iload_n 3, 1) := by decide +kernel
theorem dX9_amount_54 : decode cX9_amount 54 = .ok (.iastore, 1) := by decide +kernel
theorem dX9_amount_55 : decode cX9_amount 55 = .ok (.iconst 1, 1) := by decide +kernel
theorem dX9_amount_56 : decode cX9_amount 56 = .ok (.ireturn, 1) := by decide +kernel
set_option maxHeartbeats 4000000 in
set_option maxRecDepth 100000 in
theorem g_X9_amount (l : Launch) (G : xG) (S : yS) (d : yD) (h0 : Nat) (p0 : Int32) (p1 : Int32) (p2 : Int32) (hSh : ySh S) (hPo : yPo S d) (hm_h0 : h0 ∈ S.1) (hk_h0 : S.2.1 h0 = 9) (hI : yMI S d h0) : xWi l G yX9_amount cX9_amount 5 (some .boolean) 3 66 0 0 [.ref h0, .int p0, .int p1, .int p2] (yW G S d) (fun r (u : yD) => yAg S [9, 40, 69] d u ∧ (yPo S d → yPo S u) ∧ yK [38] d u h0 ∧ (yMI S u h0 ∧ ((r.toInt = 0 ∧ ¬ ((((0 ≤ p0.toInt ∧ p0.toInt ≤ 39 ∧ p0.toInt < (d.1 h0 0).toInt) ∧ 0 ≤ p1.toInt ∧ p1.toInt ≤ 59) ∧ (yCe S d h0 4 p0 p1).toInt ≠ 0 ∧ (yCe S d h0 4 p0 p1).toInt ≠ 1) ∧ -1000000 ≤ p2.toInt ∧ p2.toInt ≤ 1000000) ∧ zTr S u h0 (fun s => d.2.2.2.1 (S.2.2.1 h0 s))) ∨ (r.toInt = 1 ∧ ((((0 ≤ p0.toInt ∧ p0.toInt ≤ 39 ∧ p0.toInt < (d.1 h0 0).toInt) ∧ 0 ≤ p1.toInt ∧ p1.toInt ≤ 59) ∧ (yCe S d h0 4 p0 p1).toInt ≠ 0 ∧ (yCe S d h0 4 p0 p1).toInt ≠ 1) ∧ -1000000 ≤ p2.toInt ∧ p2.toInt ≤ 1000000) ∧ zTr S u h0 (fun s => if s = 10 then upd (d.2.2.2.1 (S.2.2.1 h0 10)) (60 * p0.toInt.toNat + p1.toInt.toNat) p2 else d.2.2.2.1 (S.2.2.1 h0 s)))))) (fun u => yW G S u) := by
  intro sz
  refine xstart (by decide) (Nat.le_of_ble_eq_true rfl) (fun p e s m args below meth c ls C0 hr hlocks hin hsz hP hK hD hN hl => ?_)
  obtain ⟨hx, hb, hml, hown, htl⟩ := id C0
  subst hsz
  have hD := hD.self (sz := s.heap.size)
  generalize hAe : va_A (yW G S d) s.heap.size = A at hD ⊢
  have hA : ∀ q : Nat, s.heap.size ≤ q → A q := fun q h => by rw [← hAe]; exact Or.inr h
  have hS : va_S A s.heap s.heap [] := va_S.rf
  have hg0 : yAg S [9, 40, 69] d d := yAg.rf
  have hl : lv_has ls 5 [(0, .ref h0), (1, .int p0), (2, .int p1), (3, .int p2)] := hl
  refine lv_aload_n hx hb dX9_amount_0 rfl (lv_at hl 0 rfl) ?_
  refine lv_iconst (v := 0) hx hb dX9_amount_1 (by decide) ?_
  refine yputI (ci := 9) (k := 38) (ty := .int) (C := RX9) (T := TX9) (N := 67) C0 hK hP hD hS hm_h0 hk_h0 (by decide) rfl inlX9 tyX9 tyX9_ok nmX9 (by decide) mW175 (fun _ h9 => h9) rfl (by decide +kernel) rfl rfl (Nat.le_of_ble_eq_true rfl) ysi_9_38 dX9_amount_2 (fun H locs hP hD hS => ?_)
  obtain ⟨d_1, ed_1⟩ : ∃ z : yD, z = yi d h0 38 0 := ⟨_, rfl⟩
  rw [← ed_1] at hP hD
  have hgd_1 : yAg S [9, 40, 69] d d_1 := by rw [ed_1]; exact yAg.i hg0 (by rw [hk_h0]; decide)
  have hsd_1 : yAg S [9] d d_1 := by rw [ed_1]; exact yAg.i yAg.rf (by rw [hk_h0]; decide)
  have hPod_1 : yPo S d_1 := by rw [ed_1]; exact yPo.i hPo hk_h0 (Or.inl rfl)
  have hfd_1 : yK [38] d d_1 h0 := by rw [ed_1]; exact yK.i yK.rf (by decide)
  have hId_1 : yMI S d_1 h0 := yMI.ag hI hSh hm_h0 hk_h0 (show yAg S [9] d d_1 from by rw [ed_1]; exact yAg.i yAg.rf (by rw [hk_h0]; decide)) (show yK [38] d d_1 h0 from by rw [ed_1]; exact yK.i yK.rf (by decide)) (by decide) (by decide)
  have hE0d_1 : (d_1.1 h0 0).toInt = (d.1 h0 0).toInt := congrArg Int32.toInt ((show yK [38] d d_1 h0 from by rw [ed_1]; exact yK.i yK.rf (by decide)) 0 (by decide))
  have hE1d_1 : (d_1.1 h0 1).toInt = (d.1 h0 1).toInt := congrArg Int32.toInt ((show yK [38] d d_1 h0 from by rw [ed_1]; exact yK.i yK.rf (by decide)) 1 (by decide))
  have hE2d_1 : (d_1.1 h0 2).toInt = (d.1 h0 2).toInt := congrArg Int32.toInt ((show yK [38] d d_1 h0 from by rw [ed_1]; exact yK.i yK.rf (by decide)) 2 (by decide))
  have hE3d_1 : (d_1.1 h0 3).toInt = (d.1 h0 3).toInt := congrArg Int32.toInt ((show yK [38] d d_1 h0 from by rw [ed_1]; exact yK.i yK.rf (by decide)) 3 (by decide))
  have hE63d_1 : (d_1.1 h0 63).toInt = (d.1 h0 63).toInt := congrArg Int32.toInt ((show yK [38] d d_1 h0 from by rw [ed_1]; exact yK.i yK.rf (by decide)) 63 (by decide))
  refine lv_iload_n hx hb dX9_amount_5 rfl (lv_at hl 3 rfl) ?_
  refine lv_ldc (v := (-1000000)) hx hb hown (htl (.constant RX9 178 (-1000000)) mW263) dX9_amount_6 ?_
  refine lv_icmp_lt (tgt := 17) hx hb dX9_amount_8 (by decide) (fun c_2 => ?_) (fun c_2 => ?_)
  · refine lv_iconst (v := 1) hx hb dX9_amount_17 (by decide) ?_
    refine lv_goto (tgt := 27) hx hb dX9_amount_18 (by decide) ?_
    refine lv_istore (lv' := [(4, .int 1), (0, .ref h0), (1, .int p0), (2, .int p1), (3, .int p2)]) hx hb dX9_amount_27 hl (by decide) rfl (fun ls hl => ?_)
    refine lv_iload hx hb dX9_amount_29 (lv_at hl 0 rfl) ?_
    refine lv_if_eq (tgt := 43) hx hb dX9_amount_31 (by decide) (fun c_3 => absurd c_3 (by decide +kernel)) (fun c_3 => ?_)
    refine lv_aload_n hx hb dX9_amount_34 rfl (lv_at hl 1 rfl) ?_
    refine lv_iload hx hb dX9_amount_35 (lv_at hl 0 rfl) ?_
    refine yVwi (As := [.int 1]) (rest := []) C0 (g_X9_no l G S d_1 h0 1 hSh hPod_1 hm_h0 hk_h0 (by decide +kernel)) ok_X9_no (mW177 : Cond.methodLink RX9 168 yX9_no ∈ wsT) ⟨Nat.le_of_ble_eq_true rfl, Nat.le_of_ble_eq_true rfl⟩ hP hD hS hA hK hN hm_h0 hk_h0 (by decide) rfl rfl rfl hl.1 rfl (Nat.le_of_ble_eq_true rfl) ⟨Nat.le_of_ble_eq_true rfl, Nat.le_of_ble_eq_true rfl⟩ dX9_amount_37 (fun r_4 d_5 H locs hr_4 hP hD hS => ?_)
    obtain ⟨hgad_5, hpad_5, hfad_5, hxd_5⟩ := hr_4
    have hfd_5 : yK [38] d d_5 h0 := yK.tr hfd_1 hfad_5 (by decide)
    have hE0d_5 : (d_5.1 h0 0).toInt = (d_1.1 h0 0).toInt := congrArg Int32.toInt (hfad_5 0 (by decide))
    have hE1d_5 : (d_5.1 h0 1).toInt = (d_1.1 h0 1).toInt := congrArg Int32.toInt (hfad_5 1 (by decide))
    have hE2d_5 : (d_5.1 h0 2).toInt = (d_1.1 h0 2).toInt := congrArg Int32.toInt (hfad_5 2 (by decide))
    have hE3d_5 : (d_5.1 h0 3).toInt = (d_1.1 h0 3).toInt := congrArg Int32.toInt (hfad_5 3 (by decide))
    have hE63d_5 : (d_5.1 h0 63).toInt = (d_1.1 h0 63).toInt := congrArg Int32.toInt (hfad_5 63 (by decide))
    have hId_5 : yMI S d_5 h0 := yMI.ag hId_1 hSh hm_h0 hk_h0 hgad_5 hfad_5 (by decide) (by decide)
    have hgd_5 : yAg S [9, 40, 69] d d_5 := yAg.tr hgd_1 hgad_5 (by first | decide | exact fun _ h => h)
    have hPod_5 : yPo S d_5 := hpad_5 hPod_1
    refine lv_pop hx hb dX9_amount_40 rfl ?_
    refine lv_iconst (v := 0) hx hb dX9_amount_41 (by decide) ?_
    have hCC_6 := yMI.c hId_5
    have F_7 := flt (rfl : (p2 : Int32).toInt = (p2 : Int32).toInt) (by decide +kernel : ((-1000000) : Int32).toInt = (-1000000)) c_2
    have F_8 := fne (by decide +kernel : (1 : Int32).toInt = 1) (by decide +kernel : (0 : Int32).toInt = 0) c_3
    exact W.zret (v := 0) (ty := .boolean) hx hb hr rfl (fun t ht hW => ⟨⟨0, d_5, rfl, ⟨hgd_5, (fun _ => hPod_5), hfd_5, ⟨hId_5, Or.inl ⟨by have h0_ : (0 : Int32).toInt = 0 := (by decide +kernel); omega, by omega, (zTr.ag (zTr.ag zTr.rf hSh hm_h0 hk_h0 hsd_1 (by decide)) hSh hm_h0 hk_h0 hgad_5 (by decide))⟩⟩⟩, by rw [ht]; exact hP, hD⟩, hS.F ht⟩) hS.2.2 dX9_amount_42
  · refine lv_iload_n hx hb dX9_amount_11 rfl (lv_at hl 3 rfl) ?_
    refine lv_ldc (v := 1000000) hx hb hown (htl (.constant RX9 179 (1000000)) mW264) dX9_amount_12 ?_
    refine lv_icmp_le (tgt := 21) hx hb dX9_amount_14 (by decide) (fun c_9 => ?_) (fun c_9 => ?_)
    · refine lv_aload_n hx hb dX9_amount_21 rfl (lv_at hl 0 rfl) ?_
      refine lv_iload_n hx hb dX9_amount_22 rfl (lv_at hl 1 rfl) ?_
      refine lv_iload_n hx hb dX9_amount_23 rfl (lv_at hl 2 rfl) ?_
      refine yVri (As := [.int p0, .int p1]) (rest := []) C0 (g_X9_termWhy l G S d_1 h0 p0 p1 hSh hm_h0 hk_h0) ok_X9_termWhy (mW248 : Cond.methodLink RX9 175 yX9_termWhy ∈ wsT) ⟨Nat.le_of_ble_eq_true rfl, Nat.le_of_ble_eq_true rfl⟩ hP hD hK hN hm_h0 hk_h0 (by decide) rfl rfl rfl hl.1 rfl (Nat.le_of_ble_eq_true rfl) ⟨Nat.le_of_ble_eq_true rfl, Nat.le_of_ble_eq_true rfl⟩ dX9_amount_24 (fun r_10 hr_10 => ?_)
      refine lv_istore (lv' := [(4, .int r_10), (0, .ref h0), (1, .int p0), (2, .int p1), (3, .int p2)]) hx hb dX9_amount_27 hl (by decide) rfl (fun ls hl => ?_)
      refine lv_iload hx hb dX9_amount_29 (lv_at hl 0 rfl) ?_
      refine lv_if_eq (tgt := 43) hx hb dX9_amount_31 (by decide) (fun c_11 => ?_) (fun c_11 => ?_)
      · refine lv_aload_n hx hb dX9_amount_43 rfl (lv_at hl 1 rfl) ?_
        refine yget (ci := 9) (k := 10) (v := .ref (S.2.2.1 h0 10)) (C := RX9) (T := TX9) (N := 67) C0 hK hP hm_h0 hk_h0 (by decide) rfl inlX9 (by decide) mW114 (fun _ h9 => h9) rfl dX9_amount_44 ?_
        obtain ⟨hmy_12, hky_12⟩ := ySh.f9_10 hSh _ hm_h0 hk_h0
        refine lv_bipush (v := 60) hx hb dX9_amount_47 (by decide) ?_
        refine lv_iload_n hx hb dX9_amount_49 rfl (lv_at hl 2 rfl) ?_
        refine lv_imul hx hb dX9_amount_50 ?_
        refine lv_topi (fun z_13 ez_13 => ?_)
        refine lv_iload_n hx hb dX9_amount_51 rfl (lv_at hl 3 rfl) ?_
        refine lv_iadd hx hb dX9_amount_52 ?_
        refine lv_topi (fun z_14 ez_14 => ?_)
        refine lv_iload_n hx hb dX9_amount_53 rfl (lv_at hl 4 rfl) ?_
        have hCC_15 := yMI.c hId_1
        have F_16 := fnlt (rfl : (p2 : Int32).toInt = (p2 : Int32).toInt) (by decide +kernel : ((-1000000) : Int32).toInt = (-1000000)) c_2
        have F_17 := fle (rfl : (p2 : Int32).toInt = (p2 : Int32).toInt) (by decide +kernel : (1000000 : Int32).toInt = 1000000) c_9
        have F_18 := feq (rfl : (r_10 : Int32).toInt = (r_10 : Int32).toInt) (by decide +kernel : (0 : Int32).toInt = 0) c_11
        have T_20 : (z_13 : Int32).toInt = 60 * (p0 : Int32).toInt := tmul ez_13 (by decide +kernel : (60 : Int32).toInt = 60) (rfl : (p0 : Int32).toInt = (p0 : Int32).toInt) (by omega) (by omega)
        have T_19 : (z_14 : Int32).toInt = (z_13 : Int32).toInt + (p1 : Int32).toInt := tadd ez_14 (rfl : (z_13 : Int32).toInt = (z_13 : Int32).toInt) (rfl : (p1 : Int32).toInt = (p1 : Int32).toInt) (by omega) (by omega)
        refine yast C0 hK hP hD hS hmy_12 hky_12 (by decide) rfl 0 rfl (xinT 2400 rfl (by omega) (by omega)) dX9_amount_54 (fun H locs hP hD hS => ?_)
        obtain ⟨d_21, ed_21⟩ : ∃ z : yD, z = ycs d_1 (S.2.2.1 h0 10) (upd (d_1.2.2.2.1 (S.2.2.1 h0 10)) (z_14 : Int32).toNatClampNeg p2) := ⟨_, rfl⟩
        rw [← ed_21] at hP hD
        have hgd_21 : yAg S [9, 40, 69] d d_21 := by rw [ed_21]; exact yAg.cs hgd_1 (by rw [hky_12]; decide)
        have hsd_21 : yAg S [40] d_1 d_21 := by rw [ed_21]; exact yAg.cs yAg.rf (by rw [hky_12]; decide)
        have hPod_21 : yPo S d_21 := by rw [ed_21]; exact hPod_1
        have hfd_21 : yK [38] d d_21 h0 := yK.ag hfd_1 (show yAg S [40] d_1 d_21 from by rw [ed_21]; exact yAg.cs yAg.rf (by rw [hky_12]; decide)) (by rw [hk_h0]; decide)
        have hId_21 : yMI S d_21 h0 := yMI.ag hId_1 hSh hm_h0 hk_h0 (show yAg S [40] d_1 d_21 from by rw [ed_21]; exact yAg.cs yAg.rf (by rw [hky_12]; decide)) (yK.ag (F := []) yK.rf (show yAg S [40] d_1 d_21 from by rw [ed_21]; exact yAg.cs yAg.rf (by rw [hky_12]; decide)) (by rw [hk_h0]; decide)) (by decide) (by decide)
        have hE0d_21 : (d_21.1 h0 0).toInt = (d_1.1 h0 0).toInt := congrArg Int32.toInt ((yK.ag (F := []) yK.rf (show yAg S [40] d_1 d_21 from by rw [ed_21]; exact yAg.cs yAg.rf (by rw [hky_12]; decide)) (by rw [hk_h0]; decide)) 0 (by decide))
        have hE1d_21 : (d_21.1 h0 1).toInt = (d_1.1 h0 1).toInt := congrArg Int32.toInt ((yK.ag (F := []) yK.rf (show yAg S [40] d_1 d_21 from by rw [ed_21]; exact yAg.cs yAg.rf (by rw [hky_12]; decide)) (by rw [hk_h0]; decide)) 1 (by decide))
        have hE2d_21 : (d_21.1 h0 2).toInt = (d_1.1 h0 2).toInt := congrArg Int32.toInt ((yK.ag (F := []) yK.rf (show yAg S [40] d_1 d_21 from by rw [ed_21]; exact yAg.cs yAg.rf (by rw [hky_12]; decide)) (by rw [hk_h0]; decide)) 2 (by decide))
        have hE3d_21 : (d_21.1 h0 3).toInt = (d_1.1 h0 3).toInt := congrArg Int32.toInt ((yK.ag (F := []) yK.rf (show yAg S [40] d_1 d_21 from by rw [ed_21]; exact yAg.cs yAg.rf (by rw [hky_12]; decide)) (by rw [hk_h0]; decide)) 3 (by decide))
        have hE63d_21 : (d_21.1 h0 63).toInt = (d_1.1 h0 63).toInt := congrArg Int32.toInt ((yK.ag (F := []) yK.rf (show yAg S [40] d_1 d_21 from by rw [ed_21]; exact yAg.cs yAg.rf (by rw [hky_12]; decide)) (by rw [hk_h0]; decide)) 63 (by decide))
        refine lv_iconst (v := 1) hx hb dX9_amount_55 (by decide) ?_
        have hCC_22 := yMI.c hId_21
        have hrcd_1 : yCe S d_1 h0 4 p0 p1 = yCe S d h0 4 p0 p1 := by unfold yCe; rw [show d_1.2.2.2.1 (S.2.2.1 h0 4) = d.2.2.2.1 (S.2.2.1 h0 4) from (hsd_1 _ (by rw [(ySh.f9_4 hSh h0 hm_h0 hk_h0).2]; decide)).2.2.2.1]
        have hrud_1 : (yCe S d_1 h0 4 p0 p1).toInt = (yCe S d h0 4 p0 p1).toInt := congrArg Int32.toInt hrcd_1
        rw [show (z_14 : Int32).toNatClampNeg = (60 * p0.toInt.toNat + p1.toInt.toNat) from (show (z_14 : Int32).toInt.toNat = _ by omega), show d_1.2.2.2.1 (S.2.2.1 h0 10) = d.2.2.2.1 (S.2.2.1 h0 10) from (hsd_1 _ (by rw [(ySh.f9_10 hSh h0 hm_h0 hk_h0).2]; decide)).2.2.2.1] at ed_21
        exact W.zret (v := 1) (ty := .boolean) hx hb hr rfl (fun t ht hW => ⟨⟨1, d_21, rfl, ⟨hgd_21, (fun _ => hPod_21), hfd_21, ⟨hId_21, Or.inr ⟨by have h0_ : (1 : Int32).toInt = 1 := (by decide +kernel); omega, by omega, (zTr.put (zTr.ag zTr.rf hSh hm_h0 hk_h0 hsd_1 (by decide)) hSh hm_h0 hk_h0 (by decide) (by decide) ed_21)⟩⟩⟩, by rw [ht]; exact hP, hD⟩, hS.F ht⟩) hS.2.2 dX9_amount_56
      · refine lv_aload_n hx hb dX9_amount_34 rfl (lv_at hl 1 rfl) ?_
        refine lv_iload hx hb dX9_amount_35 (lv_at hl 0 rfl) ?_
        have F_23 := fnlt (rfl : (p2 : Int32).toInt = (p2 : Int32).toInt) (by decide +kernel : ((-1000000) : Int32).toInt = (-1000000)) c_2
        have F_24 := fle (rfl : (p2 : Int32).toInt = (p2 : Int32).toInt) (by decide +kernel : (1000000 : Int32).toInt = 1000000) c_9
        have F_25 := fne (rfl : (r_10 : Int32).toInt = (r_10 : Int32).toInt) (by decide +kernel : (0 : Int32).toInt = 0) c_11
        refine yVwi (As := [.int r_10]) (rest := []) C0 (g_X9_no l G S d_1 h0 r_10 hSh hPod_1 hm_h0 hk_h0 (by refine ⟨?_, ?_⟩ <;> omega)) ok_X9_no (mW177 : Cond.methodLink RX9 168 yX9_no ∈ wsT) ⟨Nat.le_of_ble_eq_true rfl, Nat.le_of_ble_eq_true rfl⟩ hP hD hS hA hK hN hm_h0 hk_h0 (by decide) rfl rfl rfl hl.1 rfl (Nat.le_of_ble_eq_true rfl) ⟨Nat.le_of_ble_eq_true rfl, Nat.le_of_ble_eq_true rfl⟩ dX9_amount_37 (fun r_26 d_27 H locs hr_26 hP hD hS => ?_)
        obtain ⟨hgad_27, hpad_27, hfad_27, hxd_27⟩ := hr_26
        have hfd_27 : yK [38] d d_27 h0 := yK.tr hfd_1 hfad_27 (by decide)
        have hE0d_27 : (d_27.1 h0 0).toInt = (d_1.1 h0 0).toInt := congrArg Int32.toInt (hfad_27 0 (by decide))
        have hE1d_27 : (d_27.1 h0 1).toInt = (d_1.1 h0 1).toInt := congrArg Int32.toInt (hfad_27 1 (by decide))
        have hE2d_27 : (d_27.1 h0 2).toInt = (d_1.1 h0 2).toInt := congrArg Int32.toInt (hfad_27 2 (by decide))
        have hE3d_27 : (d_27.1 h0 3).toInt = (d_1.1 h0 3).toInt := congrArg Int32.toInt (hfad_27 3 (by decide))
        have hE63d_27 : (d_27.1 h0 63).toInt = (d_1.1 h0 63).toInt := congrArg Int32.toInt (hfad_27 63 (by decide))
        have hId_27 : yMI S d_27 h0 := yMI.ag hId_1 hSh hm_h0 hk_h0 hgad_27 hfad_27 (by decide) (by decide)
        have hgd_27 : yAg S [9, 40, 69] d d_27 := yAg.tr hgd_1 hgad_27 (by first | decide | exact fun _ h => h)
        have hPod_27 : yPo S d_27 := hpad_27 hPod_1
        refine lv_pop hx hb dX9_amount_40 rfl ?_
        refine lv_iconst (v := 0) hx hb dX9_amount_41 (by decide) ?_
        have hCC_28 := yMI.c hId_27
        have hrcd_1 : yCe S d_1 h0 4 p0 p1 = yCe S d h0 4 p0 p1 := by unfold yCe; rw [show d_1.2.2.2.1 (S.2.2.1 h0 4) = d.2.2.2.1 (S.2.2.1 h0 4) from (hsd_1 _ (by rw [(ySh.f9_4 hSh h0 hm_h0 hk_h0).2]; decide)).2.2.2.1]
        have hrud_1 : (yCe S d_1 h0 4 p0 p1).toInt = (yCe S d h0 4 p0 p1).toInt := congrArg Int32.toInt hrcd_1
        exact W.zret (v := 0) (ty := .boolean) hx hb hr rfl (fun t ht hW => ⟨⟨0, d_27, rfl, ⟨hgd_27, (fun _ => hPod_27), hfd_27, ⟨hId_27, Or.inl ⟨by have h0_ : (0 : Int32).toInt = 0 := (by decide +kernel); omega, by omega, (zTr.ag (zTr.ag zTr.rf hSh hm_h0 hk_h0 hsd_1 (by decide)) hSh hm_h0 hk_h0 hgad_27 (by decide))⟩⟩⟩, by rw [ht]; exact hP, hD⟩, hS.F ht⟩) hS.2.2 dX9_amount_42
    · refine lv_iconst (v := 1) hx hb dX9_amount_17 (by decide) ?_
      refine lv_goto (tgt := 27) hx hb dX9_amount_18 (by decide) ?_
      refine lv_istore (lv' := [(4, .int 1), (0, .ref h0), (1, .int p0), (2, .int p1), (3, .int p2)]) hx hb dX9_amount_27 hl (by decide) rfl (fun ls hl => ?_)
      refine lv_iload hx hb dX9_amount_29 (lv_at hl 0 rfl) ?_
      refine lv_if_eq (tgt := 43) hx hb dX9_amount_31 (by decide) (fun c_29 => absurd c_29 (by decide +kernel)) (fun c_29 => ?_)
      refine lv_aload_n hx hb dX9_amount_34 rfl (lv_at hl 1 rfl) ?_
      refine lv_iload hx hb dX9_amount_35 (lv_at hl 0 rfl) ?_
      refine yVwi (As := [.int 1]) (rest := []) C0 (g_X9_no l G S d_1 h0 1 hSh hPod_1 hm_h0 hk_h0 (by decide +kernel)) ok_X9_no (mW177 : Cond.methodLink RX9 168 yX9_no ∈ wsT) ⟨Nat.le_of_ble_eq_true rfl, Nat.le_of_ble_eq_true rfl⟩ hP hD hS hA hK hN hm_h0 hk_h0 (by decide) rfl rfl rfl hl.1 rfl (Nat.le_of_ble_eq_true rfl) ⟨Nat.le_of_ble_eq_true rfl, Nat.le_of_ble_eq_true rfl⟩ dX9_amount_37 (fun r_30 d_31 H locs hr_30 hP hD hS => ?_)
      obtain ⟨hgad_31, hpad_31, hfad_31, hxd_31⟩ := hr_30
      have hfd_31 : yK [38] d d_31 h0 := yK.tr hfd_1 hfad_31 (by decide)
      have hE0d_31 : (d_31.1 h0 0).toInt = (d_1.1 h0 0).toInt := congrArg Int32.toInt (hfad_31 0 (by decide))
      have hE1d_31 : (d_31.1 h0 1).toInt = (d_1.1 h0 1).toInt := congrArg Int32.toInt (hfad_31 1 (by decide))
      have hE2d_31 : (d_31.1 h0 2).toInt = (d_1.1 h0 2).toInt := congrArg Int32.toInt (hfad_31 2 (by decide))
      have hE3d_31 : (d_31.1 h0 3).toInt = (d_1.1 h0 3).toInt := congrArg Int32.toInt (hfad_31 3 (by decide))
      have hE63d_31 : (d_31.1 h0 63).toInt = (d_1.1 h0 63).toInt := congrArg Int32.toInt (hfad_31 63 (by decide))
      have hId_31 : yMI S d_31 h0 := yMI.ag hId_1 hSh hm_h0 hk_h0 hgad_31 hfad_31 (by decide) (by decide)
      have hgd_31 : yAg S [9, 40, 69] d d_31 := yAg.tr hgd_1 hgad_31 (by first | decide | exact fun _ h => h)
      have hPod_31 : yPo S d_31 := hpad_31 hPod_1
      refine lv_pop hx hb dX9_amount_40 rfl ?_
      refine lv_iconst (v := 0) hx hb dX9_amount_41 (by decide) ?_
      have hCC_32 := yMI.c hId_31
      have F_33 := fnlt (rfl : (p2 : Int32).toInt = (p2 : Int32).toInt) (by decide +kernel : ((-1000000) : Int32).toInt = (-1000000)) c_2
      have F_34 := fnle (rfl : (p2 : Int32).toInt = (p2 : Int32).toInt) (by decide +kernel : (1000000 : Int32).toInt = 1000000) c_9
      have F_35 := fne (by decide +kernel : (1 : Int32).toInt = 1) (by decide +kernel : (0 : Int32).toInt = 0) c_29
      exact W.zret (v := 0) (ty := .boolean) hx hb hr rfl (fun t ht hW => ⟨⟨0, d_31, rfl, ⟨hgd_31, (fun _ => hPod_31), hfd_31, ⟨hId_31, Or.inl ⟨by have h0_ : (0 : Int32).toInt = 0 := (by decide +kernel); omega, by omega, (zTr.ag (zTr.ag zTr.rf hSh hm_h0 hk_h0 hsd_1 (by decide)) hSh hm_h0 hk_h0 hgad_31 (by decide))⟩⟩⟩, by rw [ht]; exact hP, hD⟩, hS.F ht⟩) hS.2.2 dX9_amount_42
theorem dX9_heading_0 : decode cX9_heading 0 = .ok (.aload_n 0, 1) := by decide +kernel
theorem dX9_heading_1 : decode cX9_heading 1 = .ok (.iconst 0, 1) := by decide +kernel
theorem dX9_heading_2 : decode cX9_heading 2 = .ok (.putfield 147, 3) := by decide +kernel
theorem dX9_heading_5 : decode cX9_heading 5 = .ok (.aload_n 0, 1) := by decide +kernel
theorem dX9_heading_6 : decode cX9_heading 6 = .ok (.iload_n 1, 1) := by decide +kernel
theorem dX9_heading_7 : decode cX9_heading 7 = .ok (.iload_n 2, 1) := by decide +kernel
theorem dX9_heading_8 : decode cX9_heading 8 = .ok (.invokevirtual 171, 3) := by decide +kernel
theorem dX9_heading_11 : decode cX9_heading 11 = .ok (.istore 4, 2) := by decide +kernel
theorem dX9_heading_13 : decode cX9_heading 13 = .ok (.iload 4, 2) := by decide +kernel
theorem dX9_heading_15 : decode cX9_heading 15 = .ok (.ifCond .eq 12, 3) := by decide +kernel
theorem dX9_heading_18 : decode cX9_heading 18 = .ok (.aload_n 0, 1) := by decide +kernel
theorem dX9_heading_19 : decode cX9_heading 19 = .ok (.iload 4, 2) := by decide +kernel
theorem dX9_heading_21 : decode cX9_heading 21 = .ok (.invokevirtual 168, 3) := by decide +kernel
theorem dX9_heading_24 : decode cX9_heading 24 = .ok (.pop, 1) := by decide +kernel
theorem dX9_heading_25 : decode cX9_heading 25 = .ok (.iconst 0, 1) := by decide +kernel
theorem dX9_heading_26 : decode cX9_heading 26 = .ok (.ireturn, 1) := by decide +kernel
theorem dX9_heading_27 : decode cX9_heading 27 = .ok (.aload_n 0, 1) := by decide +kernel
theorem dX9_heading_28 : decode cX9_heading 28 = .ok (.getfield 13, 3) := by decide +kernel
theorem dX9_heading_31 : decode cX9_heading 31 = .ok (.bipush 60, 2) := by decide +kernel
theorem dX9_heading_33 : decode cX9_heading 33 = .ok (.iload_n 1, 1) := by decide +kernel
theorem dX9_heading_34 : decode cX9_heading 34 = .ok (.imul, 1) := by decide +kernel
theorem dX9_heading_35 : decode cX9_heading 35 = .ok (.iload_n 2, 1) := by decide +kernel
theorem dX9_heading_36 : decode cX9_heading 36 = .ok (.iadd, 1) := by decide +kernel
theorem dX9_heading_37 : decode cX9_heading 37 = .ok (.iconst 1, 1) := by decide +kernel
theorem dX9_heading_38 : decode cX9_heading 38 = .ok (.bastore, 1) := by decide +kernel
theorem dX9_heading_39 : decode cX9_heading 39 = .ok (.aload_n 0, 1) := by decide +kernel
theorem dX9_heading_40 : decode cX9_heading 40 = .ok (.getfield 33, 3) := by decide +kernel
theorem dX9_heading_43 : decode cX9_heading 43 = .ok (.bipush 60, 2) := by decide +kernel
theorem dX9_heading_45 : decode cX9_heading 45 = .ok (.iload_n 1, 1) := by decide +kernel
theorem dX9_heading_46 : decode cX9_heading 46 = .ok (.imul, 1) := by decide +kernel
theorem dX9_heading_47 : decode cX9_heading 47 = .ok (.iload_n 2, 1) := by decide +kernel
theorem dX9_heading_48 : decode cX9_heading 48 = .ok (.iadd, 1) := by decide +kernel
theorem dX9_heading_49 : decode cX9_heading 49 = .ok (.iload_n 3, 1) := by decide +kernel
theorem dX9_heading_50 : decode cX9_heading 50 = .ok (.iastore, 1) := by decide +kernel
theorem dX9_heading_51 : decode cX9_heading 51 = .ok (.iconst 1, 1) := by decide +kernel
theorem dX9_heading_52 : decode cX9_heading 52 = .ok (.ireturn, 1) := by decide +kernel
set_option maxHeartbeats 4000000 in
set_option maxRecDepth 100000 in
theorem g_X9_heading (l : Launch) (G : xG) (S : yS) (d : yD) (h0 : Nat) (p0 : Int32) (p1 : Int32) (p2 : Int32) (hSh : ySh S) (hPo : yPo S d) (hm_h0 : h0 ∈ S.1) (hk_h0 : S.2.1 h0 = 9) (hI : yMI S d h0) : xWi l G yX9_heading cX9_heading 5 (some .boolean) 2 43 0 0 [.ref h0, .int p0, .int p1, .int p2] (yW G S d) (fun r (u : yD) => yAg S [9, 34, 40, 69] d u ∧ (yPo S d → yPo S u) ∧ yK [38] d u h0 ∧ (yMI S u h0 ∧ ((r.toInt = 0 ∧ ¬ ((0 ≤ p0.toInt ∧ p0.toInt ≤ 39 ∧ p0.toInt < (d.1 h0 0).toInt) ∧ 0 ≤ p1.toInt ∧ p1.toInt ≤ 59) ∧ zTr S u h0 (fun s => d.2.2.2.1 (S.2.2.1 h0 s))) ∨ (r.toInt = 1 ∧ ((0 ≤ p0.toInt ∧ p0.toInt ≤ 39 ∧ p0.toInt < (d.1 h0 0).toInt) ∧ 0 ≤ p1.toInt ∧ p1.toInt ≤ 59) ∧ zTr S u h0 (fun s => if s = 10 then upd (d.2.2.2.1 (S.2.2.1 h0 10)) (60 * p0.toInt.toNat + p1.toInt.toNat) p2 else if s = 4 then upd (d.2.2.2.1 (S.2.2.1 h0 4)) (60 * p0.toInt.toNat + p1.toInt.toNat) (vp_nar .byte 1) else d.2.2.2.1 (S.2.2.1 h0 s)))))) (fun u => yW G S u) := by
  intro sz
  refine xstart (by decide) (Nat.le_of_ble_eq_true rfl) (fun p e s m args below meth c ls C0 hr hlocks hin hsz hP hK hD hN hl => ?_)
  obtain ⟨hx, hb, hml, hown, htl⟩ := id C0
  subst hsz
  have hD := hD.self (sz := s.heap.size)
  generalize hAe : va_A (yW G S d) s.heap.size = A at hD ⊢
  have hA : ∀ q : Nat, s.heap.size ≤ q → A q := fun q h => by rw [← hAe]; exact Or.inr h
  have hS : va_S A s.heap s.heap [] := va_S.rf
  have hg0 : yAg S [9, 34, 40, 69] d d := yAg.rf
  have hl : lv_has ls 5 [(0, .ref h0), (1, .int p0), (2, .int p1), (3, .int p2)] := hl
  refine lv_aload_n hx hb dX9_heading_0 rfl (lv_at hl 0 rfl) ?_
  refine lv_iconst (v := 0) hx hb dX9_heading_1 (by decide) ?_
  refine yputI (ci := 9) (k := 38) (ty := .int) (C := RX9) (T := TX9) (N := 67) C0 hK hP hD hS hm_h0 hk_h0 (by decide) rfl inlX9 tyX9 tyX9_ok nmX9 (by decide) mW175 (fun _ h9 => h9) rfl (by decide +kernel) rfl rfl (Nat.le_of_ble_eq_true rfl) ysi_9_38 dX9_heading_2 (fun H locs hP hD hS => ?_)
  obtain ⟨d_1, ed_1⟩ : ∃ z : yD, z = yi d h0 38 0 := ⟨_, rfl⟩
  rw [← ed_1] at hP hD
  have hgd_1 : yAg S [9, 34, 40, 69] d d_1 := by rw [ed_1]; exact yAg.i hg0 (by rw [hk_h0]; decide)
  have hsd_1 : yAg S [9] d d_1 := by rw [ed_1]; exact yAg.i yAg.rf (by rw [hk_h0]; decide)
  have hPod_1 : yPo S d_1 := by rw [ed_1]; exact yPo.i hPo hk_h0 (Or.inl rfl)
  have hfd_1 : yK [38] d d_1 h0 := by rw [ed_1]; exact yK.i yK.rf (by decide)
  have hId_1 : yMI S d_1 h0 := yMI.ag hI hSh hm_h0 hk_h0 (show yAg S [9] d d_1 from by rw [ed_1]; exact yAg.i yAg.rf (by rw [hk_h0]; decide)) (show yK [38] d d_1 h0 from by rw [ed_1]; exact yK.i yK.rf (by decide)) (by decide) (by decide)
  have hE0d_1 : (d_1.1 h0 0).toInt = (d.1 h0 0).toInt := congrArg Int32.toInt ((show yK [38] d d_1 h0 from by rw [ed_1]; exact yK.i yK.rf (by decide)) 0 (by decide))
  have hE1d_1 : (d_1.1 h0 1).toInt = (d.1 h0 1).toInt := congrArg Int32.toInt ((show yK [38] d d_1 h0 from by rw [ed_1]; exact yK.i yK.rf (by decide)) 1 (by decide))
  have hE2d_1 : (d_1.1 h0 2).toInt = (d.1 h0 2).toInt := congrArg Int32.toInt ((show yK [38] d d_1 h0 from by rw [ed_1]; exact yK.i yK.rf (by decide)) 2 (by decide))
  have hE3d_1 : (d_1.1 h0 3).toInt = (d.1 h0 3).toInt := congrArg Int32.toInt ((show yK [38] d d_1 h0 from by rw [ed_1]; exact yK.i yK.rf (by decide)) 3 (by decide))
  have hE63d_1 : (d_1.1 h0 63).toInt = (d.1 h0 63).toInt := congrArg Int32.toInt ((show yK [38] d d_1 h0 from by rw [ed_1]; exact yK.i yK.rf (by decide)) 63 (by decide))
  refine lv_aload_n hx hb dX9_heading_5 rfl (lv_at hl 0 rfl) ?_
  refine lv_iload_n hx hb dX9_heading_6 rfl (lv_at hl 1 rfl) ?_
  refine lv_iload_n hx hb dX9_heading_7 rfl (lv_at hl 2 rfl) ?_
  refine yVri (As := [.int p0, .int p1]) (rest := []) C0 (g_X9_placeWhy l G S d_1 h0 p0 p1 hSh hm_h0 hk_h0) ok_X9_placeWhy (mW222 : Cond.methodLink RX9 171 yX9_placeWhy ∈ wsT) ⟨Nat.le_of_ble_eq_true rfl, Nat.le_of_ble_eq_true rfl⟩ hP hD hK hN hm_h0 hk_h0 (by decide) rfl rfl rfl hl.1 rfl (Nat.le_of_ble_eq_true rfl) ⟨Nat.le_of_ble_eq_true rfl, Nat.le_of_ble_eq_true rfl⟩ dX9_heading_8 (fun r_2 hr_2 => ?_)
  refine lv_istore (lv' := [(4, .int r_2), (0, .ref h0), (1, .int p0), (2, .int p1), (3, .int p2)]) hx hb dX9_heading_11 hl (by decide) rfl (fun ls hl => ?_)
  refine lv_iload hx hb dX9_heading_13 (lv_at hl 0 rfl) ?_
  refine lv_if_eq (tgt := 27) hx hb dX9_heading_15 (by decide) (fun c_3 => ?_) (fun c_3 => ?_)
  · refine lv_aload_n hx hb dX9_heading_27 rfl (lv_at hl 1 rfl) ?_
    refine yget (ci := 9) (k := 4) (v := .ref (S.2.2.1 h0 4)) (C := RX9) (T := TX9) (N := 67) C0 hK hP hm_h0 hk_h0 (by decide) rfl inlX9 (by decide) mW108 (fun _ h9 => h9) rfl dX9_heading_28 ?_
    obtain ⟨hmy_4, hky_4⟩ := ySh.f9_4 hSh _ hm_h0 hk_h0
    refine lv_bipush (v := 60) hx hb dX9_heading_31 (by decide) ?_
    refine lv_iload_n hx hb dX9_heading_33 rfl (lv_at hl 2 rfl) ?_
    refine lv_imul hx hb dX9_heading_34 ?_
    refine lv_topi (fun z_5 ez_5 => ?_)
    refine lv_iload_n hx hb dX9_heading_35 rfl (lv_at hl 3 rfl) ?_
    refine lv_iadd hx hb dX9_heading_36 ?_
    refine lv_topi (fun z_6 ez_6 => ?_)
    refine lv_iconst (v := 1) hx hb dX9_heading_37 (by decide) ?_
    have hCC_7 := yMI.c hId_1
    have F_8 := feq (rfl : (r_2 : Int32).toInt = (r_2 : Int32).toInt) (by decide +kernel : (0 : Int32).toInt = 0) c_3
    have T_10 : (z_5 : Int32).toInt = 60 * (p0 : Int32).toInt := tmul ez_5 (by decide +kernel : (60 : Int32).toInt = 60) (rfl : (p0 : Int32).toInt = (p0 : Int32).toInt) (by omega) (by omega)
    have T_9 : (z_6 : Int32).toInt = (z_5 : Int32).toInt + (p1 : Int32).toInt := tadd ez_6 (rfl : (z_5 : Int32).toInt = (z_5 : Int32).toInt) (rfl : (p1 : Int32).toInt = (p1 : Int32).toInt) (by omega) (by omega)
    refine yastB C0 hK hP hD hS hmy_4 hky_4 (by decide) rfl 1 rfl (xinT 2400 rfl (by omega) (by omega)) dX9_heading_38 (fun H locs hP hD hS => ?_)
    obtain ⟨d_11, ed_11⟩ : ∃ z : yD, z = ycs d_1 (S.2.2.1 h0 4) (upd (d_1.2.2.2.1 (S.2.2.1 h0 4)) (z_6 : Int32).toNatClampNeg (vp_nar .byte 1)) := ⟨_, rfl⟩
    rw [← ed_11] at hP hD
    have hgd_11 : yAg S [9, 34, 40, 69] d d_11 := by rw [ed_11]; exact yAg.cs hgd_1 (by rw [hky_4]; decide)
    have hsd_11 : yAg S [34] d_1 d_11 := by rw [ed_11]; exact yAg.cs yAg.rf (by rw [hky_4]; decide)
    have hPod_11 : yPo S d_11 := by rw [ed_11]; exact hPod_1
    have hfd_11 : yK [38] d d_11 h0 := yK.ag hfd_1 (show yAg S [34] d_1 d_11 from by rw [ed_11]; exact yAg.cs yAg.rf (by rw [hky_4]; decide)) (by rw [hk_h0]; decide)
    have hId_11 : yMI S d_11 h0 := yMI.ag hId_1 hSh hm_h0 hk_h0 (show yAg S [34] d_1 d_11 from by rw [ed_11]; exact yAg.cs yAg.rf (by rw [hky_4]; decide)) (yK.ag (F := []) yK.rf (show yAg S [34] d_1 d_11 from by rw [ed_11]; exact yAg.cs yAg.rf (by rw [hky_4]; decide)) (by rw [hk_h0]; decide)) (by decide) (by decide)
    have hE0d_11 : (d_11.1 h0 0).toInt = (d_1.1 h0 0).toInt := congrArg Int32.toInt ((yK.ag (F := []) yK.rf (show yAg S [34] d_1 d_11 from by rw [ed_11]; exact yAg.cs yAg.rf (by rw [hky_4]; decide)) (by rw [hk_h0]; decide)) 0 (by decide))
    have hE1d_11 : (d_11.1 h0 1).toInt = (d_1.1 h0 1).toInt := congrArg Int32.toInt ((yK.ag (F := []) yK.rf (show yAg S [34] d_1 d_11 from by rw [ed_11]; exact yAg.cs yAg.rf (by rw [hky_4]; decide)) (by rw [hk_h0]; decide)) 1 (by decide))
    have hE2d_11 : (d_11.1 h0 2).toInt = (d_1.1 h0 2).toInt := congrArg Int32.toInt ((yK.ag (F := []) yK.rf (show yAg S [34] d_1 d_11 from by rw [ed_11]; exact yAg.cs yAg.rf (by rw [hky_4]; decide)) (by rw [hk_h0]; decide)) 2 (by decide))
    have hE3d_11 : (d_11.1 h0 3).toInt = (d_1.1 h0 3).toInt := congrArg Int32.toInt ((yK.ag (F := []) yK.rf (show yAg S [34] d_1 d_11 from by rw [ed_11]; exact yAg.cs yAg.rf (by rw [hky_4]; decide)) (by rw [hk_h0]; decide)) 3 (by decide))
    have hE63d_11 : (d_11.1 h0 63).toInt = (d_1.1 h0 63).toInt := congrArg Int32.toInt ((yK.ag (F := []) yK.rf (show yAg S [34] d_1 d_11 from by rw [ed_11]; exact yAg.cs yAg.rf (by rw [hky_4]; decide)) (by rw [hk_h0]; decide)) 63 (by decide))
    refine lv_aload_n hx hb dX9_heading_39 rfl (lv_at hl 1 rfl) ?_
    refine yget (ci := 9) (k := 10) (v := .ref (S.2.2.1 h0 10)) (C := RX9) (T := TX9) (N := 67) C0 hK hP hm_h0 hk_h0 (by decide) rfl inlX9 (by decide) mW114 (fun _ h9 => h9) rfl dX9_heading_40 ?_
    obtain ⟨hmy_12, hky_12⟩ := ySh.f9_10 hSh _ hm_h0 hk_h0
    refine lv_bipush (v := 60) hx hb dX9_heading_43 (by decide) ?_
    refine lv_iload_n hx hb dX9_heading_45 rfl (lv_at hl 2 rfl) ?_
    refine lv_imul hx hb dX9_heading_46 ?_
    refine lv_topi (fun z_13 ez_13 => ?_)
    refine lv_iload_n hx hb dX9_heading_47 rfl (lv_at hl 3 rfl) ?_
    refine lv_iadd hx hb dX9_heading_48 ?_
    refine lv_topi (fun z_14 ez_14 => ?_)
    refine lv_iload_n hx hb dX9_heading_49 rfl (lv_at hl 4 rfl) ?_
    have hCC_15 := yMI.c hId_11
    have T_17 : (z_13 : Int32).toInt = 60 * (p0 : Int32).toInt := tmul ez_13 (by decide +kernel : (60 : Int32).toInt = 60) (rfl : (p0 : Int32).toInt = (p0 : Int32).toInt) (by omega) (by omega)
    have T_16 : (z_14 : Int32).toInt = (z_13 : Int32).toInt + (p1 : Int32).toInt := tadd ez_14 (rfl : (z_13 : Int32).toInt = (z_13 : Int32).toInt) (rfl : (p1 : Int32).toInt = (p1 : Int32).toInt) (by omega) (by omega)
    refine yast C0 hK hP hD hS hmy_12 hky_12 (by decide) rfl 0 rfl (xinT 2400 rfl (by omega) (by omega)) dX9_heading_50 (fun H locs hP hD hS => ?_)
    obtain ⟨d_18, ed_18⟩ : ∃ z : yD, z = ycs d_11 (S.2.2.1 h0 10) (upd (d_11.2.2.2.1 (S.2.2.1 h0 10)) (z_14 : Int32).toNatClampNeg p2) := ⟨_, rfl⟩
    rw [← ed_18] at hP hD
    have hgd_18 : yAg S [9, 34, 40, 69] d d_18 := by rw [ed_18]; exact yAg.cs hgd_11 (by rw [hky_12]; decide)
    have hsd_18 : yAg S [40] d_11 d_18 := by rw [ed_18]; exact yAg.cs yAg.rf (by rw [hky_12]; decide)
    have hPod_18 : yPo S d_18 := by rw [ed_18]; exact hPod_11
    have hfd_18 : yK [38] d d_18 h0 := yK.ag hfd_11 (show yAg S [40] d_11 d_18 from by rw [ed_18]; exact yAg.cs yAg.rf (by rw [hky_12]; decide)) (by rw [hk_h0]; decide)
    have hId_18 : yMI S d_18 h0 := yMI.ag hId_11 hSh hm_h0 hk_h0 (show yAg S [40] d_11 d_18 from by rw [ed_18]; exact yAg.cs yAg.rf (by rw [hky_12]; decide)) (yK.ag (F := []) yK.rf (show yAg S [40] d_11 d_18 from by rw [ed_18]; exact yAg.cs yAg.rf (by rw [hky_12]; decide)) (by rw [hk_h0]; decide)) (by decide) (by decide)
    have hE0d_18 : (d_18.1 h0 0).toInt = (d_11.1 h0 0).toInt := congrArg Int32.toInt ((yK.ag (F := []) yK.rf (show yAg S [40] d_11 d_18 from by rw [ed_18]; exact yAg.cs yAg.rf (by rw [hky_12]; decide)) (by rw [hk_h0]; decide)) 0 (by decide))
    have hE1d_18 : (d_18.1 h0 1).toInt = (d_11.1 h0 1).toInt := congrArg Int32.toInt ((yK.ag (F := []) yK.rf (show yAg S [40] d_11 d_18 from by rw [ed_18]; exact yAg.cs yAg.rf (by rw [hky_12]; decide)) (by rw [hk_h0]; decide)) 1 (by decide))
    have hE2d_18 : (d_18.1 h0 2).toInt = (d_11.1 h0 2).toInt := congrArg Int32.toInt ((yK.ag (F := []) yK.rf (show yAg S [40] d_11 d_18 from by rw [ed_18]; exact yAg.cs yAg.rf (by rw [hky_12]; decide)) (by rw [hk_h0]; decide)) 2 (by decide))
    have hE3d_18 : (d_18.1 h0 3).toInt = (d_11.1 h0 3).toInt := congrArg Int32.toInt ((yK.ag (F := []) yK.rf (show yAg S [40] d_11 d_18 from by rw [ed_18]; exact yAg.cs yAg.rf (by rw [hky_12]; decide)) (by rw [hk_h0]; decide)) 3 (by decide))
    have hE63d_18 : (d_18.1 h0 63).toInt = (d_11.1 h0 63).toInt := congrArg Int32.toInt ((yK.ag (F := []) yK.rf (show yAg S [40] d_11 d_18 from by rw [ed_18]; exact yAg.cs yAg.rf (by rw [hky_12]; decide)) (by rw [hk_h0]; decide)) 63 (by decide))
    refine lv_iconst (v := 1) hx hb dX9_heading_51 (by decide) ?_
    have hCC_19 := yMI.c hId_18
    rw [show (z_6 : Int32).toNatClampNeg = (60 * p0.toInt.toNat + p1.toInt.toNat) from (show (z_6 : Int32).toInt.toNat = _ by omega), show d_1.2.2.2.1 (S.2.2.1 h0 4) = d.2.2.2.1 (S.2.2.1 h0 4) from (hsd_1 _ (by rw [(ySh.f9_4 hSh h0 hm_h0 hk_h0).2]; decide)).2.2.2.1] at ed_11
    rw [show (z_14 : Int32).toNatClampNeg = (60 * p0.toInt.toNat + p1.toInt.toNat) from (show (z_14 : Int32).toInt.toNat = _ by omega), show d_11.2.2.2.1 (S.2.2.1 h0 10) = d.2.2.2.1 (S.2.2.1 h0 10) from (((hsd_11 _ (by rw [(ySh.f9_10 hSh h0 hm_h0 hk_h0).2]; decide)).2.2.2.1).trans (hsd_1 _ (by rw [(ySh.f9_10 hSh h0 hm_h0 hk_h0).2]; decide)).2.2.2.1)] at ed_18
    exact W.zret (v := 1) (ty := .boolean) hx hb hr rfl (fun t ht hW => ⟨⟨1, d_18, rfl, ⟨hgd_18, (fun _ => hPod_18), hfd_18, ⟨hId_18, Or.inr ⟨by have h0_ : (1 : Int32).toInt = 1 := (by decide +kernel); omega, by omega, (zTr.put (zTr.put (zTr.ag zTr.rf hSh hm_h0 hk_h0 hsd_1 (by decide)) hSh hm_h0 hk_h0 (by decide) (by decide) ed_11) hSh hm_h0 hk_h0 (by decide) (by decide) ed_18)⟩⟩⟩, by rw [ht]; exact hP, hD⟩, hS.F ht⟩) hS.2.2 dX9_heading_52
  · refine lv_aload_n hx hb dX9_heading_18 rfl (lv_at hl 1 rfl) ?_
    refine lv_iload hx hb dX9_heading_19 (lv_at hl 0 rfl) ?_
    have F_20 := fne (rfl : (r_2 : Int32).toInt = (r_2 : Int32).toInt) (by decide +kernel : (0 : Int32).toInt = 0) c_3
    refine yVwi (As := [.int r_2]) (rest := []) C0 (g_X9_no l G S d_1 h0 r_2 hSh hPod_1 hm_h0 hk_h0 (by refine ⟨?_, ?_⟩ <;> omega)) ok_X9_no (mW177 : Cond.methodLink RX9 168 yX9_no ∈ wsT) ⟨Nat.le_of_ble_eq_true rfl, Nat.le_of_ble_eq_true rfl⟩ hP hD hS hA hK hN hm_h0 hk_h0 (by decide) rfl rfl rfl hl.1 rfl (Nat.le_of_ble_eq_true rfl) ⟨Nat.le_of_ble_eq_true rfl, Nat.le_of_ble_eq_true rfl⟩ dX9_heading_21 (fun r_21 d_22 H locs hr_21 hP hD hS => ?_)
    obtain ⟨hgad_22, hpad_22, hfad_22, hxd_22⟩ := hr_21
    have hfd_22 : yK [38] d d_22 h0 := yK.tr hfd_1 hfad_22 (by decide)
    have hE0d_22 : (d_22.1 h0 0).toInt = (d_1.1 h0 0).toInt := congrArg Int32.toInt (hfad_22 0 (by decide))
    have hE1d_22 : (d_22.1 h0 1).toInt = (d_1.1 h0 1).toInt := congrArg Int32.toInt (hfad_22 1 (by decide))
    have hE2d_22 : (d_22.1 h0 2).toInt = (d_1.1 h0 2).toInt := congrArg Int32.toInt (hfad_22 2 (by decide))
    have hE3d_22 : (d_22.1 h0 3).toInt = (d_1.1 h0 3).toInt := congrArg Int32.toInt (hfad_22 3 (by decide))
    have hE63d_22 : (d_22.1 h0 63).toInt = (d_1.1 h0 63).toInt := congrArg Int32.toInt (hfad_22 63 (by decide))
    have hId_22 : yMI S d_22 h0 := yMI.ag hId_1 hSh hm_h0 hk_h0 hgad_22 hfad_22 (by decide) (by decide)
    have hgd_22 : yAg S [9, 34, 40, 69] d d_22 := yAg.tr hgd_1 hgad_22 (by first | decide | exact fun _ h => h)
    have hPod_22 : yPo S d_22 := hpad_22 hPod_1
    refine lv_pop hx hb dX9_heading_24 rfl ?_
    refine lv_iconst (v := 0) hx hb dX9_heading_25 (by decide) ?_
    have hCC_23 := yMI.c hId_22
    exact W.zret (v := 0) (ty := .boolean) hx hb hr rfl (fun t ht hW => ⟨⟨0, d_22, rfl, ⟨hgd_22, (fun _ => hPod_22), hfd_22, ⟨hId_22, Or.inl ⟨by have h0_ : (0 : Int32).toInt = 0 := (by decide +kernel); omega, by omega, (zTr.ag (zTr.ag zTr.rf hSh hm_h0 hk_h0 hsd_1 (by decide)) hSh hm_h0 hk_h0 hgad_22 (by decide))⟩⟩⟩, by rw [ht]; exact hP, hD⟩, hS.F ht⟩) hS.2.2 dX9_heading_26
theorem dX9_strike_0 : decode cX9_strike 0 = .ok (.aload_n 0, 1) := by decide +kernel
theorem dX9_strike_1 : decode cX9_strike 1 = .ok (.iconst 0, 1) := by decide +kernel
theorem dX9_strike_2 : decode cX9_strike 2 = .ok (.putfield 147, 3) := by decide +kernel
theorem dX9_strike_5 : decode cX9_strike 5 = .ok (.aload_n 0, 1) := by decide +kernel
theorem dX9_strike_6 : decode cX9_strike 6 = .ok (.iload_n 1, 1) := by decide +kernel
theorem dX9_strike_7 : decode cX9_strike 7 = .ok (.iload_n 2, 1) := by decide +kernel
theorem dX9_strike_8 : decode cX9_strike 8 = .ok (.invokevirtual 171, 3) := by decide +kernel
theorem dX9_strike_11 : decode cX9_strike 11 = .ok (.istore_n 3, 1) := by decide +kernel
theorem dX9_strike_12 : decode cX9_strike 12 = .ok (.iload_n 3, 1) := by decide +kernel
theorem dX9_strike_13 : decode cX9_strike 13 = .ok (.ifCond .ne 19, 3) := by decide +kernel
theorem dX9_strike_16 : decode cX9_strike 16 = .ok (.aload_n 0, 1) := by decide +kernel
theorem dX9_strike_17 : decode cX9_strike 17 = .ok (.getfield 13, 3) := by decide +kernel
theorem dX9_strike_20 : decode cX9_strike 20 = .ok (.bipush 60, 2) := by decide +kernel
theorem dX9_strike_22 : decode cX9_strike 22 = .ok (.iload_n 1, 1) := by decide +kernel
theorem dX9_strike_23 : decode cX9_strike 23 = .ok (.imul, 1) := by decide +kernel
theorem dX9_strike_24 : decode cX9_strike 24 = .ok (.iload_n 2, 1) := by decide +kernel
theorem dX9_strike_25 : decode cX9_strike 25 = .ok (.iadd, 1) := by decide +kernel
theorem dX9_strike_26 : decode cX9_strike 26 = .ok (.baload, 1) := by decide +kernel
theorem dX9_strike_27 : decode cX9_strike 27 = .ok (.ifCond .ne 5, 3) := by decide +kernel
theorem dX9_strike_30 : decode cX9_strike 30 = .ok (.iconst 2, 1) := by decide +kernel
theorem dX9_strike_31 : decode cX9_strike 31 = .ok (.istore_n 3, 1) := by decide +kernel
theorem dX9_strike_32 : decode cX9_strike 32 = .ok (.iload_n 3, 1) := by decide +kernel
theorem dX9_strike_33 : decode cX9_strike 33 = .ok (.ifCond .eq 11, 3) := by decide +kernel
theorem dX9_strike_36 : decode cX9_strike 36 = .ok (.aload_n 0, 1) := by decide +kernel
theorem dX9_strike_37 : decode cX9_strike 37 = .ok (.iload_n 3, 1) := by decide +kernel
theorem dX9_strike_38 : decode cX9_strike 38 = .ok (.invokevirtual 168, 3) := by decide +kernel
theorem dX9_strike_41 : decode cX9_strike 41 = .ok (.pop, 1) := by decide +kernel
theorem dX9_strike_42 : decode cX9_strike 42 = .ok (.iconst 0, 1) := by decide +kernel
theorem dX9_strike_43 : decode cX9_strike 43 = .ok (.ireturn, 1) := by decide +kernel
theorem dX9_strike_44 : decode cX9_strike 44 = .ok (.aload_n 0, 1) := by decide +kernel
theorem dX9_strike_45 : decode cX9_strike 45 = .ok (.getfield 13, 3) := by decide +kernel
theorem dX9_strike_48 : decode cX9_strike 48 = .ok (.bipush 60, 2) := by decide +kernel
theorem dX9_strike_50 : decode cX9_strike 50 = .ok (.iload_n 1, 1) := by decide +kernel
theorem dX9_strike_51 : decode cX9_strike 51 = .ok (.imul, 1) := by decide +kernel
theorem dX9_strike_52 : decode cX9_strike 52 = .ok (.iload_n 2, 1) := by decide +kernel
theorem dX9_strike_53 : decode cX9_strike 53 = .ok (.iadd, 1) := by decide +kernel
theorem dX9_strike_54 : decode cX9_strike 54 = .ok (.iconst 0, 1) := by decide +kernel
theorem dX9_strike_55 : decode cX9_strike 55 = .ok (.bastore, 1) := by decide +kernel
theorem dX9_strike_56 : decode cX9_strike 56 = .ok (.iconst 1, 1) := by decide +kernel
theorem dX9_strike_57 : decode cX9_strike 57 = .ok (.ireturn, 1) := by decide +kernel
set_option maxHeartbeats 4000000 in
set_option maxRecDepth 100000 in
theorem g_X9_strike (l : Launch) (G : xG) (S : yS) (d : yD) (h0 : Nat) (p0 : Int32) (p1 : Int32) (hSh : ySh S) (hPo : yPo S d) (hm_h0 : h0 ∈ S.1) (hk_h0 : S.2.1 h0 = 9) (hI : yMI S d h0) : xWi l G yX9_strike cX9_strike 4 (some .boolean) 2 43 0 0 [.ref h0, .int p0, .int p1] (yW G S d) (fun r (u : yD) => yAg S [9, 34, 69] d u ∧ (yPo S d → yPo S u) ∧ yK [38] d u h0 ∧ (yMI S u h0 ∧ ((r.toInt = 0 ∧ ¬ (((0 ≤ p0.toInt ∧ p0.toInt ≤ 39 ∧ p0.toInt < (d.1 h0 0).toInt) ∧ 0 ≤ p1.toInt ∧ p1.toInt ≤ 59) ∧ (yCe S d h0 4 p0 p1).toInt ≠ 0) ∧ zTr S u h0 (fun s => d.2.2.2.1 (S.2.2.1 h0 s))) ∨ (r.toInt = 1 ∧ (((0 ≤ p0.toInt ∧ p0.toInt ≤ 39 ∧ p0.toInt < (d.1 h0 0).toInt) ∧ 0 ≤ p1.toInt ∧ p1.toInt ≤ 59) ∧ (yCe S d h0 4 p0 p1).toInt ≠ 0) ∧ zTr S u h0 (fun s => if s = 4 then upd (d.2.2.2.1 (S.2.2.1 h0 4)) (60 * p0.toInt.toNat + p1.toInt.toNat) (vp_nar .byte 0) else d.2.2.2.1 (S.2.2.1 h0 s)))))) (fun u => yW G S u) := by
  intro sz
  refine xstart (by decide) (Nat.le_of_ble_eq_true rfl) (fun p e s m args below meth c ls C0 hr hlocks hin hsz hP hK hD hN hl => ?_)
  obtain ⟨hx, hb, hml, hown, htl⟩ := id C0
  subst hsz
  have hD := hD.self (sz := s.heap.size)
  generalize hAe : va_A (yW G S d) s.heap.size = A at hD ⊢
  have hA : ∀ q : Nat, s.heap.size ≤ q → A q := fun q h => by rw [← hAe]; exact Or.inr h
  have hS : va_S A s.heap s.heap [] := va_S.rf
  have hg0 : yAg S [9, 34, 69] d d := yAg.rf
  have hl : lv_has ls 4 [(0, .ref h0), (1, .int p0), (2, .int p1)] := hl
  refine lv_aload_n hx hb dX9_strike_0 rfl (lv_at hl 0 rfl) ?_
  refine lv_iconst (v := 0) hx hb dX9_strike_1 (by decide) ?_
  refine yputI (ci := 9) (k := 38) (ty := .int) (C := RX9) (T := TX9) (N := 67) C0 hK hP hD hS hm_h0 hk_h0 (by decide) rfl inlX9 tyX9 tyX9_ok nmX9 (by decide) mW175 (fun _ h9 => h9) rfl (by decide +kernel) rfl rfl (Nat.le_of_ble_eq_true rfl) ysi_9_38 dX9_strike_2 (fun H locs hP hD hS => ?_)
  obtain ⟨d_1, ed_1⟩ : ∃ z : yD, z = yi d h0 38 0 := ⟨_, rfl⟩
  rw [← ed_1] at hP hD
  have hgd_1 : yAg S [9, 34, 69] d d_1 := by rw [ed_1]; exact yAg.i hg0 (by rw [hk_h0]; decide)
  have hsd_1 : yAg S [9] d d_1 := by rw [ed_1]; exact yAg.i yAg.rf (by rw [hk_h0]; decide)
  have hPod_1 : yPo S d_1 := by rw [ed_1]; exact yPo.i hPo hk_h0 (Or.inl rfl)
  have hfd_1 : yK [38] d d_1 h0 := by rw [ed_1]; exact yK.i yK.rf (by decide)
  have hId_1 : yMI S d_1 h0 := yMI.ag hI hSh hm_h0 hk_h0 (show yAg S [9] d d_1 from by rw [ed_1]; exact yAg.i yAg.rf (by rw [hk_h0]; decide)) (show yK [38] d d_1 h0 from by rw [ed_1]; exact yK.i yK.rf (by decide)) (by decide) (by decide)
  have hE0d_1 : (d_1.1 h0 0).toInt = (d.1 h0 0).toInt := congrArg Int32.toInt ((show yK [38] d d_1 h0 from by rw [ed_1]; exact yK.i yK.rf (by decide)) 0 (by decide))
  have hE1d_1 : (d_1.1 h0 1).toInt = (d.1 h0 1).toInt := congrArg Int32.toInt ((show yK [38] d d_1 h0 from by rw [ed_1]; exact yK.i yK.rf (by decide)) 1 (by decide))
  have hE2d_1 : (d_1.1 h0 2).toInt = (d.1 h0 2).toInt := congrArg Int32.toInt ((show yK [38] d d_1 h0 from by rw [ed_1]; exact yK.i yK.rf (by decide)) 2 (by decide))
  have hE3d_1 : (d_1.1 h0 3).toInt = (d.1 h0 3).toInt := congrArg Int32.toInt ((show yK [38] d d_1 h0 from by rw [ed_1]; exact yK.i yK.rf (by decide)) 3 (by decide))
  have hE63d_1 : (d_1.1 h0 63).toInt = (d.1 h0 63).toInt := congrArg Int32.toInt ((show yK [38] d d_1 h0 from by rw [ed_1]; exact yK.i yK.rf (by decide)) 63 (by decide))
  refine lv_aload_n hx hb dX9_strike_5 rfl (lv_at hl 0 rfl) ?_
  refine lv_iload_n hx hb dX9_strike_6 rfl (lv_at hl 1 rfl) ?_
  refine lv_iload_n hx hb dX9_strike_7 rfl (lv_at hl 2 rfl) ?_
  refine yVri (As := [.int p0, .int p1]) (rest := []) C0 (g_X9_placeWhy l G S d_1 h0 p0 p1 hSh hm_h0 hk_h0) ok_X9_placeWhy (mW222 : Cond.methodLink RX9 171 yX9_placeWhy ∈ wsT) ⟨Nat.le_of_ble_eq_true rfl, Nat.le_of_ble_eq_true rfl⟩ hP hD hK hN hm_h0 hk_h0 (by decide) rfl rfl rfl hl.1 rfl (Nat.le_of_ble_eq_true rfl) ⟨Nat.le_of_ble_eq_true rfl, Nat.le_of_ble_eq_true rfl⟩ dX9_strike_8 (fun r_2 hr_2 => ?_)
  refine lv_istore_n (lv' := [(3, .int r_2), (0, .ref h0), (1, .int p0), (2, .int p1)]) hx hb dX9_strike_11 rfl hl (by decide) rfl (fun ls hl => ?_)
  refine lv_iload_n hx hb dX9_strike_12 rfl (lv_at hl 0 rfl) ?_
  refine lv_if_ne (tgt := 32) hx hb dX9_strike_13 (by decide) (fun c_3 => ?_) (fun c_3 => ?_)
  · refine lv_iload_n hx hb dX9_strike_32 rfl (lv_at hl 0 rfl) ?_
    refine lv_if_eq (tgt := 44) hx hb dX9_strike_33 (by decide) (fun c_4 => absurd c_4 c_3) (fun c_4 => ?_)
    refine lv_aload_n hx hb dX9_strike_36 rfl (lv_at hl 1 rfl) ?_
    refine lv_iload_n hx hb dX9_strike_37 rfl (lv_at hl 0 rfl) ?_
    have F_5 := fne (rfl : (r_2 : Int32).toInt = (r_2 : Int32).toInt) (by decide +kernel : (0 : Int32).toInt = 0) c_3
    have F_6 := fne (rfl : (r_2 : Int32).toInt = (r_2 : Int32).toInt) (by decide +kernel : (0 : Int32).toInt = 0) c_4
    refine yVwi (As := [.int r_2]) (rest := []) C0 (g_X9_no l G S d_1 h0 r_2 hSh hPod_1 hm_h0 hk_h0 (by refine ⟨?_, ?_⟩ <;> omega)) ok_X9_no (mW177 : Cond.methodLink RX9 168 yX9_no ∈ wsT) ⟨Nat.le_of_ble_eq_true rfl, Nat.le_of_ble_eq_true rfl⟩ hP hD hS hA hK hN hm_h0 hk_h0 (by decide) rfl rfl rfl hl.1 rfl (Nat.le_of_ble_eq_true rfl) ⟨Nat.le_of_ble_eq_true rfl, Nat.le_of_ble_eq_true rfl⟩ dX9_strike_38 (fun r_7 d_8 H locs hr_7 hP hD hS => ?_)
    obtain ⟨hgad_8, hpad_8, hfad_8, hxd_8⟩ := hr_7
    have hfd_8 : yK [38] d d_8 h0 := yK.tr hfd_1 hfad_8 (by decide)
    have hE0d_8 : (d_8.1 h0 0).toInt = (d_1.1 h0 0).toInt := congrArg Int32.toInt (hfad_8 0 (by decide))
    have hE1d_8 : (d_8.1 h0 1).toInt = (d_1.1 h0 1).toInt := congrArg Int32.toInt (hfad_8 1 (by decide))
    have hE2d_8 : (d_8.1 h0 2).toInt = (d_1.1 h0 2).toInt := congrArg Int32.toInt (hfad_8 2 (by decide))
    have hE3d_8 : (d_8.1 h0 3).toInt = (d_1.1 h0 3).toInt := congrArg Int32.toInt (hfad_8 3 (by decide))
    have hE63d_8 : (d_8.1 h0 63).toInt = (d_1.1 h0 63).toInt := congrArg Int32.toInt (hfad_8 63 (by decide))
    have hId_8 : yMI S d_8 h0 := yMI.ag hId_1 hSh hm_h0 hk_h0 hgad_8 hfad_8 (by decide) (by decide)
    have hgd_8 : yAg S [9, 34, 69] d d_8 := yAg.tr hgd_1 hgad_8 (by first | decide | exact fun _ h => h)
    have hPod_8 : yPo S d_8 := hpad_8 hPod_1
    refine lv_pop hx hb dX9_strike_41 rfl ?_
    refine lv_iconst (v := 0) hx hb dX9_strike_42 (by decide) ?_
    have hCC_9 := yMI.c hId_8
    exact W.zret (v := 0) (ty := .boolean) hx hb hr rfl (fun t ht hW => ⟨⟨0, d_8, rfl, ⟨hgd_8, (fun _ => hPod_8), hfd_8, ⟨hId_8, Or.inl ⟨by have h0_ : (0 : Int32).toInt = 0 := (by decide +kernel); omega, by omega, (zTr.ag (zTr.ag zTr.rf hSh hm_h0 hk_h0 hsd_1 (by decide)) hSh hm_h0 hk_h0 hgad_8 (by decide))⟩⟩⟩, by rw [ht]; exact hP, hD⟩, hS.F ht⟩) hS.2.2 dX9_strike_43
  · refine lv_aload_n hx hb dX9_strike_16 rfl (lv_at hl 1 rfl) ?_
    refine yget (ci := 9) (k := 4) (v := .ref (S.2.2.1 h0 4)) (C := RX9) (T := TX9) (N := 67) C0 hK hP hm_h0 hk_h0 (by decide) rfl inlX9 (by decide) mW108 (fun _ h9 => h9) rfl dX9_strike_17 ?_
    obtain ⟨hmy_10, hky_10⟩ := ySh.f9_4 hSh _ hm_h0 hk_h0
    refine lv_bipush (v := 60) hx hb dX9_strike_20 (by decide) ?_
    refine lv_iload_n hx hb dX9_strike_22 rfl (lv_at hl 2 rfl) ?_
    refine lv_imul hx hb dX9_strike_23 ?_
    refine lv_topi (fun z_11 ez_11 => ?_)
    refine lv_iload_n hx hb dX9_strike_24 rfl (lv_at hl 3 rfl) ?_
    refine lv_iadd hx hb dX9_strike_25 ?_
    refine lv_topi (fun z_12 ez_12 => ?_)
    have hCC_13 := yMI.c hId_1
    have F_14 := feq (rfl : (r_2 : Int32).toInt = (r_2 : Int32).toInt) (by decide +kernel : (0 : Int32).toInt = 0) c_3
    have T_16 : (z_11 : Int32).toInt = 60 * (p0 : Int32).toInt := tmul ez_11 (by decide +kernel : (60 : Int32).toInt = 60) (rfl : (p0 : Int32).toInt = (p0 : Int32).toInt) (by omega) (by omega)
    have T_15 : (z_12 : Int32).toInt = (z_11 : Int32).toInt + (p1 : Int32).toInt := tadd ez_12 (rfl : (z_11 : Int32).toInt = (z_11 : Int32).toInt) (rfl : (p1 : Int32).toInt = (p1 : Int32).toInt) (by omega) (by omega)
    refine yaldB C0 hK hP hmy_10 hky_10 (by decide) rfl 1 rfl (xinT 2400 rfl (by omega) (by omega)) dX9_strike_26 ?_
    refine lv_topi (fun z_17 ez_17 => ?_)
    refine lv_if_ne (tgt := 32) hx hb dX9_strike_27 (by decide) (fun c_18 => ?_) (fun c_18 => ?_)
    · refine lv_iload_n hx hb dX9_strike_32 rfl (lv_at hl 0 rfl) ?_
      refine lv_if_eq (tgt := 44) hx hb dX9_strike_33 (by decide) (fun c_19 => ?_) (fun c_19 => absurd c_3 c_19)
      refine lv_aload_n hx hb dX9_strike_44 rfl (lv_at hl 1 rfl) ?_
      refine yget (ci := 9) (k := 4) (v := .ref (S.2.2.1 h0 4)) (C := RX9) (T := TX9) (N := 67) C0 hK hP hm_h0 hk_h0 (by decide) rfl inlX9 (by decide) mW108 (fun _ h9 => h9) rfl dX9_strike_45 ?_
      refine lv_bipush (v := 60) hx hb dX9_strike_48 (by decide) ?_
      refine lv_iload_n hx hb dX9_strike_50 rfl (lv_at hl 2 rfl) ?_
      refine lv_imul hx hb dX9_strike_51 ?_
      refine lv_topi (fun z_20 ez_20 => ?_)
      refine lv_iload_n hx hb dX9_strike_52 rfl (lv_at hl 3 rfl) ?_
      refine lv_iadd hx hb dX9_strike_53 ?_
      refine lv_topi (fun z_21 ez_21 => ?_)
      refine lv_iconst (v := 0) hx hb dX9_strike_54 (by decide) ?_
      have F_23 := fne (rfl : (z_17 : Int32).toInt = (z_17 : Int32).toInt) (by decide +kernel : (0 : Int32).toInt = 0) c_18
      have F_24 := feq (rfl : (r_2 : Int32).toInt = (r_2 : Int32).toInt) (by decide +kernel : (0 : Int32).toInt = 0) c_19
      have T_26 : (z_20 : Int32).toInt = 60 * (p0 : Int32).toInt := tmul ez_20 (by decide +kernel : (60 : Int32).toInt = 60) (rfl : (p0 : Int32).toInt = (p0 : Int32).toInt) (by omega) (by omega)
      have T_25 : (z_21 : Int32).toInt = (z_20 : Int32).toInt + (p1 : Int32).toInt := tadd ez_21 (rfl : (z_20 : Int32).toInt = (z_20 : Int32).toInt) (rfl : (p1 : Int32).toInt = (p1 : Int32).toInt) (by omega) (by omega)
      refine yastB C0 hK hP hD hS hmy_10 hky_10 (by decide) rfl 1 rfl (xinT 2400 rfl (by omega) (by omega)) dX9_strike_55 (fun H locs hP hD hS => ?_)
      obtain ⟨d_27, ed_27⟩ : ∃ z : yD, z = ycs d_1 (S.2.2.1 h0 4) (upd (d_1.2.2.2.1 (S.2.2.1 h0 4)) (z_21 : Int32).toNatClampNeg (vp_nar .byte 0)) := ⟨_, rfl⟩
      rw [← ed_27] at hP hD
      have hgd_27 : yAg S [9, 34, 69] d d_27 := by rw [ed_27]; exact yAg.cs hgd_1 (by rw [hky_10]; decide)
      have hsd_27 : yAg S [34] d_1 d_27 := by rw [ed_27]; exact yAg.cs yAg.rf (by rw [hky_10]; decide)
      have hPod_27 : yPo S d_27 := by rw [ed_27]; exact hPod_1
      have hfd_27 : yK [38] d d_27 h0 := yK.ag hfd_1 (show yAg S [34] d_1 d_27 from by rw [ed_27]; exact yAg.cs yAg.rf (by rw [hky_10]; decide)) (by rw [hk_h0]; decide)
      have hId_27 : yMI S d_27 h0 := yMI.ag hId_1 hSh hm_h0 hk_h0 (show yAg S [34] d_1 d_27 from by rw [ed_27]; exact yAg.cs yAg.rf (by rw [hky_10]; decide)) (yK.ag (F := []) yK.rf (show yAg S [34] d_1 d_27 from by rw [ed_27]; exact yAg.cs yAg.rf (by rw [hky_10]; decide)) (by rw [hk_h0]; decide)) (by decide) (by decide)
      have hE0d_27 : (d_27.1 h0 0).toInt = (d_1.1 h0 0).toInt := congrArg Int32.toInt ((yK.ag (F := []) yK.rf (show yAg S [34] d_1 d_27 from by rw [ed_27]; exact yAg.cs yAg.rf (by rw [hky_10]; decide)) (by rw [hk_h0]; decide)) 0 (by decide))
      have hE1d_27 : (d_27.1 h0 1).toInt = (d_1.1 h0 1).toInt := congrArg Int32.toInt ((yK.ag (F := []) yK.rf (show yAg S [34] d_1 d_27 from by rw [ed_27]; exact yAg.cs yAg.rf (by rw [hky_10]; decide)) (by rw [hk_h0]; decide)) 1 (by decide))
      have hE2d_27 : (d_27.1 h0 2).toInt = (d_1.1 h0 2).toInt := congrArg Int32.toInt ((yK.ag (F := []) yK.rf (show yAg S [34] d_1 d_27 from by rw [ed_27]; exact yAg.cs yAg.rf (by rw [hky_10]; decide)) (by rw [hk_h0]; decide)) 2 (by decide))
      have hE3d_27 : (d_27.1 h0 3).toInt = (d_1.1 h0 3).toInt := congrArg Int32.toInt ((yK.ag (F := []) yK.rf (show yAg S [34] d_1 d_27 from by rw [ed_27]; exact yAg.cs yAg.rf (by rw [hky_10]; decide)) (by rw [hk_h0]; decide)) 3 (by decide))
      have hE63d_27 : (d_27.1 h0 63).toInt = (d_1.1 h0 63).toInt := congrArg Int32.toInt ((yK.ag (F := []) yK.rf (show yAg S [34] d_1 d_27 from by rw [ed_27]; exact yAg.cs yAg.rf (by rw [hky_10]; decide)) (by rw [hk_h0]; decide)) 63 (by decide))
      refine lv_iconst (v := 1) hx hb dX9_strike_56 (by decide) ?_
      have hCC_28 := yMI.c hId_27
      have hcez_17 : z_17 = yCe S d_1 h0 4 p0 p1 := yCe_of (by omega) (by omega) (by omega) ez_17
      have hcdz_17 : yCe S d_1 h0 4 p0 p1 = yCe S d h0 4 p0 p1 := by unfold yCe; rw [show d_1.2.2.2.1 (S.2.2.1 h0 4) = d.2.2.2.1 (S.2.2.1 h0 4) from (hsd_1 _ (by rw [(ySh.f9_4 hSh h0 hm_h0 hk_h0).2]; decide)).2.2.2.1]
      have hctz_17 : (z_17 : Int32).toInt = (yCe S d h0 4 p0 p1).toInt := congrArg Int32.toInt (hcez_17.trans hcdz_17)
      rw [show (z_21 : Int32).toNatClampNeg = (60 * p0.toInt.toNat + p1.toInt.toNat) from (show (z_21 : Int32).toInt.toNat = _ by omega), show d_1.2.2.2.1 (S.2.2.1 h0 4) = d.2.2.2.1 (S.2.2.1 h0 4) from (hsd_1 _ (by rw [(ySh.f9_4 hSh h0 hm_h0 hk_h0).2]; decide)).2.2.2.1] at ed_27
      exact W.zret (v := 1) (ty := .boolean) hx hb hr rfl (fun t ht hW => ⟨⟨1, d_27, rfl, ⟨hgd_27, (fun _ => hPod_27), hfd_27, ⟨hId_27, Or.inr ⟨by have h0_ : (1 : Int32).toInt = 1 := (by decide +kernel); omega, by omega, (zTr.put (zTr.ag zTr.rf hSh hm_h0 hk_h0 hsd_1 (by decide)) hSh hm_h0 hk_h0 (by decide) (by decide) ed_27)⟩⟩⟩, by rw [ht]; exact hP, hD⟩, hS.F ht⟩) hS.2.2 dX9_strike_57
    · refine lv_iconst (v := 2) hx hb dX9_strike_30 (by decide) ?_
      refine lv_istore_n (lv' := [(3, .int 2), (0, .ref h0), (1, .int p0), (2, .int p1)]) hx hb dX9_strike_31 rfl hl (by decide) rfl (fun ls hl => ?_)
      refine lv_iload_n hx hb dX9_strike_32 rfl (lv_at hl 0 rfl) ?_
      refine lv_if_eq (tgt := 44) hx hb dX9_strike_33 (by decide) (fun c_29 => absurd c_29 (by decide +kernel)) (fun c_29 => ?_)
      refine lv_aload_n hx hb dX9_strike_36 rfl (lv_at hl 1 rfl) ?_
      refine lv_iload_n hx hb dX9_strike_37 rfl (lv_at hl 0 rfl) ?_
      refine yVwi (As := [.int 2]) (rest := []) C0 (g_X9_no l G S d_1 h0 2 hSh hPod_1 hm_h0 hk_h0 (by decide +kernel)) ok_X9_no (mW177 : Cond.methodLink RX9 168 yX9_no ∈ wsT) ⟨Nat.le_of_ble_eq_true rfl, Nat.le_of_ble_eq_true rfl⟩ hP hD hS hA hK hN hm_h0 hk_h0 (by decide) rfl rfl rfl hl.1 rfl (Nat.le_of_ble_eq_true rfl) ⟨Nat.le_of_ble_eq_true rfl, Nat.le_of_ble_eq_true rfl⟩ dX9_strike_38 (fun r_30 d_31 H locs hr_30 hP hD hS => ?_)
      obtain ⟨hgad_31, hpad_31, hfad_31, hxd_31⟩ := hr_30
      have hfd_31 : yK [38] d d_31 h0 := yK.tr hfd_1 hfad_31 (by decide)
      have hE0d_31 : (d_31.1 h0 0).toInt = (d_1.1 h0 0).toInt := congrArg Int32.toInt (hfad_31 0 (by decide))
      have hE1d_31 : (d_31.1 h0 1).toInt = (d_1.1 h0 1).toInt := congrArg Int32.toInt (hfad_31 1 (by decide))
      have hE2d_31 : (d_31.1 h0 2).toInt = (d_1.1 h0 2).toInt := congrArg Int32.toInt (hfad_31 2 (by decide))
      have hE3d_31 : (d_31.1 h0 3).toInt = (d_1.1 h0 3).toInt := congrArg Int32.toInt (hfad_31 3 (by decide))
      have hE63d_31 : (d_31.1 h0 63).toInt = (d_1.1 h0 63).toInt := congrArg Int32.toInt (hfad_31 63 (by decide))
      have hId_31 : yMI S d_31 h0 := yMI.ag hId_1 hSh hm_h0 hk_h0 hgad_31 hfad_31 (by decide) (by decide)
      have hgd_31 : yAg S [9, 34, 69] d d_31 := yAg.tr hgd_1 hgad_31 (by first | decide | exact fun _ h => h)
      have hPod_31 : yPo S d_31 := hpad_31 hPod_1
      refine lv_pop hx hb dX9_strike_41 rfl ?_
      refine lv_iconst (v := 0) hx hb dX9_strike_42 (by decide) ?_
      have hCC_32 := yMI.c hId_31
      have F_34 := feq (rfl : (z_17 : Int32).toInt = (z_17 : Int32).toInt) (by decide +kernel : (0 : Int32).toInt = 0) c_18
      have F_35 := fne (by decide +kernel : (2 : Int32).toInt = 2) (by decide +kernel : (0 : Int32).toInt = 0) c_29
      have hcez_17 : z_17 = yCe S d_1 h0 4 p0 p1 := yCe_of (by omega) (by omega) (by omega) ez_17
      have hcdz_17 : yCe S d_1 h0 4 p0 p1 = yCe S d h0 4 p0 p1 := by unfold yCe; rw [show d_1.2.2.2.1 (S.2.2.1 h0 4) = d.2.2.2.1 (S.2.2.1 h0 4) from (hsd_1 _ (by rw [(ySh.f9_4 hSh h0 hm_h0 hk_h0).2]; decide)).2.2.2.1]
      have hctz_17 : (z_17 : Int32).toInt = (yCe S d h0 4 p0 p1).toInt := congrArg Int32.toInt (hcez_17.trans hcdz_17)
      exact W.zret (v := 0) (ty := .boolean) hx hb hr rfl (fun t ht hW => ⟨⟨0, d_31, rfl, ⟨hgd_31, (fun _ => hPod_31), hfd_31, ⟨hId_31, Or.inl ⟨by have h0_ : (0 : Int32).toInt = 0 := (by decide +kernel); omega, by omega, (zTr.ag (zTr.ag zTr.rf hSh hm_h0 hk_h0 hsd_1 (by decide)) hSh hm_h0 hk_h0 hgad_31 (by decide))⟩⟩⟩, by rw [ht]; exact hP, hD⟩, hS.F ht⟩) hS.2.2 dX9_strike_43
theorem dX9_kind_0 : decode cX9_kind 0 = .ok (.aload_n 0, 1) := by decide +kernel
theorem dX9_kind_1 : decode cX9_kind 1 = .ok (.iconst 0, 1) := by decide +kernel
theorem dX9_kind_2 : decode cX9_kind 2 = .ok (.putfield 147, 3) := by decide +kernel
theorem dX9_kind_5 : decode cX9_kind 5 = .ok (.aload_n 0, 1) := by decide +kernel
theorem dX9_kind_6 : decode cX9_kind 6 = .ok (.iload_n 1, 1) := by decide +kernel
theorem dX9_kind_7 : decode cX9_kind 7 = .ok (.iload_n 2, 1) := by decide +kernel
theorem dX9_kind_8 : decode cX9_kind 8 = .ok (.invokevirtual 171, 3) := by decide +kernel
theorem dX9_kind_11 : decode cX9_kind 11 = .ok (.istore_n 3, 1) := by decide +kernel
theorem dX9_kind_12 : decode cX9_kind 12 = .ok (.iload_n 3, 1) := by decide +kernel
theorem dX9_kind_13 : decode cX9_kind 13 = .ok (.ifCond .eq 9, 3) := by decide +kernel
theorem dX9_kind_16 : decode cX9_kind 16 = .ok (.aload_n 0, 1) := by decide +kernel
theorem dX9_kind_17 : decode cX9_kind 17 = .ok (.iload_n 3, 1) := by decide +kernel
theorem dX9_kind_18 : decode cX9_kind 18 = .ok (.invokevirtual 168, 3) := by decide +kernel
theorem dX9_kind_21 : decode cX9_kind 21 = .ok (.ireturn, 1) := by decide +kernel
theorem dX9_kind_22 : decode cX9_kind 22 = .ok (.bipush 60, 2) := by decide +kernel
theorem dX9_kind_24 : decode cX9_kind 24 = .ok (.iload_n 1, 1) := by decide +kernel
theorem dX9_kind_25 : decode cX9_kind 25 = .ok (.imul, 1) := by decide +kernel
theorem dX9_kind_26 : decode cX9_kind 26 = .ok (.iload_n 2, 1) := by decide +kernel
theorem dX9_kind_27 : decode cX9_kind 27 = .ok (.iadd, 1) := by decide +kernel
theorem dX9_kind_28 : decode cX9_kind 28 = .ok (.istore 4, 2) := by decide +kernel
theorem dX9_kind_30 : decode cX9_kind 30 = .ok (.aload_n 0, 1) := by decide +kernel
theorem dX9_kind_31 : decode cX9_kind 31 = .ok (.getfield 13, 3) := by decide +kernel
theorem dX9_kind_34 : decode cX9_kind 34 = .ok (.iload 4, 2) := by decide +kernel
theorem dX9_kind_36 : decode cX9_kind 36 = .ok (.baload, 1) := by decide +kernel
theorem dX9_kind_37 : decode cX9_kind 37 = .ok (.ifCond .ne 8, 3) := by decide +kernel
theorem dX9_kind_40 : decode cX9_kind 40 = .ok (.bipush 6, 2) := by decide +kernel
theorem dX9_kind_42 : decode cX9_kind 42 = .ok (.goto 25, 3) := by decide +kernel
theorem dX9_kind_45 : decode cX9_kind 45 = .ok (.aload_n 0, 1) := by decide +kernel
theorem dX9_kind_46 : decode cX9_kind 46 = .ok (.getfield 13, 3) := by decide +kernel
theorem dX9_kind_49 : decode cX9_kind 49 = .ok (.iload 4, 2) := by decide +kernel
theorem dX9_kind_51 : decode cX9_kind 51 = .ok (.baload, 1) := by decide +kernel
theorem dX9_kind_52 : decode cX9_kind 52 = .ok (.iconst 1, 1) := by decide +kernel
theorem dX9_kind_53 : decode cX9_kind 53 = .ok (.if_icmp .ne 7, 3) := by decide +kernel
theorem dX9_kind_56 : decode cX9_kind 56 = .ok (.iconst 5, 1) := by decide +kernel
theorem dX9_kind_57 : decode cX9_kind 57 = .ok (.goto 10, 3) := by decide +kernel
theorem dX9_kind_60 : decode cX9_kind 60 = .ok (.aload_n 0, 1) := by decide +kernel
theorem dX9_kind_61 : decode cX9_kind 61 = .ok (.getfield 17, 3) := by decide +kernel
theorem dX9_kind_64 : decode cX9_kind 64 = .ok (.iload 4, 2) := by decide +kernel
theorem dX9_kind_66 : decode cX9_kind 66 = .ok (.baload, 1) := by decide +kernel
theorem dX9_kind_67 : decode cX9_kind 67 = .ok (.ireturn, 1) := by decide +kernel
set_option maxHeartbeats 4000000 in
set_option maxRecDepth 100000 in
theorem g_X9_kind (l : Launch) (G : xG) (S : yS) (d : yD) (h0 : Nat) (p0 : Int32) (p1 : Int32) (hSh : ySh S) (hPo : yPo S d) (hm_h0 : h0 ∈ S.1) (hk_h0 : S.2.1 h0 = 9) (hI : yMI S d h0) : xWi l G yX9_kind cX9_kind 5 (some .int) 2 43 0 0 [.ref h0, .int p0, .int p1] (yW G S d) (fun r (u : yD) => yAg S [9, 69] d u ∧ (yPo S d → yPo S u) ∧ yK [38] d u h0 ∧ (yMI S u h0 ∧ ((r.toInt = -1 ∧ ¬ ((0 ≤ p0.toInt ∧ p0.toInt ≤ 39 ∧ p0.toInt < (d.1 h0 0).toInt) ∧ 0 ≤ p1.toInt ∧ p1.toInt ≤ 59) ∧ zTr S u h0 (fun s => d.2.2.2.1 (S.2.2.1 h0 s))) ∨ (((0 ≤ p0.toInt ∧ p0.toInt ≤ 39 ∧ p0.toInt < (d.1 h0 0).toInt) ∧ 0 ≤ p1.toInt ∧ p1.toInt ≤ 59) ∧ (((yCe S d h0 4 p0 p1).toInt = 0 → r.toInt = 6) ∧ ((yCe S d h0 4 p0 p1).toInt = 1 → r.toInt = 5) ∧ ((yCe S d h0 4 p0 p1).toInt ≠ 0 → (yCe S d h0 4 p0 p1).toInt ≠ 1 → r = yCe S d h0 5 p0 p1)) ∧ zTr S u h0 (fun s => d.2.2.2.1 (S.2.2.1 h0 s)))))) (fun u => yW G S u) := by
  intro sz
  refine xstart (by decide) (Nat.le_of_ble_eq_true rfl) (fun p e s m args below meth c ls C0 hr hlocks hin hsz hP hK hD hN hl => ?_)
  obtain ⟨hx, hb, hml, hown, htl⟩ := id C0
  subst hsz
  have hD := hD.self (sz := s.heap.size)
  generalize hAe : va_A (yW G S d) s.heap.size = A at hD ⊢
  have hA : ∀ q : Nat, s.heap.size ≤ q → A q := fun q h => by rw [← hAe]; exact Or.inr h
  have hS : va_S A s.heap s.heap [] := va_S.rf
  have hg0 : yAg S [9, 69] d d := yAg.rf
  have hl : lv_has ls 5 [(0, .ref h0), (1, .int p0), (2, .int p1)] := hl
  refine lv_aload_n hx hb dX9_kind_0 rfl (lv_at hl 0 rfl) ?_
  refine lv_iconst (v := 0) hx hb dX9_kind_1 (by decide) ?_
  refine yputI (ci := 9) (k := 38) (ty := .int) (C := RX9) (T := TX9) (N := 67) C0 hK hP hD hS hm_h0 hk_h0 (by decide) rfl inlX9 tyX9 tyX9_ok nmX9 (by decide) mW175 (fun _ h9 => h9) rfl (by decide +kernel) rfl rfl (Nat.le_of_ble_eq_true rfl) ysi_9_38 dX9_kind_2 (fun H locs hP hD hS => ?_)
  obtain ⟨d_1, ed_1⟩ : ∃ z : yD, z = yi d h0 38 0 := ⟨_, rfl⟩
  rw [← ed_1] at hP hD
  have hgd_1 : yAg S [9, 69] d d_1 := by rw [ed_1]; exact yAg.i hg0 (by rw [hk_h0]; decide)
  have hsd_1 : yAg S [9] d d_1 := by rw [ed_1]; exact yAg.i yAg.rf (by rw [hk_h0]; decide)
  have hPod_1 : yPo S d_1 := by rw [ed_1]; exact yPo.i hPo hk_h0 (Or.inl rfl)
  have hfd_1 : yK [38] d d_1 h0 := by rw [ed_1]; exact yK.i yK.rf (by decide)
  have hId_1 : yMI S d_1 h0 := yMI.ag hI hSh hm_h0 hk_h0 (show yAg S [9] d d_1 from by rw [ed_1]; exact yAg.i yAg.rf (by rw [hk_h0]; decide)) (show yK [38] d d_1 h0 from by rw [ed_1]; exact yK.i yK.rf (by decide)) (by decide) (by decide)
  have hE0d_1 : (d_1.1 h0 0).toInt = (d.1 h0 0).toInt := congrArg Int32.toInt ((show yK [38] d d_1 h0 from by rw [ed_1]; exact yK.i yK.rf (by decide)) 0 (by decide))
  have hE1d_1 : (d_1.1 h0 1).toInt = (d.1 h0 1).toInt := congrArg Int32.toInt ((show yK [38] d d_1 h0 from by rw [ed_1]; exact yK.i yK.rf (by decide)) 1 (by decide))
  have hE2d_1 : (d_1.1 h0 2).toInt = (d.1 h0 2).toInt := congrArg Int32.toInt ((show yK [38] d d_1 h0 from by rw [ed_1]; exact yK.i yK.rf (by decide)) 2 (by decide))
  have hE3d_1 : (d_1.1 h0 3).toInt = (d.1 h0 3).toInt := congrArg Int32.toInt ((show yK [38] d d_1 h0 from by rw [ed_1]; exact yK.i yK.rf (by decide)) 3 (by decide))
  have hE63d_1 : (d_1.1 h0 63).toInt = (d.1 h0 63).toInt := congrArg Int32.toInt ((show yK [38] d d_1 h0 from by rw [ed_1]; exact yK.i yK.rf (by decide)) 63 (by decide))
  refine lv_aload_n hx hb dX9_kind_5 rfl (lv_at hl 0 rfl) ?_
  refine lv_iload_n hx hb dX9_kind_6 rfl (lv_at hl 1 rfl) ?_
  refine lv_iload_n hx hb dX9_kind_7 rfl (lv_at hl 2 rfl) ?_
  refine yVri (As := [.int p0, .int p1]) (rest := []) C0 (g_X9_placeWhy l G S d_1 h0 p0 p1 hSh hm_h0 hk_h0) ok_X9_placeWhy (mW222 : Cond.methodLink RX9 171 yX9_placeWhy ∈ wsT) ⟨Nat.le_of_ble_eq_true rfl, Nat.le_of_ble_eq_true rfl⟩ hP hD hK hN hm_h0 hk_h0 (by decide) rfl rfl rfl hl.1 rfl (Nat.le_of_ble_eq_true rfl) ⟨Nat.le_of_ble_eq_true rfl, Nat.le_of_ble_eq_true rfl⟩ dX9_kind_8 (fun r_2 hr_2 => ?_)
  refine lv_istore_n (lv' := [(3, .int r_2), (0, .ref h0), (1, .int p0), (2, .int p1)]) hx hb dX9_kind_11 rfl hl (by decide) rfl (fun ls hl => ?_)
  refine lv_iload_n hx hb dX9_kind_12 rfl (lv_at hl 0 rfl) ?_
  refine lv_if_eq (tgt := 22) hx hb dX9_kind_13 (by decide) (fun c_3 => ?_) (fun c_3 => ?_)
  · refine lv_bipush (v := 60) hx hb dX9_kind_22 (by decide) ?_
    refine lv_iload_n hx hb dX9_kind_24 rfl (lv_at hl 2 rfl) ?_
    refine lv_imul hx hb dX9_kind_25 ?_
    refine lv_topi (fun z_4 ez_4 => ?_)
    refine lv_iload_n hx hb dX9_kind_26 rfl (lv_at hl 3 rfl) ?_
    refine lv_iadd hx hb dX9_kind_27 ?_
    refine lv_topi (fun z_5 ez_5 => ?_)
    refine lv_istore (lv' := [(4, .int z_5), (3, .int r_2), (0, .ref h0), (1, .int p0), (2, .int p1)]) hx hb dX9_kind_28 hl (by decide) rfl (fun ls hl => ?_)
    refine lv_aload_n hx hb dX9_kind_30 rfl (lv_at hl 2 rfl) ?_
    refine yget (ci := 9) (k := 4) (v := .ref (S.2.2.1 h0 4)) (C := RX9) (T := TX9) (N := 67) C0 hK hP hm_h0 hk_h0 (by decide) rfl inlX9 (by decide) mW108 (fun _ h9 => h9) rfl dX9_kind_31 ?_
    obtain ⟨hmy_6, hky_6⟩ := ySh.f9_4 hSh _ hm_h0 hk_h0
    refine lv_iload hx hb dX9_kind_34 (lv_at hl 0 rfl) ?_
    have hCC_7 := yMI.c hId_1
    have F_8 := feq (rfl : (r_2 : Int32).toInt = (r_2 : Int32).toInt) (by decide +kernel : (0 : Int32).toInt = 0) c_3
    have T_10 : (z_4 : Int32).toInt = 60 * (p0 : Int32).toInt := tmul ez_4 (by decide +kernel : (60 : Int32).toInt = 60) (rfl : (p0 : Int32).toInt = (p0 : Int32).toInt) (by omega) (by omega)
    have T_9 : (z_5 : Int32).toInt = (z_4 : Int32).toInt + (p1 : Int32).toInt := tadd ez_5 (rfl : (z_4 : Int32).toInt = (z_4 : Int32).toInt) (rfl : (p1 : Int32).toInt = (p1 : Int32).toInt) (by omega) (by omega)
    refine yaldB C0 hK hP hmy_6 hky_6 (by decide) rfl 1 rfl (xinT 2400 rfl (by omega) (by omega)) dX9_kind_36 ?_
    refine lv_topi (fun z_11 ez_11 => ?_)
    refine lv_if_ne (tgt := 45) hx hb dX9_kind_37 (by decide) (fun c_12 => ?_) (fun c_12 => ?_)
    · refine lv_aload_n hx hb dX9_kind_45 rfl (lv_at hl 2 rfl) ?_
      refine yget (ci := 9) (k := 4) (v := .ref (S.2.2.1 h0 4)) (C := RX9) (T := TX9) (N := 67) C0 hK hP hm_h0 hk_h0 (by decide) rfl inlX9 (by decide) mW108 (fun _ h9 => h9) rfl dX9_kind_46 ?_
      refine lv_iload hx hb dX9_kind_49 (lv_at hl 0 rfl) ?_
      have F_14 := fne (rfl : (z_11 : Int32).toInt = (z_11 : Int32).toInt) (by decide +kernel : (0 : Int32).toInt = 0) c_12
      refine yaldB C0 hK hP hmy_6 hky_6 (by decide) rfl 1 rfl (xinT 2400 rfl (by omega) (by omega)) dX9_kind_51 ?_
      refine lv_topi (fun z_15 ez_15 => ?_)
      refine lv_iconst (v := 1) hx hb dX9_kind_52 (by decide) ?_
      refine lv_icmp_ne (tgt := 60) hx hb dX9_kind_53 (by decide) (fun c_16 => ?_) (fun c_16 => ?_)
      · refine lv_aload_n hx hb dX9_kind_60 rfl (lv_at hl 2 rfl) ?_
        refine yget (ci := 9) (k := 5) (v := .ref (S.2.2.1 h0 5)) (C := RX9) (T := TX9) (N := 67) C0 hK hP hm_h0 hk_h0 (by decide) rfl inlX9 (by decide) mW109 (fun _ h9 => h9) rfl dX9_kind_61 ?_
        obtain ⟨hmy_17, hky_17⟩ := ySh.f9_5 hSh _ hm_h0 hk_h0
        refine lv_iload hx hb dX9_kind_64 (lv_at hl 0 rfl) ?_
        have F_19 := fne (rfl : (z_15 : Int32).toInt = (z_15 : Int32).toInt) (by decide +kernel : (1 : Int32).toInt = 1) c_16
        refine yaldB C0 hK hP hmy_17 hky_17 (by decide) rfl 1 rfl (xinT 2400 rfl (by omega) (by omega)) dX9_kind_66 ?_
        refine lv_topi (fun z_20 ez_20 => ?_)
        have hcez_11 : z_11 = yCe S d_1 h0 4 p0 p1 := yCe_of (by omega) (by omega) (by omega) ez_11
        have hcdz_11 : yCe S d_1 h0 4 p0 p1 = yCe S d h0 4 p0 p1 := by unfold yCe; rw [show d_1.2.2.2.1 (S.2.2.1 h0 4) = d.2.2.2.1 (S.2.2.1 h0 4) from (hsd_1 _ (by rw [(ySh.f9_4 hSh h0 hm_h0 hk_h0).2]; decide)).2.2.2.1]
        have hctz_11 : (z_11 : Int32).toInt = (yCe S d h0 4 p0 p1).toInt := congrArg Int32.toInt (hcez_11.trans hcdz_11)
        have hcez_15 : z_15 = yCe S d_1 h0 4 p0 p1 := yCe_of (by omega) (by omega) (by omega) ez_15
        have hcdz_15 : yCe S d_1 h0 4 p0 p1 = yCe S d h0 4 p0 p1 := by unfold yCe; rw [show d_1.2.2.2.1 (S.2.2.1 h0 4) = d.2.2.2.1 (S.2.2.1 h0 4) from (hsd_1 _ (by rw [(ySh.f9_4 hSh h0 hm_h0 hk_h0).2]; decide)).2.2.2.1]
        have hctz_15 : (z_15 : Int32).toInt = (yCe S d h0 4 p0 p1).toInt := congrArg Int32.toInt (hcez_15.trans hcdz_15)
        have hcez_20 : z_20 = yCe S d_1 h0 5 p0 p1 := yCe_of (by omega) (by omega) (by omega) ez_20
        have hcdz_20 : yCe S d_1 h0 5 p0 p1 = yCe S d h0 5 p0 p1 := by unfold yCe; rw [show d_1.2.2.2.1 (S.2.2.1 h0 5) = d.2.2.2.1 (S.2.2.1 h0 5) from (hsd_1 _ (by rw [(ySh.f9_5 hSh h0 hm_h0 hk_h0).2]; decide)).2.2.2.1]
        have hctz_20 : (z_20 : Int32).toInt = (yCe S d h0 5 p0 p1).toInt := congrArg Int32.toInt (hcez_20.trans hcdz_20)
        exact W.iret (v := z_20) hx hb hr (fun t ht hW => ⟨⟨z_20, d_1, rfl, ⟨hgd_1, (fun _ => hPod_1), hfd_1, ⟨hId_1, Or.inr ⟨by omega, (by exact ⟨fun q => by omega, fun q => by omega, fun a b => (hcez_20.trans hcdz_20)⟩), (zTr.ag zTr.rf hSh hm_h0 hk_h0 hsd_1 (by decide))⟩⟩⟩, by rw [ht]; exact hP, hD⟩, hS.F ht⟩) hS.2.2 dX9_kind_67
      · refine lv_iconst (v := 5) hx hb dX9_kind_56 (by decide) ?_
        refine lv_goto (tgt := 67) hx hb dX9_kind_57 (by decide) ?_
        have F_22 := feq (rfl : (z_15 : Int32).toInt = (z_15 : Int32).toInt) (by decide +kernel : (1 : Int32).toInt = 1) c_16
        have hcez_11 : z_11 = yCe S d_1 h0 4 p0 p1 := yCe_of (by omega) (by omega) (by omega) ez_11
        have hcdz_11 : yCe S d_1 h0 4 p0 p1 = yCe S d h0 4 p0 p1 := by unfold yCe; rw [show d_1.2.2.2.1 (S.2.2.1 h0 4) = d.2.2.2.1 (S.2.2.1 h0 4) from (hsd_1 _ (by rw [(ySh.f9_4 hSh h0 hm_h0 hk_h0).2]; decide)).2.2.2.1]
        have hctz_11 : (z_11 : Int32).toInt = (yCe S d h0 4 p0 p1).toInt := congrArg Int32.toInt (hcez_11.trans hcdz_11)
        have hcez_15 : z_15 = yCe S d_1 h0 4 p0 p1 := yCe_of (by omega) (by omega) (by omega) ez_15
        have hcdz_15 : yCe S d_1 h0 4 p0 p1 = yCe S d h0 4 p0 p1 := by unfold yCe; rw [show d_1.2.2.2.1 (S.2.2.1 h0 4) = d.2.2.2.1 (S.2.2.1 h0 4) from (hsd_1 _ (by rw [(ySh.f9_4 hSh h0 hm_h0 hk_h0).2]; decide)).2.2.2.1]
        have hctz_15 : (z_15 : Int32).toInt = (yCe S d h0 4 p0 p1).toInt := congrArg Int32.toInt (hcez_15.trans hcdz_15)
        exact W.iret (v := 5) hx hb hr (fun t ht hW => ⟨⟨5, d_1, rfl, ⟨hgd_1, (fun _ => hPod_1), hfd_1, ⟨hId_1, Or.inr ⟨by omega, (by have h0_ : (5 : Int32).toInt = 5 := (by decide +kernel); exact ⟨fun q => by omega, fun q => by omega, fun a b => by omega⟩), (zTr.ag zTr.rf hSh hm_h0 hk_h0 hsd_1 (by decide))⟩⟩⟩, by rw [ht]; exact hP, hD⟩, hS.F ht⟩) hS.2.2 dX9_kind_67
    · refine lv_bipush (v := 6) hx hb dX9_kind_40 (by decide) ?_
      refine lv_goto (tgt := 67) hx hb dX9_kind_42 (by decide) ?_
      have F_24 := feq (rfl : (z_11 : Int32).toInt = (z_11 : Int32).toInt) (by decide +kernel : (0 : Int32).toInt = 0) c_12
      have hcez_11 : z_11 = yCe S d_1 h0 4 p0 p1 := yCe_of (by omega) (by omega) (by omega) ez_11
      have hcdz_11 : yCe S d_1 h0 4 p0 p1 = yCe S d h0 4 p0 p1 := by unfold yCe; rw [show d_1.2.2.2.1 (S.2.2.1 h0 4) = d.2.2.2.1 (S.2.2.1 h0 4) from (hsd_1 _ (by rw [(ySh.f9_4 hSh h0 hm_h0 hk_h0).2]; decide)).2.2.2.1]
      have hctz_11 : (z_11 : Int32).toInt = (yCe S d h0 4 p0 p1).toInt := congrArg Int32.toInt (hcez_11.trans hcdz_11)
      exact W.iret (v := 6) hx hb hr (fun t ht hW => ⟨⟨6, d_1, rfl, ⟨hgd_1, (fun _ => hPod_1), hfd_1, ⟨hId_1, Or.inr ⟨by omega, (by have h0_ : (6 : Int32).toInt = 6 := (by decide +kernel); exact ⟨fun q => by omega, fun q => by omega, fun a b => by omega⟩), (zTr.ag zTr.rf hSh hm_h0 hk_h0 hsd_1 (by decide))⟩⟩⟩, by rw [ht]; exact hP, hD⟩, hS.F ht⟩) hS.2.2 dX9_kind_67
  · refine lv_aload_n hx hb dX9_kind_16 rfl (lv_at hl 1 rfl) ?_
    refine lv_iload_n hx hb dX9_kind_17 rfl (lv_at hl 0 rfl) ?_
    have F_25 := fne (rfl : (r_2 : Int32).toInt = (r_2 : Int32).toInt) (by decide +kernel : (0 : Int32).toInt = 0) c_3
    refine yVwi (As := [.int r_2]) (rest := []) C0 (g_X9_no l G S d_1 h0 r_2 hSh hPod_1 hm_h0 hk_h0 (by refine ⟨?_, ?_⟩ <;> omega)) ok_X9_no (mW177 : Cond.methodLink RX9 168 yX9_no ∈ wsT) ⟨Nat.le_of_ble_eq_true rfl, Nat.le_of_ble_eq_true rfl⟩ hP hD hS hA hK hN hm_h0 hk_h0 (by decide) rfl rfl rfl hl.1 rfl (Nat.le_of_ble_eq_true rfl) ⟨Nat.le_of_ble_eq_true rfl, Nat.le_of_ble_eq_true rfl⟩ dX9_kind_18 (fun r_26 d_27 H locs hr_26 hP hD hS => ?_)
    obtain ⟨hgad_27, hpad_27, hfad_27, hxd_27⟩ := hr_26
    have hfd_27 : yK [38] d d_27 h0 := yK.tr hfd_1 hfad_27 (by decide)
    have hE0d_27 : (d_27.1 h0 0).toInt = (d_1.1 h0 0).toInt := congrArg Int32.toInt (hfad_27 0 (by decide))
    have hE1d_27 : (d_27.1 h0 1).toInt = (d_1.1 h0 1).toInt := congrArg Int32.toInt (hfad_27 1 (by decide))
    have hE2d_27 : (d_27.1 h0 2).toInt = (d_1.1 h0 2).toInt := congrArg Int32.toInt (hfad_27 2 (by decide))
    have hE3d_27 : (d_27.1 h0 3).toInt = (d_1.1 h0 3).toInt := congrArg Int32.toInt (hfad_27 3 (by decide))
    have hE63d_27 : (d_27.1 h0 63).toInt = (d_1.1 h0 63).toInt := congrArg Int32.toInt (hfad_27 63 (by decide))
    have hId_27 : yMI S d_27 h0 := yMI.ag hId_1 hSh hm_h0 hk_h0 hgad_27 hfad_27 (by decide) (by decide)
    have hgd_27 : yAg S [9, 69] d d_27 := yAg.tr hgd_1 hgad_27 (by first | decide | exact fun _ h => h)
    have hPod_27 : yPo S d_27 := hpad_27 hPod_1
    have hm1r_26 : (r_26 : Int32).toInt = -1 := by rw [hxd_27]; decide +kernel
    have hCC_28 := yMI.c hId_27
    exact W.iret (v := r_26) hx hb hr (fun t ht hW => ⟨⟨r_26, d_27, rfl, ⟨hgd_27, (fun _ => hPod_27), hfd_27, ⟨hId_27, Or.inl ⟨by omega, by omega, (zTr.ag (zTr.ag zTr.rf hSh hm_h0 hk_h0 hsd_1 (by decide)) hSh hm_h0 hk_h0 hgad_27 (by decide))⟩⟩⟩, by rw [ht]; exact hP, hD⟩, hS.F ht⟩) hS.2.2 dX9_kind_21
theorem dX9_headed_0 : decode cX9_headed 0 = .ok (.aload_n 0, 1) := by decide +kernel
theorem dX9_headed_1 : decode cX9_headed 1 = .ok (.iconst 0, 1) := by decide +kernel
theorem dX9_headed_2 : decode cX9_headed 2 = .ok (.putfield 147, 3) := by decide +kernel
theorem dX9_headed_5 : decode cX9_headed 5 = .ok (.aload_n 0, 1) := by decide +kernel
theorem dX9_headed_6 : decode cX9_headed 6 = .ok (.iload_n 1, 1) := by decide +kernel
theorem dX9_headed_7 : decode cX9_headed 7 = .ok (.iload_n 2, 1) := by decide +kernel
theorem dX9_headed_8 : decode cX9_headed 8 = .ok (.invokevirtual 171, 3) := by decide +kernel
theorem dX9_headed_11 : decode cX9_headed 11 = .ok (.istore_n 3, 1) := by decide +kernel
theorem dX9_headed_12 : decode cX9_headed 12 = .ok (.iload_n 3, 1) := by decide +kernel
theorem dX9_headed_13 : decode cX9_headed 13 = .ok (.ifCond .ne 38, 3) := by decide +kernel
theorem dX9_headed_16 : decode cX9_headed 16 = .ok (.aload_n 0, 1) := by decide +kernel
theorem dX9_headed_17 : decode cX9_headed 17 = .ok (.getfield 13, 3) := by decide +kernel
theorem dX9_headed_20 : decode cX9_headed 20 = .ok (.bipush 60, 2) := by decide +kernel
theorem dX9_headed_22 : decode cX9_headed 22 = .ok (.iload_n 1, 1) := by decide +kernel
theorem dX9_headed_23 : decode cX9_headed 23 = .ok (.imul, 1) := by decide +kernel
theorem dX9_headed_24 : decode cX9_headed 24 = .ok (.iload_n 2, 1) := by decide +kernel
theorem dX9_headed_25 : decode cX9_headed 25 = .ok (.iadd, 1) := by decide +kernel
theorem dX9_headed_26 : decode cX9_headed 26 = .ok (.baload, 1) := by decide +kernel
theorem dX9_headed_27 : decode cX9_headed 27 = .ok (.iconst 1, 1) := by decide +kernel
theorem dX9_headed_28 : decode cX9_headed 28 = .ok (.if_icmp .eq 23, 3) := by decide +kernel
theorem dX9_headed_31 : decode cX9_headed 31 = .ok (.aload_n 0, 1) := by decide +kernel
theorem dX9_headed_32 : decode cX9_headed 32 = .ok (.getfield 13, 3) := by decide +kernel
theorem dX9_headed_35 : decode cX9_headed 35 = .ok (.bipush 60, 2) := by decide +kernel
theorem dX9_headed_37 : decode cX9_headed 37 = .ok (.iload_n 1, 1) := by decide +kernel
theorem dX9_headed_38 : decode cX9_headed 38 = .ok (.imul, 1) := by decide +kernel
theorem dX9_headed_39 : decode cX9_headed 39 = .ok (.iload_n 2, 1) := by decide +kernel
theorem dX9_headed_40 : decode cX9_headed 40 = .ok (.iadd, 1) := by decide +kernel
theorem dX9_headed_41 : decode cX9_headed 41 = .ok (.baload, 1) := by decide +kernel
theorem dX9_headed_42 : decode cX9_headed 42 = .ok (.ifCond .ne 7, 3) := by decide +kernel
theorem dX9_headed_45 : decode cX9_headed 45 = .ok (.iconst 2, 1) := by decide +kernel
theorem dX9_headed_46 : decode cX9_headed 46 = .ok (.goto 4, 3) := by decide +kernel
theorem dX9_headed_49 : decode cX9_headed 49 = .ok (.iconst 3, 1) := by decide +kernel
theorem dX9_headed_50 : decode cX9_headed 50 = .ok (.istore_n 3, 1) := by decide +kernel
theorem dX9_headed_51 : decode cX9_headed 51 = .ok (.iload_n 3, 1) := by decide +kernel
theorem dX9_headed_52 : decode cX9_headed 52 = .ok (.ifCond .eq 9, 3) := by decide +kernel
theorem dX9_headed_55 : decode cX9_headed 55 = .ok (.aload_n 0, 1) := by decide +kernel
theorem dX9_headed_56 : decode cX9_headed 56 = .ok (.iload_n 3, 1) := by decide +kernel
theorem dX9_headed_57 : decode cX9_headed 57 = .ok (.invokevirtual 168, 3) := by decide +kernel
theorem dX9_headed_60 : decode cX9_headed 60 = .ok (.ireturn, 1) := by decide +kernel
theorem dX9_headed_61 : decode cX9_headed 61 = .ok (.aload_n 0, 1) := by decide +kernel
theorem dX9_headed_62 : decode cX9_headed 62 = .ok (.getfield 33, 3) := by decide +kernel
theorem dX9_headed_65 : decode cX9_headed 65 = .ok (.bipush 60, 2) := by decide +kernel
theorem dX9_headed_67 : decode cX9_headed 67 = .ok (.iload_n 1, 1) := by decide +kernel
theorem dX9_headed_68 : decode cX9_headed 68 = .ok (.imul, 1) := by decide +kernel
theorem dX9_headed_69 : decode cX9_headed 69 = .ok (.iload_n 2, 1) := by decide +kernel
theorem dX9_headed_70 : decode cX9_headed 70 = .ok (.iadd, 1) := by decide +kernel
theorem dX9_headed_71 : decode cX9_headed 71 = .ok (.iaload, 1) := by decide +kernel
theorem dX9_headed_72 : decode cX9_headed 72 = .ok (.ireturn, 1) := by decide +kernel
set_option maxHeartbeats 4000000 in
set_option maxRecDepth 100000 in
theorem g_X9_headed (l : Launch) (G : xG) (S : yS) (d : yD) (h0 : Nat) (p0 : Int32) (p1 : Int32) (hSh : ySh S) (hPo : yPo S d) (hm_h0 : h0 ∈ S.1) (hk_h0 : S.2.1 h0 = 9) (hI : yMI S d h0) : xWi l G yX9_headed cX9_headed 4 (some .int) 2 43 0 0 [.ref h0, .int p0, .int p1] (yW G S d) (fun r (u : yD) => yAg S [9, 69] d u ∧ (yPo S d → yPo S u) ∧ yK [38] d u h0 ∧ (yMI S u h0 ∧ ((r.toInt = -1 ∧ ¬ (((0 ≤ p0.toInt ∧ p0.toInt ≤ 39 ∧ p0.toInt < (d.1 h0 0).toInt) ∧ 0 ≤ p1.toInt ∧ p1.toInt ≤ 59) ∧ (yCe S d h0 4 p0 p1).toInt = 1) ∧ zTr S u h0 (fun s => d.2.2.2.1 (S.2.2.1 h0 s))) ∨ ((((0 ≤ p0.toInt ∧ p0.toInt ≤ 39 ∧ p0.toInt < (d.1 h0 0).toInt) ∧ 0 ≤ p1.toInt ∧ p1.toInt ≤ 59) ∧ (yCe S d h0 4 p0 p1).toInt = 1) ∧ r = yCe S d h0 10 p0 p1 ∧ zTr S u h0 (fun s => d.2.2.2.1 (S.2.2.1 h0 s)))))) (fun u => yW G S u) := by
  intro sz
  refine xstart (by decide) (Nat.le_of_ble_eq_true rfl) (fun p e s m args below meth c ls C0 hr hlocks hin hsz hP hK hD hN hl => ?_)
  obtain ⟨hx, hb, hml, hown, htl⟩ := id C0
  subst hsz
  have hD := hD.self (sz := s.heap.size)
  generalize hAe : va_A (yW G S d) s.heap.size = A at hD ⊢
  have hA : ∀ q : Nat, s.heap.size ≤ q → A q := fun q h => by rw [← hAe]; exact Or.inr h
  have hS : va_S A s.heap s.heap [] := va_S.rf
  have hg0 : yAg S [9, 69] d d := yAg.rf
  have hl : lv_has ls 4 [(0, .ref h0), (1, .int p0), (2, .int p1)] := hl
  refine lv_aload_n hx hb dX9_headed_0 rfl (lv_at hl 0 rfl) ?_
  refine lv_iconst (v := 0) hx hb dX9_headed_1 (by decide) ?_
  refine yputI (ci := 9) (k := 38) (ty := .int) (C := RX9) (T := TX9) (N := 67) C0 hK hP hD hS hm_h0 hk_h0 (by decide) rfl inlX9 tyX9 tyX9_ok nmX9 (by decide) mW175 (fun _ h9 => h9) rfl (by decide +kernel) rfl rfl (Nat.le_of_ble_eq_true rfl) ysi_9_38 dX9_headed_2 (fun H locs hP hD hS => ?_)
  obtain ⟨d_1, ed_1⟩ : ∃ z : yD, z = yi d h0 38 0 := ⟨_, rfl⟩
  rw [← ed_1] at hP hD
  have hgd_1 : yAg S [9, 69] d d_1 := by rw [ed_1]; exact yAg.i hg0 (by rw [hk_h0]; decide)
  have hsd_1 : yAg S [9] d d_1 := by rw [ed_1]; exact yAg.i yAg.rf (by rw [hk_h0]; decide)
  have hPod_1 : yPo S d_1 := by rw [ed_1]; exact yPo.i hPo hk_h0 (Or.inl rfl)
  have hfd_1 : yK [38] d d_1 h0 := by rw [ed_1]; exact yK.i yK.rf (by decide)
  have hId_1 : yMI S d_1 h0 := yMI.ag hI hSh hm_h0 hk_h0 (show yAg S [9] d d_1 from by rw [ed_1]; exact yAg.i yAg.rf (by rw [hk_h0]; decide)) (show yK [38] d d_1 h0 from by rw [ed_1]; exact yK.i yK.rf (by decide)) (by decide) (by decide)
  have hE0d_1 : (d_1.1 h0 0).toInt = (d.1 h0 0).toInt := congrArg Int32.toInt ((show yK [38] d d_1 h0 from by rw [ed_1]; exact yK.i yK.rf (by decide)) 0 (by decide))
  have hE1d_1 : (d_1.1 h0 1).toInt = (d.1 h0 1).toInt := congrArg Int32.toInt ((show yK [38] d d_1 h0 from by rw [ed_1]; exact yK.i yK.rf (by decide)) 1 (by decide))
  have hE2d_1 : (d_1.1 h0 2).toInt = (d.1 h0 2).toInt := congrArg Int32.toInt ((show yK [38] d d_1 h0 from by rw [ed_1]; exact yK.i yK.rf (by decide)) 2 (by decide))
  have hE3d_1 : (d_1.1 h0 3).toInt = (d.1 h0 3).toInt := congrArg Int32.toInt ((show yK [38] d d_1 h0 from by rw [ed_1]; exact yK.i yK.rf (by decide)) 3 (by decide))
  have hE63d_1 : (d_1.1 h0 63).toInt = (d.1 h0 63).toInt := congrArg Int32.toInt ((show yK [38] d d_1 h0 from by rw [ed_1]; exact yK.i yK.rf (by decide)) 63 (by decide))
  refine lv_aload_n hx hb dX9_headed_5 rfl (lv_at hl 0 rfl) ?_
  refine lv_iload_n hx hb dX9_headed_6 rfl (lv_at hl 1 rfl) ?_
  refine lv_iload_n hx hb dX9_headed_7 rfl (lv_at hl 2 rfl) ?_
  refine yVri (As := [.int p0, .int p1]) (rest := []) C0 (g_X9_placeWhy l G S d_1 h0 p0 p1 hSh hm_h0 hk_h0) ok_X9_placeWhy (mW222 : Cond.methodLink RX9 171 yX9_placeWhy ∈ wsT) ⟨Nat.le_of_ble_eq_true rfl, Nat.le_of_ble_eq_true rfl⟩ hP hD hK hN hm_h0 hk_h0 (by decide) rfl rfl rfl hl.1 rfl (Nat.le_of_ble_eq_true rfl) ⟨Nat.le_of_ble_eq_true rfl, Nat.le_of_ble_eq_true rfl⟩ dX9_headed_8 (fun r_2 hr_2 => ?_)
  refine lv_istore_n (lv' := [(3, .int r_2), (0, .ref h0), (1, .int p0), (2, .int p1)]) hx hb dX9_headed_11 rfl hl (by decide) rfl (fun ls hl => ?_)
  refine lv_iload_n hx hb dX9_headed_12 rfl (lv_at hl 0 rfl) ?_
  refine lv_if_ne (tgt := 51) hx hb dX9_headed_13 (by decide) (fun c_3 => ?_) (fun c_3 => ?_)
  · refine lv_iload_n hx hb dX9_headed_51 rfl (lv_at hl 0 rfl) ?_
    refine lv_if_eq (tgt := 61) hx hb dX9_headed_52 (by decide) (fun c_4 => absurd c_4 c_3) (fun c_4 => ?_)
    refine lv_aload_n hx hb dX9_headed_55 rfl (lv_at hl 1 rfl) ?_
    refine lv_iload_n hx hb dX9_headed_56 rfl (lv_at hl 0 rfl) ?_
    have F_5 := fne (rfl : (r_2 : Int32).toInt = (r_2 : Int32).toInt) (by decide +kernel : (0 : Int32).toInt = 0) c_3
    have F_6 := fne (rfl : (r_2 : Int32).toInt = (r_2 : Int32).toInt) (by decide +kernel : (0 : Int32).toInt = 0) c_4
    refine yVwi (As := [.int r_2]) (rest := []) C0 (g_X9_no l G S d_1 h0 r_2 hSh hPod_1 hm_h0 hk_h0 (by refine ⟨?_, ?_⟩ <;> omega)) ok_X9_no (mW177 : Cond.methodLink RX9 168 yX9_no ∈ wsT) ⟨Nat.le_of_ble_eq_true rfl, Nat.le_of_ble_eq_true rfl⟩ hP hD hS hA hK hN hm_h0 hk_h0 (by decide) rfl rfl rfl hl.1 rfl (Nat.le_of_ble_eq_true rfl) ⟨Nat.le_of_ble_eq_true rfl, Nat.le_of_ble_eq_true rfl⟩ dX9_headed_57 (fun r_7 d_8 H locs hr_7 hP hD hS => ?_)
    obtain ⟨hgad_8, hpad_8, hfad_8, hxd_8⟩ := hr_7
    have hfd_8 : yK [38] d d_8 h0 := yK.tr hfd_1 hfad_8 (by decide)
    have hE0d_8 : (d_8.1 h0 0).toInt = (d_1.1 h0 0).toInt := congrArg Int32.toInt (hfad_8 0 (by decide))
    have hE1d_8 : (d_8.1 h0 1).toInt = (d_1.1 h0 1).toInt := congrArg Int32.toInt (hfad_8 1 (by decide))
    have hE2d_8 : (d_8.1 h0 2).toInt = (d_1.1 h0 2).toInt := congrArg Int32.toInt (hfad_8 2 (by decide))
    have hE3d_8 : (d_8.1 h0 3).toInt = (d_1.1 h0 3).toInt := congrArg Int32.toInt (hfad_8 3 (by decide))
    have hE63d_8 : (d_8.1 h0 63).toInt = (d_1.1 h0 63).toInt := congrArg Int32.toInt (hfad_8 63 (by decide))
    have hId_8 : yMI S d_8 h0 := yMI.ag hId_1 hSh hm_h0 hk_h0 hgad_8 hfad_8 (by decide) (by decide)
    have hgd_8 : yAg S [9, 69] d d_8 := yAg.tr hgd_1 hgad_8 (by first | decide | exact fun _ h => h)
    have hPod_8 : yPo S d_8 := hpad_8 hPod_1
    have hm1r_7 : (r_7 : Int32).toInt = -1 := by rw [hxd_8]; decide +kernel
    have hCC_9 := yMI.c hId_8
    exact W.iret (v := r_7) hx hb hr (fun t ht hW => ⟨⟨r_7, d_8, rfl, ⟨hgd_8, (fun _ => hPod_8), hfd_8, ⟨hId_8, Or.inl ⟨by omega, by omega, (zTr.ag (zTr.ag zTr.rf hSh hm_h0 hk_h0 hsd_1 (by decide)) hSh hm_h0 hk_h0 hgad_8 (by decide))⟩⟩⟩, by rw [ht]; exact hP, hD⟩, hS.F ht⟩) hS.2.2 dX9_headed_60
  · refine lv_aload_n hx hb dX9_headed_16 rfl (lv_at hl 1 rfl) ?_
    refine yget (ci := 9) (k := 4) (v := .ref (S.2.2.1 h0 4)) (C := RX9) (T := TX9) (N := 67) C0 hK hP hm_h0 hk_h0 (by decide) rfl inlX9 (by decide) mW108 (fun _ h9 => h9) rfl dX9_headed_17 ?_
    obtain ⟨hmy_10, hky_10⟩ := ySh.f9_4 hSh _ hm_h0 hk_h0
    refine lv_bipush (v := 60) hx hb dX9_headed_20 (by decide) ?_
    refine lv_iload_n hx hb dX9_headed_22 rfl (lv_at hl 2 rfl) ?_
    refine lv_imul hx hb dX9_headed_23 ?_
    refine lv_topi (fun z_11 ez_11 => ?_)
    refine lv_iload_n hx hb dX9_headed_24 rfl (lv_at hl 3 rfl) ?_
    refine lv_iadd hx hb dX9_headed_25 ?_
    refine lv_topi (fun z_12 ez_12 => ?_)
    have hCC_13 := yMI.c hId_1
    have F_14 := feq (rfl : (r_2 : Int32).toInt = (r_2 : Int32).toInt) (by decide +kernel : (0 : Int32).toInt = 0) c_3
    have T_16 : (z_11 : Int32).toInt = 60 * (p0 : Int32).toInt := tmul ez_11 (by decide +kernel : (60 : Int32).toInt = 60) (rfl : (p0 : Int32).toInt = (p0 : Int32).toInt) (by omega) (by omega)
    have T_15 : (z_12 : Int32).toInt = (z_11 : Int32).toInt + (p1 : Int32).toInt := tadd ez_12 (rfl : (z_11 : Int32).toInt = (z_11 : Int32).toInt) (rfl : (p1 : Int32).toInt = (p1 : Int32).toInt) (by omega) (by omega)
    refine yaldB C0 hK hP hmy_10 hky_10 (by decide) rfl 1 rfl (xinT 2400 rfl (by omega) (by omega)) dX9_headed_26 ?_
    refine lv_topi (fun z_17 ez_17 => ?_)
    refine lv_iconst (v := 1) hx hb dX9_headed_27 (by decide) ?_
    refine lv_icmp_eq (tgt := 51) hx hb dX9_headed_28 (by decide) (fun c_18 => ?_) (fun c_18 => ?_)
    · refine lv_iload_n hx hb dX9_headed_51 rfl (lv_at hl 0 rfl) ?_
      refine lv_if_eq (tgt := 61) hx hb dX9_headed_52 (by decide) (fun c_19 => ?_) (fun c_19 => absurd c_3 c_19)
      refine lv_aload_n hx hb dX9_headed_61 rfl (lv_at hl 1 rfl) ?_
      refine yget (ci := 9) (k := 10) (v := .ref (S.2.2.1 h0 10)) (C := RX9) (T := TX9) (N := 67) C0 hK hP hm_h0 hk_h0 (by decide) rfl inlX9 (by decide) mW114 (fun _ h9 => h9) rfl dX9_headed_62 ?_
      obtain ⟨hmy_20, hky_20⟩ := ySh.f9_10 hSh _ hm_h0 hk_h0
      refine lv_bipush (v := 60) hx hb dX9_headed_65 (by decide) ?_
      refine lv_iload_n hx hb dX9_headed_67 rfl (lv_at hl 2 rfl) ?_
      refine lv_imul hx hb dX9_headed_68 ?_
      refine lv_topi (fun z_21 ez_21 => ?_)
      refine lv_iload_n hx hb dX9_headed_69 rfl (lv_at hl 3 rfl) ?_
      refine lv_iadd hx hb dX9_headed_70 ?_
      refine lv_topi (fun z_22 ez_22 => ?_)
      have F_24 := feq (rfl : (z_17 : Int32).toInt = (z_17 : Int32).toInt) (by decide +kernel : (1 : Int32).toInt = 1) c_18
      have F_25 := feq (rfl : (r_2 : Int32).toInt = (r_2 : Int32).toInt) (by decide +kernel : (0 : Int32).toInt = 0) c_19
      have T_27 : (z_21 : Int32).toInt = 60 * (p0 : Int32).toInt := tmul ez_21 (by decide +kernel : (60 : Int32).toInt = 60) (rfl : (p0 : Int32).toInt = (p0 : Int32).toInt) (by omega) (by omega)
      have T_26 : (z_22 : Int32).toInt = (z_21 : Int32).toInt + (p1 : Int32).toInt := tadd ez_22 (rfl : (z_21 : Int32).toInt = (z_21 : Int32).toInt) (rfl : (p1 : Int32).toInt = (p1 : Int32).toInt) (by omega) (by omega)
      refine yald C0 hK hP hmy_20 hky_20 (by decide) rfl 0 rfl (xinT 2400 rfl (by omega) (by omega)) dX9_headed_71 ?_
      refine lv_topi (fun z_28 ez_28 => ?_)
      have hcez_17 : z_17 = yCe S d_1 h0 4 p0 p1 := yCe_of (by omega) (by omega) (by omega) ez_17
      have hcdz_17 : yCe S d_1 h0 4 p0 p1 = yCe S d h0 4 p0 p1 := by unfold yCe; rw [show d_1.2.2.2.1 (S.2.2.1 h0 4) = d.2.2.2.1 (S.2.2.1 h0 4) from (hsd_1 _ (by rw [(ySh.f9_4 hSh h0 hm_h0 hk_h0).2]; decide)).2.2.2.1]
      have hctz_17 : (z_17 : Int32).toInt = (yCe S d h0 4 p0 p1).toInt := congrArg Int32.toInt (hcez_17.trans hcdz_17)
      have hcez_28 : z_28 = yCe S d_1 h0 10 p0 p1 := yCe_of (by omega) (by omega) (by omega) ez_28
      have hcdz_28 : yCe S d_1 h0 10 p0 p1 = yCe S d h0 10 p0 p1 := by unfold yCe; rw [show d_1.2.2.2.1 (S.2.2.1 h0 10) = d.2.2.2.1 (S.2.2.1 h0 10) from (hsd_1 _ (by rw [(ySh.f9_10 hSh h0 hm_h0 hk_h0).2]; decide)).2.2.2.1]
      have hctz_28 : (z_28 : Int32).toInt = (yCe S d h0 10 p0 p1).toInt := congrArg Int32.toInt (hcez_28.trans hcdz_28)
      exact W.iret (v := z_28) hx hb hr (fun t ht hW => ⟨⟨z_28, d_1, rfl, ⟨hgd_1, (fun _ => hPod_1), hfd_1, ⟨hId_1, Or.inr ⟨by omega, (hcez_28.trans hcdz_28), (zTr.ag zTr.rf hSh hm_h0 hk_h0 hsd_1 (by decide))⟩⟩⟩, by rw [ht]; exact hP, hD⟩, hS.F ht⟩) hS.2.2 dX9_headed_72
    · refine lv_aload_n hx hb dX9_headed_31 rfl (lv_at hl 1 rfl) ?_
      refine yget (ci := 9) (k := 4) (v := .ref (S.2.2.1 h0 4)) (C := RX9) (T := TX9) (N := 67) C0 hK hP hm_h0 hk_h0 (by decide) rfl inlX9 (by decide) mW108 (fun _ h9 => h9) rfl dX9_headed_32 ?_
      refine lv_bipush (v := 60) hx hb dX9_headed_35 (by decide) ?_
      refine lv_iload_n hx hb dX9_headed_37 rfl (lv_at hl 2 rfl) ?_
      refine lv_imul hx hb dX9_headed_38 ?_
      refine lv_topi (fun z_29 ez_29 => ?_)
      refine lv_iload_n hx hb dX9_headed_39 rfl (lv_at hl 3 rfl) ?_
      refine lv_iadd hx hb dX9_headed_40 ?_
      refine lv_topi (fun z_30 ez_30 => ?_)
      have F_32 := fne (rfl : (z_17 : Int32).toInt = (z_17 : Int32).toInt) (by decide +kernel : (1 : Int32).toInt = 1) c_18
      have T_34 : (z_29 : Int32).toInt = 60 * (p0 : Int32).toInt := tmul ez_29 (by decide +kernel : (60 : Int32).toInt = 60) (rfl : (p0 : Int32).toInt = (p0 : Int32).toInt) (by omega) (by omega)
      have T_33 : (z_30 : Int32).toInt = (z_29 : Int32).toInt + (p1 : Int32).toInt := tadd ez_30 (rfl : (z_29 : Int32).toInt = (z_29 : Int32).toInt) (rfl : (p1 : Int32).toInt = (p1 : Int32).toInt) (by omega) (by omega)
      refine yaldB C0 hK hP hmy_10 hky_10 (by decide) rfl 1 rfl (xinT 2400 rfl (by omega) (by omega)) dX9_headed_41 ?_
      refine lv_topi (fun z_35 ez_35 => ?_)
      refine lv_if_ne (tgt := 49) hx hb dX9_headed_42 (by decide) (fun c_36 => ?_) (fun c_36 => ?_)
      · refine lv_iconst (v := 3) hx hb dX9_headed_49 (by decide) ?_
        refine lv_istore_n (lv' := [(3, .int 3), (0, .ref h0), (1, .int p0), (2, .int p1)]) hx hb dX9_headed_50 rfl hl (by decide) rfl (fun ls hl => ?_)
        refine lv_iload_n hx hb dX9_headed_51 rfl (lv_at hl 0 rfl) ?_
        refine lv_if_eq (tgt := 61) hx hb dX9_headed_52 (by decide) (fun c_37 => absurd c_37 (by decide +kernel)) (fun c_37 => ?_)
        refine lv_aload_n hx hb dX9_headed_55 rfl (lv_at hl 1 rfl) ?_
        refine lv_iload_n hx hb dX9_headed_56 rfl (lv_at hl 0 rfl) ?_
        refine yVwi (As := [.int 3]) (rest := []) C0 (g_X9_no l G S d_1 h0 3 hSh hPod_1 hm_h0 hk_h0 (by decide +kernel)) ok_X9_no (mW177 : Cond.methodLink RX9 168 yX9_no ∈ wsT) ⟨Nat.le_of_ble_eq_true rfl, Nat.le_of_ble_eq_true rfl⟩ hP hD hS hA hK hN hm_h0 hk_h0 (by decide) rfl rfl rfl hl.1 rfl (Nat.le_of_ble_eq_true rfl) ⟨Nat.le_of_ble_eq_true rfl, Nat.le_of_ble_eq_true rfl⟩ dX9_headed_57 (fun r_38 d_39 H locs hr_38 hP hD hS => ?_)
        obtain ⟨hgad_39, hpad_39, hfad_39, hxd_39⟩ := hr_38
        have hfd_39 : yK [38] d d_39 h0 := yK.tr hfd_1 hfad_39 (by decide)
        have hE0d_39 : (d_39.1 h0 0).toInt = (d_1.1 h0 0).toInt := congrArg Int32.toInt (hfad_39 0 (by decide))
        have hE1d_39 : (d_39.1 h0 1).toInt = (d_1.1 h0 1).toInt := congrArg Int32.toInt (hfad_39 1 (by decide))
        have hE2d_39 : (d_39.1 h0 2).toInt = (d_1.1 h0 2).toInt := congrArg Int32.toInt (hfad_39 2 (by decide))
        have hE3d_39 : (d_39.1 h0 3).toInt = (d_1.1 h0 3).toInt := congrArg Int32.toInt (hfad_39 3 (by decide))
        have hE63d_39 : (d_39.1 h0 63).toInt = (d_1.1 h0 63).toInt := congrArg Int32.toInt (hfad_39 63 (by decide))
        have hId_39 : yMI S d_39 h0 := yMI.ag hId_1 hSh hm_h0 hk_h0 hgad_39 hfad_39 (by decide) (by decide)
        have hgd_39 : yAg S [9, 69] d d_39 := yAg.tr hgd_1 hgad_39 (by first | decide | exact fun _ h => h)
        have hPod_39 : yPo S d_39 := hpad_39 hPod_1
        have hm1r_38 : (r_38 : Int32).toInt = -1 := by rw [hxd_39]; decide +kernel
        have hCC_40 := yMI.c hId_39
        have F_42 := fne (rfl : (z_35 : Int32).toInt = (z_35 : Int32).toInt) (by decide +kernel : (0 : Int32).toInt = 0) c_36
        have F_43 := fne (by decide +kernel : (3 : Int32).toInt = 3) (by decide +kernel : (0 : Int32).toInt = 0) c_37
        have hcez_17 : z_17 = yCe S d_1 h0 4 p0 p1 := yCe_of (by omega) (by omega) (by omega) ez_17
        have hcdz_17 : yCe S d_1 h0 4 p0 p1 = yCe S d h0 4 p0 p1 := by unfold yCe; rw [show d_1.2.2.2.1 (S.2.2.1 h0 4) = d.2.2.2.1 (S.2.2.1 h0 4) from (hsd_1 _ (by rw [(ySh.f9_4 hSh h0 hm_h0 hk_h0).2]; decide)).2.2.2.1]
        have hctz_17 : (z_17 : Int32).toInt = (yCe S d h0 4 p0 p1).toInt := congrArg Int32.toInt (hcez_17.trans hcdz_17)
        have hcez_35 : z_35 = yCe S d_1 h0 4 p0 p1 := yCe_of (by omega) (by omega) (by omega) ez_35
        have hcdz_35 : yCe S d_1 h0 4 p0 p1 = yCe S d h0 4 p0 p1 := by unfold yCe; rw [show d_1.2.2.2.1 (S.2.2.1 h0 4) = d.2.2.2.1 (S.2.2.1 h0 4) from (hsd_1 _ (by rw [(ySh.f9_4 hSh h0 hm_h0 hk_h0).2]; decide)).2.2.2.1]
        have hctz_35 : (z_35 : Int32).toInt = (yCe S d h0 4 p0 p1).toInt := congrArg Int32.toInt (hcez_35.trans hcdz_35)
        exact W.iret (v := r_38) hx hb hr (fun t ht hW => ⟨⟨r_38, d_39, rfl, ⟨hgd_39, (fun _ => hPod_39), hfd_39, ⟨hId_39, Or.inl ⟨by omega, by omega, (zTr.ag (zTr.ag zTr.rf hSh hm_h0 hk_h0 hsd_1 (by decide)) hSh hm_h0 hk_h0 hgad_39 (by decide))⟩⟩⟩, by rw [ht]; exact hP, hD⟩, hS.F ht⟩) hS.2.2 dX9_headed_60
      · refine lv_iconst (v := 2) hx hb dX9_headed_45 (by decide) ?_
        refine lv_goto (tgt := 50) hx hb dX9_headed_46 (by decide) ?_
        refine lv_istore_n (lv' := [(3, .int 2), (0, .ref h0), (1, .int p0), (2, .int p1)]) hx hb dX9_headed_50 rfl hl (by decide) rfl (fun ls hl => ?_)
        refine lv_iload_n hx hb dX9_headed_51 rfl (lv_at hl 0 rfl) ?_
        refine lv_if_eq (tgt := 61) hx hb dX9_headed_52 (by decide) (fun c_44 => absurd c_44 (by decide +kernel)) (fun c_44 => ?_)
        refine lv_aload_n hx hb dX9_headed_55 rfl (lv_at hl 1 rfl) ?_
        refine lv_iload_n hx hb dX9_headed_56 rfl (lv_at hl 0 rfl) ?_
        refine yVwi (As := [.int 2]) (rest := []) C0 (g_X9_no l G S d_1 h0 2 hSh hPod_1 hm_h0 hk_h0 (by decide +kernel)) ok_X9_no (mW177 : Cond.methodLink RX9 168 yX9_no ∈ wsT) ⟨Nat.le_of_ble_eq_true rfl, Nat.le_of_ble_eq_true rfl⟩ hP hD hS hA hK hN hm_h0 hk_h0 (by decide) rfl rfl rfl hl.1 rfl (Nat.le_of_ble_eq_true rfl) ⟨Nat.le_of_ble_eq_true rfl, Nat.le_of_ble_eq_true rfl⟩ dX9_headed_57 (fun r_45 d_46 H locs hr_45 hP hD hS => ?_)
        obtain ⟨hgad_46, hpad_46, hfad_46, hxd_46⟩ := hr_45
        have hfd_46 : yK [38] d d_46 h0 := yK.tr hfd_1 hfad_46 (by decide)
        have hE0d_46 : (d_46.1 h0 0).toInt = (d_1.1 h0 0).toInt := congrArg Int32.toInt (hfad_46 0 (by decide))
        have hE1d_46 : (d_46.1 h0 1).toInt = (d_1.1 h0 1).toInt := congrArg Int32.toInt (hfad_46 1 (by decide))
        have hE2d_46 : (d_46.1 h0 2).toInt = (d_1.1 h0 2).toInt := congrArg Int32.toInt (hfad_46 2 (by decide))
        have hE3d_46 : (d_46.1 h0 3).toInt = (d_1.1 h0 3).toInt := congrArg Int32.toInt (hfad_46 3 (by decide))
        have hE63d_46 : (d_46.1 h0 63).toInt = (d_1.1 h0 63).toInt := congrArg Int32.toInt (hfad_46 63 (by decide))
        have hId_46 : yMI S d_46 h0 := yMI.ag hId_1 hSh hm_h0 hk_h0 hgad_46 hfad_46 (by decide) (by decide)
        have hgd_46 : yAg S [9, 69] d d_46 := yAg.tr hgd_1 hgad_46 (by first | decide | exact fun _ h => h)
        have hPod_46 : yPo S d_46 := hpad_46 hPod_1
        have hm1r_45 : (r_45 : Int32).toInt = -1 := by rw [hxd_46]; decide +kernel
        have hCC_47 := yMI.c hId_46
        have F_49 := feq (rfl : (z_35 : Int32).toInt = (z_35 : Int32).toInt) (by decide +kernel : (0 : Int32).toInt = 0) c_36
        have F_50 := fne (by decide +kernel : (2 : Int32).toInt = 2) (by decide +kernel : (0 : Int32).toInt = 0) c_44
        have hcez_17 : z_17 = yCe S d_1 h0 4 p0 p1 := yCe_of (by omega) (by omega) (by omega) ez_17
        have hcdz_17 : yCe S d_1 h0 4 p0 p1 = yCe S d h0 4 p0 p1 := by unfold yCe; rw [show d_1.2.2.2.1 (S.2.2.1 h0 4) = d.2.2.2.1 (S.2.2.1 h0 4) from (hsd_1 _ (by rw [(ySh.f9_4 hSh h0 hm_h0 hk_h0).2]; decide)).2.2.2.1]
        have hctz_17 : (z_17 : Int32).toInt = (yCe S d h0 4 p0 p1).toInt := congrArg Int32.toInt (hcez_17.trans hcdz_17)
        have hcez_35 : z_35 = yCe S d_1 h0 4 p0 p1 := yCe_of (by omega) (by omega) (by omega) ez_35
        have hcdz_35 : yCe S d_1 h0 4 p0 p1 = yCe S d h0 4 p0 p1 := by unfold yCe; rw [show d_1.2.2.2.1 (S.2.2.1 h0 4) = d.2.2.2.1 (S.2.2.1 h0 4) from (hsd_1 _ (by rw [(ySh.f9_4 hSh h0 hm_h0 hk_h0).2]; decide)).2.2.2.1]
        have hctz_35 : (z_35 : Int32).toInt = (yCe S d h0 4 p0 p1).toInt := congrArg Int32.toInt (hcez_35.trans hcdz_35)
        exact W.iret (v := r_45) hx hb hr (fun t ht hW => ⟨⟨r_45, d_46, rfl, ⟨hgd_46, (fun _ => hPod_46), hfd_46, ⟨hId_46, Or.inl ⟨by omega, by omega, (zTr.ag (zTr.ag zTr.rf hSh hm_h0 hk_h0 hsd_1 (by decide)) hSh hm_h0 hk_h0 hgad_46 (by decide))⟩⟩⟩, by rw [ht]; exact hP, hD⟩, hS.F ht⟩) hS.2.2 dX9_headed_60
theorem dX9_span_0 : decode cX9_span 0 = .ok (.aload_n 0, 1) := by decide +kernel
theorem dX9_span_1 : decode cX9_span 1 = .ok (.iconst 0, 1) := by decide +kernel
theorem dX9_span_2 : decode cX9_span 2 = .ok (.putfield 147, 3) := by decide +kernel
theorem dX9_span_5 : decode cX9_span 5 = .ok (.iload_n 3, 1) := by decide +kernel
theorem dX9_span_6 : decode cX9_span 6 = .ok (.ifCond .lt 8, 3) := by decide +kernel
theorem dX9_span_9 : decode cX9_span 9 = .ok (.iload_n 3, 1) := by decide +kernel
theorem dX9_span_10 : decode cX9_span 10 = .ok (.iconst 4, 1) := by decide +kernel
theorem dX9_span_11 : decode cX9_span 11 = .ok (.if_icmp .le 7, 3) := by decide +kernel
theorem dX9_span_14 : decode cX9_span 14 = .ok (.iconst 1, 1) := by decide +kernel
theorem dX9_span_15 : decode cX9_span 15 = .ok (.goto 9, 3) := by decide +kernel
theorem dX9_span_18 : decode cX9_span 18 = .ok (.aload_n 0, 1) := by decide +kernel
theorem dX9_span_19 : decode cX9_span 19 = .ok (.iload_n 1, 1) := by decide +kernel
theorem dX9_span_20 : decode cX9_span 20 = .ok (.iload_n 2, 1) := by decide +kernel
theorem dX9_span_21 : decode cX9_span 21 = .ok (.invokevirtual 175, 3) := by decide +kernel
theorem dX9_span_24 : decode cX9_span 24 = .ok (.istore 4, 2) := by decide +kernel
theorem dX9_span_26 : decode cX9_span 26 = .ok (.iload 4, 2) := by decide +kernel
theorem dX9_span_28 : decode cX9_span 28 = .ok (.ifCond .eq 10, 3) := by decide +kernel
theorem dX9_span_31 : decode cX9_span 31 = .ok (.aload_n 0, 1) := by decide +kernel
theorem dX9_span_32 : decode cX9_span 32 = .ok (.iload 4, 2) := by decide +kernel
theorem dX9_span_34 : decode cX9_span 34 = .ok (.invokevirtual 168, 3) := by decide +kernel
theorem dX9_span_37 : decode cX9_span 37 = .ok (.ireturn, 1) := by decide +kernel
theorem dX9_span_38 : decode cX9_span 38 = .ok (.bipush 60, 2) := by decide +kernel
theorem dX9_span_40 : decode cX9_span 40 = .ok (.iload_n 1, 1) := by decide +kernel
theorem dX9_span_41 : decode cX9_span 41 = .ok (.imul, 1) := by decide +kernel
theorem dX9_span_42 : decode cX9_span 42 = .ok (.iload_n 2, 1) := by decide +kernel
theorem dX9_span_43 : decode cX9_span 43 = .ok (.iadd, 1) := by decide +kernel
theorem dX9_span_44 : decode cX9_span 44 = .ok (.istore 5, 2) := by decide +kernel
theorem dX9_span_46 : decode cX9_span 46 = .ok (.iload_n 3, 1) := by decide +kernel
theorem dX9_span_47 : decode cX9_span 47 = .ok (.ifCond .ne 13, 3) := by decide +kernel
theorem dX9_span_50 : decode cX9_span 50 = .ok (.aload_n 0, 1) := by decide +kernel
theorem dX9_span_51 : decode cX9_span 51 = .ok (.getfield 20, 3) := by decide +kernel
theorem dX9_span_54 : decode cX9_span 54 = .ok (.iload 5, 2) := by decide +kernel
theorem dX9_span_56 : decode cX9_span 56 = .ok (.baload, 1) := by decide +kernel
theorem dX9_span_57 : decode cX9_span 57 = .ok (.goto 55, 3) := by decide +kernel
theorem dX9_span_60 : decode cX9_span 60 = .ok (.iload_n 3, 1) := by decide +kernel
theorem dX9_span_61 : decode cX9_span 61 = .ok (.iconst 1, 1) := by decide +kernel
theorem dX9_span_62 : decode cX9_span 62 = .ok (.if_icmp .ne 13, 3) := by decide +kernel
theorem dX9_span_65 : decode cX9_span 65 = .ok (.aload_n 0, 1) := by decide +kernel
theorem dX9_span_66 : decode cX9_span 66 = .ok (.getfield 23, 3) := by decide +kernel
theorem dX9_span_69 : decode cX9_span 69 = .ok (.iload 5, 2) := by decide +kernel
theorem dX9_span_71 : decode cX9_span 71 = .ok (.iaload, 1) := by decide +kernel
theorem dX9_span_72 : decode cX9_span 72 = .ok (.goto 40, 3) := by decide +kernel
theorem dX9_span_75 : decode cX9_span 75 = .ok (.iload_n 3, 1) := by decide +kernel
theorem dX9_span_76 : decode cX9_span 76 = .ok (.iconst 2, 1) := by decide +kernel
theorem dX9_span_77 : decode cX9_span 77 = .ok (.if_icmp .ne 13, 3) := by decide +kernel
theorem dX9_span_80 : decode cX9_span 80 = .ok (.aload_n 0, 1) := by decide +kernel
theorem dX9_span_81 : decode cX9_span 81 = .ok (.getfield 27, 3) := by decide +kernel
theorem dX9_span_84 : decode cX9_span 84 = .ok (.iload 5, 2) := by decide +kernel
theorem dX9_span_86 : decode cX9_span 86 = .ok (.iaload, 1) := by decide +kernel
theorem dX9_span_87 : decode cX9_span 87 = .ok (.goto 25, 3) := by decide +kernel
theorem dX9_span_90 : decode cX9_span 90 = .ok (.iload_n 3, 1) := by decide +kernel
theorem dX9_span_91 : decode cX9_span 91 = .ok (.iconst 3, 1) := by decide +kernel
theorem dX9_span_92 : decode cX9_span 92 = .ok (.if_icmp .ne 13, 3) := by decide +kernel
theorem dX9_span_95 : decode cX9_span 95 = .ok (.aload_n 0, 1) := by decide +kernel
theorem dX9_span_96 : decode cX9_span 96 = .ok (.getfield 30, 3) := by decide +kernel
theorem dX9_span_99 : decode cX9_span 99 = .ok (.iload 5, 2) := by decide +kernel
theorem dX9_span_101 : decode cX9_span 101 = .ok (.baload, 1) := by decide +kernel
theorem dX9_span_102 : decode cX9_span 102 = .ok (.goto 10, 3) := by decide +kernel
theorem dX9_span_105 : decode cX9_span 105 = .ok (.aload_n 0, 1) := by decide +kernel
theorem dX9_span_106 : decode cX9_span 106 = .ok (.getfield 33, 3) := by decide +kernel
theorem dX9_span_109 : decode cX9_span 109 = .ok (.iload 5, 2) := by decide +kernel
theorem dX9_span_111 : decode cX9_span 111 = .ok (.iaload, 1) := by decide +kernel
theorem dX9_span_112 : decode cX9_span 112 = .ok (.ireturn, 1) := by decide +kernel
set_option maxHeartbeats 4000000 in
set_option maxRecDepth 100000 in
theorem g_X9_span (l : Launch) (G : xG) (S : yS) (d : yD) (h0 : Nat) (p0 : Int32) (p1 : Int32) (p2 : Int32) (hSh : ySh S) (hPo : yPo S d) (hm_h0 : h0 ∈ S.1) (hk_h0 : S.2.1 h0 = 9) (hI : yMI S d h0) : xWi l G yX9_span cX9_span 6 (some .int) 3 66 0 0 [.ref h0, .int p0, .int p1, .int p2] (yW G S d) (fun r (u : yD) => yAg S [9, 69] d u ∧ (yPo S d → yPo S u) ∧ yK [38] d u h0 ∧ (yMI S u h0 ∧ ((r.toInt = -1 ∧ ¬ ((((0 ≤ p0.toInt ∧ p0.toInt ≤ 39 ∧ p0.toInt < (d.1 h0 0).toInt) ∧ 0 ≤ p1.toInt ∧ p1.toInt ≤ 59) ∧ (yCe S d h0 4 p0 p1).toInt ≠ 0 ∧ (yCe S d h0 4 p0 p1).toInt ≠ 1) ∧ 0 ≤ p2.toInt ∧ p2.toInt ≤ 4) ∧ zTr S u h0 (fun s => d.2.2.2.1 (S.2.2.1 h0 s))) ∨ (((((0 ≤ p0.toInt ∧ p0.toInt ≤ 39 ∧ p0.toInt < (d.1 h0 0).toInt) ∧ 0 ≤ p1.toInt ∧ p1.toInt ≤ 59) ∧ (yCe S d h0 4 p0 p1).toInt ≠ 0 ∧ (yCe S d h0 4 p0 p1).toInt ≠ 1) ∧ 0 ≤ p2.toInt ∧ p2.toInt ≤ 4) ∧ ((p2.toInt = 0 → r = yCe S d h0 6 p0 p1) ∧ (p2.toInt = 1 → r = yCe S d h0 7 p0 p1) ∧ (p2.toInt = 2 → r = yCe S d h0 8 p0 p1) ∧ (p2.toInt = 3 → r = yCe S d h0 9 p0 p1) ∧ (p2.toInt = 4 → r = yCe S d h0 10 p0 p1)) ∧ zTr S u h0 (fun s => d.2.2.2.1 (S.2.2.1 h0 s)))))) (fun u => yW G S u) := by
  intro sz
  refine xstart (by decide) (Nat.le_of_ble_eq_true rfl) (fun p e s m args below meth c ls C0 hr hlocks hin hsz hP hK hD hN hl => ?_)
  obtain ⟨hx, hb, hml, hown, htl⟩ := id C0
  subst hsz
  have hD := hD.self (sz := s.heap.size)
  generalize hAe : va_A (yW G S d) s.heap.size = A at hD ⊢
  have hA : ∀ q : Nat, s.heap.size ≤ q → A q := fun q h => by rw [← hAe]; exact Or.inr h
  have hS : va_S A s.heap s.heap [] := va_S.rf
  have hg0 : yAg S [9, 69] d d := yAg.rf
  have hl : lv_has ls 6 [(0, .ref h0), (1, .int p0), (2, .int p1), (3, .int p2)] := hl
  refine lv_aload_n hx hb dX9_span_0 rfl (lv_at hl 0 rfl) ?_
  refine lv_iconst (v := 0) hx hb dX9_span_1 (by decide) ?_
  refine yputI (ci := 9) (k := 38) (ty := .int) (C := RX9) (T := TX9) (N := 67) C0 hK hP hD hS hm_h0 hk_h0 (by decide) rfl inlX9 tyX9 tyX9_ok nmX9 (by decide) mW175 (fun _ h9 => h9) rfl (by decide +kernel) rfl rfl (Nat.le_of_ble_eq_true rfl) ysi_9_38 dX9_span_2 (fun H locs hP hD hS => ?_)
  obtain ⟨d_1, ed_1⟩ : ∃ z : yD, z = yi d h0 38 0 := ⟨_, rfl⟩
  rw [← ed_1] at hP hD
  have hgd_1 : yAg S [9, 69] d d_1 := by rw [ed_1]; exact yAg.i hg0 (by rw [hk_h0]; decide)
  have hsd_1 : yAg S [9] d d_1 := by rw [ed_1]; exact yAg.i yAg.rf (by rw [hk_h0]; decide)
  have hPod_1 : yPo S d_1 := by rw [ed_1]; exact yPo.i hPo hk_h0 (Or.inl rfl)
  have hfd_1 : yK [38] d d_1 h0 := by rw [ed_1]; exact yK.i yK.rf (by decide)
  have hId_1 : yMI S d_1 h0 := yMI.ag hI hSh hm_h0 hk_h0 (show yAg S [9] d d_1 from by rw [ed_1]; exact yAg.i yAg.rf (by rw [hk_h0]; decide)) (show yK [38] d d_1 h0 from by rw [ed_1]; exact yK.i yK.rf (by decide)) (by decide) (by decide)
  have hE0d_1 : (d_1.1 h0 0).toInt = (d.1 h0 0).toInt := congrArg Int32.toInt ((show yK [38] d d_1 h0 from by rw [ed_1]; exact yK.i yK.rf (by decide)) 0 (by decide))
  have hE1d_1 : (d_1.1 h0 1).toInt = (d.1 h0 1).toInt := congrArg Int32.toInt ((show yK [38] d d_1 h0 from by rw [ed_1]; exact yK.i yK.rf (by decide)) 1 (by decide))
  have hE2d_1 : (d_1.1 h0 2).toInt = (d.1 h0 2).toInt := congrArg Int32.toInt ((show yK [38] d d_1 h0 from by rw [ed_1]; exact yK.i yK.rf (by decide)) 2 (by decide))
  have hE3d_1 : (d_1.1 h0 3).toInt = (d.1 h0 3).toInt := congrArg Int32.toInt ((show yK [38] d d_1 h0 from by rw [ed_1]; exact yK.i yK.rf (by decide)) 3 (by decide))
  have hE63d_1 : (d_1.1 h0 63).toInt = (d.1 h0 63).toInt := congrArg Int32.toInt ((show yK [38] d d_1 h0 from by rw [ed_1]; exact yK.i yK.rf (by decide)) 63 (by decide))
  refine lv_iload_n hx hb dX9_span_5 rfl (lv_at hl 3 rfl) ?_
  refine lv_if_lt (tgt := 14) hx hb dX9_span_6 (by decide) (fun c_2 => ?_) (fun c_2 => ?_)
  · refine lv_iconst (v := 1) hx hb dX9_span_14 (by decide) ?_
    refine lv_goto (tgt := 24) hx hb dX9_span_15 (by decide) ?_
    refine lv_istore (lv' := [(4, .int 1), (0, .ref h0), (1, .int p0), (2, .int p1), (3, .int p2)]) hx hb dX9_span_24 hl (by decide) rfl (fun ls hl => ?_)
    refine lv_iload hx hb dX9_span_26 (lv_at hl 0 rfl) ?_
    refine lv_if_eq (tgt := 38) hx hb dX9_span_28 (by decide) (fun c_3 => absurd c_3 (by decide +kernel)) (fun c_3 => ?_)
    refine lv_aload_n hx hb dX9_span_31 rfl (lv_at hl 1 rfl) ?_
    refine lv_iload hx hb dX9_span_32 (lv_at hl 0 rfl) ?_
    refine yVwi (As := [.int 1]) (rest := []) C0 (g_X9_no l G S d_1 h0 1 hSh hPod_1 hm_h0 hk_h0 (by decide +kernel)) ok_X9_no (mW177 : Cond.methodLink RX9 168 yX9_no ∈ wsT) ⟨Nat.le_of_ble_eq_true rfl, Nat.le_of_ble_eq_true rfl⟩ hP hD hS hA hK hN hm_h0 hk_h0 (by decide) rfl rfl rfl hl.1 rfl (Nat.le_of_ble_eq_true rfl) ⟨Nat.le_of_ble_eq_true rfl, Nat.le_of_ble_eq_true rfl⟩ dX9_span_34 (fun r_4 d_5 H locs hr_4 hP hD hS => ?_)
    obtain ⟨hgad_5, hpad_5, hfad_5, hxd_5⟩ := hr_4
    have hfd_5 : yK [38] d d_5 h0 := yK.tr hfd_1 hfad_5 (by decide)
    have hE0d_5 : (d_5.1 h0 0).toInt = (d_1.1 h0 0).toInt := congrArg Int32.toInt (hfad_5 0 (by decide))
    have hE1d_5 : (d_5.1 h0 1).toInt = (d_1.1 h0 1).toInt := congrArg Int32.toInt (hfad_5 1 (by decide))
    have hE2d_5 : (d_5.1 h0 2).toInt = (d_1.1 h0 2).toInt := congrArg Int32.toInt (hfad_5 2 (by decide))
    have hE3d_5 : (d_5.1 h0 3).toInt = (d_1.1 h0 3).toInt := congrArg Int32.toInt (hfad_5 3 (by decide))
    have hE63d_5 : (d_5.1 h0 63).toInt = (d_1.1 h0 63).toInt := congrArg Int32.toInt (hfad_5 63 (by decide))
    have hId_5 : yMI S d_5 h0 := yMI.ag hId_1 hSh hm_h0 hk_h0 hgad_5 hfad_5 (by decide) (by decide)
    have hgd_5 : yAg S [9, 69] d d_5 := yAg.tr hgd_1 hgad_5 (by first | decide | exact fun _ h => h)
    have hPod_5 : yPo S d_5 := hpad_5 hPod_1
    have hm1r_4 : (r_4 : Int32).toInt = -1 := by rw [hxd_5]; decide +kernel
    have hCC_6 := yMI.c hId_5
    have F_7 := flt (rfl : (p2 : Int32).toInt = (p2 : Int32).toInt) (by decide +kernel : (0 : Int32).toInt = 0) c_2
    have F_8 := fne (by decide +kernel : (1 : Int32).toInt = 1) (by decide +kernel : (0 : Int32).toInt = 0) c_3
    exact W.iret (v := r_4) hx hb hr (fun t ht hW => ⟨⟨r_4, d_5, rfl, ⟨hgd_5, (fun _ => hPod_5), hfd_5, ⟨hId_5, Or.inl ⟨by omega, by omega, (zTr.ag (zTr.ag zTr.rf hSh hm_h0 hk_h0 hsd_1 (by decide)) hSh hm_h0 hk_h0 hgad_5 (by decide))⟩⟩⟩, by rw [ht]; exact hP, hD⟩, hS.F ht⟩) hS.2.2 dX9_span_37
  · refine lv_iload_n hx hb dX9_span_9 rfl (lv_at hl 3 rfl) ?_
    refine lv_iconst (v := 4) hx hb dX9_span_10 (by decide) ?_
    refine lv_icmp_le (tgt := 18) hx hb dX9_span_11 (by decide) (fun c_9 => ?_) (fun c_9 => ?_)
    · refine lv_aload_n hx hb dX9_span_18 rfl (lv_at hl 0 rfl) ?_
      refine lv_iload_n hx hb dX9_span_19 rfl (lv_at hl 1 rfl) ?_
      refine lv_iload_n hx hb dX9_span_20 rfl (lv_at hl 2 rfl) ?_
      refine yVri (As := [.int p0, .int p1]) (rest := []) C0 (g_X9_termWhy l G S d_1 h0 p0 p1 hSh hm_h0 hk_h0) ok_X9_termWhy (mW248 : Cond.methodLink RX9 175 yX9_termWhy ∈ wsT) ⟨Nat.le_of_ble_eq_true rfl, Nat.le_of_ble_eq_true rfl⟩ hP hD hK hN hm_h0 hk_h0 (by decide) rfl rfl rfl hl.1 rfl (Nat.le_of_ble_eq_true rfl) ⟨Nat.le_of_ble_eq_true rfl, Nat.le_of_ble_eq_true rfl⟩ dX9_span_21 (fun r_10 hr_10 => ?_)
      refine lv_istore (lv' := [(4, .int r_10), (0, .ref h0), (1, .int p0), (2, .int p1), (3, .int p2)]) hx hb dX9_span_24 hl (by decide) rfl (fun ls hl => ?_)
      refine lv_iload hx hb dX9_span_26 (lv_at hl 0 rfl) ?_
      refine lv_if_eq (tgt := 38) hx hb dX9_span_28 (by decide) (fun c_11 => ?_) (fun c_11 => ?_)
      · refine lv_bipush (v := 60) hx hb dX9_span_38 (by decide) ?_
        refine lv_iload_n hx hb dX9_span_40 rfl (lv_at hl 2 rfl) ?_
        refine lv_imul hx hb dX9_span_41 ?_
        refine lv_topi (fun z_12 ez_12 => ?_)
        refine lv_iload_n hx hb dX9_span_42 rfl (lv_at hl 3 rfl) ?_
        refine lv_iadd hx hb dX9_span_43 ?_
        refine lv_topi (fun z_13 ez_13 => ?_)
        refine lv_istore (lv' := [(5, .int z_13), (4, .int r_10), (0, .ref h0), (1, .int p0), (2, .int p1), (3, .int p2)]) hx hb dX9_span_44 hl (by decide) rfl (fun ls hl => ?_)
        refine lv_iload_n hx hb dX9_span_46 rfl (lv_at hl 5 rfl) ?_
        refine lv_if_ne (tgt := 60) hx hb dX9_span_47 (by decide) (fun c_14 => ?_) (fun c_14 => ?_)
        · refine lv_iload_n hx hb dX9_span_60 rfl (lv_at hl 5 rfl) ?_
          refine lv_iconst (v := 1) hx hb dX9_span_61 (by decide) ?_
          refine lv_icmp_ne (tgt := 75) hx hb dX9_span_62 (by decide) (fun c_15 => ?_) (fun c_15 => ?_)
          · refine lv_iload_n hx hb dX9_span_75 rfl (lv_at hl 5 rfl) ?_
            refine lv_iconst (v := 2) hx hb dX9_span_76 (by decide) ?_
            refine lv_icmp_ne (tgt := 90) hx hb dX9_span_77 (by decide) (fun c_16 => ?_) (fun c_16 => ?_)
            · refine lv_iload_n hx hb dX9_span_90 rfl (lv_at hl 5 rfl) ?_
              refine lv_iconst (v := 3) hx hb dX9_span_91 (by decide) ?_
              refine lv_icmp_ne (tgt := 105) hx hb dX9_span_92 (by decide) (fun c_17 => ?_) (fun c_17 => ?_)
              · refine lv_aload_n hx hb dX9_span_105 rfl (lv_at hl 2 rfl) ?_
                refine yget (ci := 9) (k := 10) (v := .ref (S.2.2.1 h0 10)) (C := RX9) (T := TX9) (N := 67) C0 hK hP hm_h0 hk_h0 (by decide) rfl inlX9 (by decide) mW114 (fun _ h9 => h9) rfl dX9_span_106 ?_
                obtain ⟨hmy_18, hky_18⟩ := ySh.f9_10 hSh _ hm_h0 hk_h0
                refine lv_iload hx hb dX9_span_109 (lv_at hl 0 rfl) ?_
                have hCC_19 := yMI.c hId_1
                have F_20 := fnlt (rfl : (p2 : Int32).toInt = (p2 : Int32).toInt) (by decide +kernel : (0 : Int32).toInt = 0) c_2
                have F_21 := fle (rfl : (p2 : Int32).toInt = (p2 : Int32).toInt) (by decide +kernel : (4 : Int32).toInt = 4) c_9
                have F_22 := feq (rfl : (r_10 : Int32).toInt = (r_10 : Int32).toInt) (by decide +kernel : (0 : Int32).toInt = 0) c_11
                have F_23 := fne (rfl : (p2 : Int32).toInt = (p2 : Int32).toInt) (by decide +kernel : (0 : Int32).toInt = 0) c_14
                have F_24 := fne (rfl : (p2 : Int32).toInt = (p2 : Int32).toInt) (by decide +kernel : (1 : Int32).toInt = 1) c_15
                have F_25 := fne (rfl : (p2 : Int32).toInt = (p2 : Int32).toInt) (by decide +kernel : (2 : Int32).toInt = 2) c_16
                have F_26 := fne (rfl : (p2 : Int32).toInt = (p2 : Int32).toInt) (by decide +kernel : (3 : Int32).toInt = 3) c_17
                have T_28 : (z_12 : Int32).toInt = 60 * (p0 : Int32).toInt := tmul ez_12 (by decide +kernel : (60 : Int32).toInt = 60) (rfl : (p0 : Int32).toInt = (p0 : Int32).toInt) (by omega) (by omega)
                have T_27 : (z_13 : Int32).toInt = (z_12 : Int32).toInt + (p1 : Int32).toInt := tadd ez_13 (rfl : (z_12 : Int32).toInt = (z_12 : Int32).toInt) (rfl : (p1 : Int32).toInt = (p1 : Int32).toInt) (by omega) (by omega)
                refine yald C0 hK hP hmy_18 hky_18 (by decide) rfl 0 rfl (xinT 2400 rfl (by omega) (by omega)) dX9_span_111 ?_
                refine lv_topi (fun z_29 ez_29 => ?_)
                have hrcd_1 : yCe S d_1 h0 4 p0 p1 = yCe S d h0 4 p0 p1 := by unfold yCe; rw [show d_1.2.2.2.1 (S.2.2.1 h0 4) = d.2.2.2.1 (S.2.2.1 h0 4) from (hsd_1 _ (by rw [(ySh.f9_4 hSh h0 hm_h0 hk_h0).2]; decide)).2.2.2.1]
                have hrud_1 : (yCe S d_1 h0 4 p0 p1).toInt = (yCe S d h0 4 p0 p1).toInt := congrArg Int32.toInt hrcd_1
                have hcez_29 : z_29 = yCe S d_1 h0 10 p0 p1 := yCe_of (by omega) (by omega) (by omega) ez_29
                have hcdz_29 : yCe S d_1 h0 10 p0 p1 = yCe S d h0 10 p0 p1 := by unfold yCe; rw [show d_1.2.2.2.1 (S.2.2.1 h0 10) = d.2.2.2.1 (S.2.2.1 h0 10) from (hsd_1 _ (by rw [(ySh.f9_10 hSh h0 hm_h0 hk_h0).2]; decide)).2.2.2.1]
                have hctz_29 : (z_29 : Int32).toInt = (yCe S d h0 10 p0 p1).toInt := congrArg Int32.toInt (hcez_29.trans hcdz_29)
                exact W.iret (v := z_29) hx hb hr (fun t ht hW => ⟨⟨z_29, d_1, rfl, ⟨hgd_1, (fun _ => hPod_1), hfd_1, ⟨hId_1, Or.inr ⟨by omega, ⟨(fun q => by omega), (fun q => by omega), (fun q => by omega), (fun q => by omega), (fun q => (hcez_29.trans hcdz_29))⟩, (zTr.ag zTr.rf hSh hm_h0 hk_h0 hsd_1 (by decide))⟩⟩⟩, by rw [ht]; exact hP, hD⟩, hS.F ht⟩) hS.2.2 dX9_span_112
              · refine lv_aload_n hx hb dX9_span_95 rfl (lv_at hl 2 rfl) ?_
                refine yget (ci := 9) (k := 9) (v := .ref (S.2.2.1 h0 9)) (C := RX9) (T := TX9) (N := 67) C0 hK hP hm_h0 hk_h0 (by decide) rfl inlX9 (by decide) mW113 (fun _ h9 => h9) rfl dX9_span_96 ?_
                obtain ⟨hmy_30, hky_30⟩ := ySh.f9_9 hSh _ hm_h0 hk_h0
                refine lv_iload hx hb dX9_span_99 (lv_at hl 0 rfl) ?_
                have hCC_31 := yMI.c hId_1
                have F_32 := fnlt (rfl : (p2 : Int32).toInt = (p2 : Int32).toInt) (by decide +kernel : (0 : Int32).toInt = 0) c_2
                have F_33 := fle (rfl : (p2 : Int32).toInt = (p2 : Int32).toInt) (by decide +kernel : (4 : Int32).toInt = 4) c_9
                have F_34 := feq (rfl : (r_10 : Int32).toInt = (r_10 : Int32).toInt) (by decide +kernel : (0 : Int32).toInt = 0) c_11
                have F_35 := fne (rfl : (p2 : Int32).toInt = (p2 : Int32).toInt) (by decide +kernel : (0 : Int32).toInt = 0) c_14
                have F_36 := fne (rfl : (p2 : Int32).toInt = (p2 : Int32).toInt) (by decide +kernel : (1 : Int32).toInt = 1) c_15
                have F_37 := fne (rfl : (p2 : Int32).toInt = (p2 : Int32).toInt) (by decide +kernel : (2 : Int32).toInt = 2) c_16
                have F_38 := feq (rfl : (p2 : Int32).toInt = (p2 : Int32).toInt) (by decide +kernel : (3 : Int32).toInt = 3) c_17
                have T_40 : (z_12 : Int32).toInt = 60 * (p0 : Int32).toInt := tmul ez_12 (by decide +kernel : (60 : Int32).toInt = 60) (rfl : (p0 : Int32).toInt = (p0 : Int32).toInt) (by omega) (by omega)
                have T_39 : (z_13 : Int32).toInt = (z_12 : Int32).toInt + (p1 : Int32).toInt := tadd ez_13 (rfl : (z_12 : Int32).toInt = (z_12 : Int32).toInt) (rfl : (p1 : Int32).toInt = (p1 : Int32).toInt) (by omega) (by omega)
                refine yaldB C0 hK hP hmy_30 hky_30 (by decide) rfl 1 rfl (xinT 2400 rfl (by omega) (by omega)) dX9_span_101 ?_
                refine lv_topi (fun z_41 ez_41 => ?_)
                refine lv_goto (tgt := 112) hx hb dX9_span_102 (by decide) ?_
                have hrcd_1 : yCe S d_1 h0 4 p0 p1 = yCe S d h0 4 p0 p1 := by unfold yCe; rw [show d_1.2.2.2.1 (S.2.2.1 h0 4) = d.2.2.2.1 (S.2.2.1 h0 4) from (hsd_1 _ (by rw [(ySh.f9_4 hSh h0 hm_h0 hk_h0).2]; decide)).2.2.2.1]
                have hrud_1 : (yCe S d_1 h0 4 p0 p1).toInt = (yCe S d h0 4 p0 p1).toInt := congrArg Int32.toInt hrcd_1
                have hcez_41 : z_41 = yCe S d_1 h0 9 p0 p1 := yCe_of (by omega) (by omega) (by omega) ez_41
                have hcdz_41 : yCe S d_1 h0 9 p0 p1 = yCe S d h0 9 p0 p1 := by unfold yCe; rw [show d_1.2.2.2.1 (S.2.2.1 h0 9) = d.2.2.2.1 (S.2.2.1 h0 9) from (hsd_1 _ (by rw [(ySh.f9_9 hSh h0 hm_h0 hk_h0).2]; decide)).2.2.2.1]
                have hctz_41 : (z_41 : Int32).toInt = (yCe S d h0 9 p0 p1).toInt := congrArg Int32.toInt (hcez_41.trans hcdz_41)
                exact W.iret (v := z_41) hx hb hr (fun t ht hW => ⟨⟨z_41, d_1, rfl, ⟨hgd_1, (fun _ => hPod_1), hfd_1, ⟨hId_1, Or.inr ⟨by omega, ⟨(fun q => by omega), (fun q => by omega), (fun q => by omega), (fun q => (hcez_41.trans hcdz_41)), (fun q => by omega)⟩, (zTr.ag zTr.rf hSh hm_h0 hk_h0 hsd_1 (by decide))⟩⟩⟩, by rw [ht]; exact hP, hD⟩, hS.F ht⟩) hS.2.2 dX9_span_112
            · refine lv_aload_n hx hb dX9_span_80 rfl (lv_at hl 2 rfl) ?_
              refine yget (ci := 9) (k := 8) (v := .ref (S.2.2.1 h0 8)) (C := RX9) (T := TX9) (N := 67) C0 hK hP hm_h0 hk_h0 (by decide) rfl inlX9 (by decide) mW112 (fun _ h9 => h9) rfl dX9_span_81 ?_
              obtain ⟨hmy_42, hky_42⟩ := ySh.f9_8 hSh _ hm_h0 hk_h0
              refine lv_iload hx hb dX9_span_84 (lv_at hl 0 rfl) ?_
              have hCC_43 := yMI.c hId_1
              have F_44 := fnlt (rfl : (p2 : Int32).toInt = (p2 : Int32).toInt) (by decide +kernel : (0 : Int32).toInt = 0) c_2
              have F_45 := fle (rfl : (p2 : Int32).toInt = (p2 : Int32).toInt) (by decide +kernel : (4 : Int32).toInt = 4) c_9
              have F_46 := feq (rfl : (r_10 : Int32).toInt = (r_10 : Int32).toInt) (by decide +kernel : (0 : Int32).toInt = 0) c_11
              have F_47 := fne (rfl : (p2 : Int32).toInt = (p2 : Int32).toInt) (by decide +kernel : (0 : Int32).toInt = 0) c_14
              have F_48 := fne (rfl : (p2 : Int32).toInt = (p2 : Int32).toInt) (by decide +kernel : (1 : Int32).toInt = 1) c_15
              have F_49 := feq (rfl : (p2 : Int32).toInt = (p2 : Int32).toInt) (by decide +kernel : (2 : Int32).toInt = 2) c_16
              have T_51 : (z_12 : Int32).toInt = 60 * (p0 : Int32).toInt := tmul ez_12 (by decide +kernel : (60 : Int32).toInt = 60) (rfl : (p0 : Int32).toInt = (p0 : Int32).toInt) (by omega) (by omega)
              have T_50 : (z_13 : Int32).toInt = (z_12 : Int32).toInt + (p1 : Int32).toInt := tadd ez_13 (rfl : (z_12 : Int32).toInt = (z_12 : Int32).toInt) (rfl : (p1 : Int32).toInt = (p1 : Int32).toInt) (by omega) (by omega)
              refine yald C0 hK hP hmy_42 hky_42 (by decide) rfl 0 rfl (xinT 2400 rfl (by omega) (by omega)) dX9_span_86 ?_
              refine lv_topi (fun z_52 ez_52 => ?_)
              refine lv_goto (tgt := 112) hx hb dX9_span_87 (by decide) ?_
              have hrcd_1 : yCe S d_1 h0 4 p0 p1 = yCe S d h0 4 p0 p1 := by unfold yCe; rw [show d_1.2.2.2.1 (S.2.2.1 h0 4) = d.2.2.2.1 (S.2.2.1 h0 4) from (hsd_1 _ (by rw [(ySh.f9_4 hSh h0 hm_h0 hk_h0).2]; decide)).2.2.2.1]
              have hrud_1 : (yCe S d_1 h0 4 p0 p1).toInt = (yCe S d h0 4 p0 p1).toInt := congrArg Int32.toInt hrcd_1
              have hcez_52 : z_52 = yCe S d_1 h0 8 p0 p1 := yCe_of (by omega) (by omega) (by omega) ez_52
              have hcdz_52 : yCe S d_1 h0 8 p0 p1 = yCe S d h0 8 p0 p1 := by unfold yCe; rw [show d_1.2.2.2.1 (S.2.2.1 h0 8) = d.2.2.2.1 (S.2.2.1 h0 8) from (hsd_1 _ (by rw [(ySh.f9_8 hSh h0 hm_h0 hk_h0).2]; decide)).2.2.2.1]
              have hctz_52 : (z_52 : Int32).toInt = (yCe S d h0 8 p0 p1).toInt := congrArg Int32.toInt (hcez_52.trans hcdz_52)
              exact W.iret (v := z_52) hx hb hr (fun t ht hW => ⟨⟨z_52, d_1, rfl, ⟨hgd_1, (fun _ => hPod_1), hfd_1, ⟨hId_1, Or.inr ⟨by omega, ⟨(fun q => by omega), (fun q => by omega), (fun q => (hcez_52.trans hcdz_52)), (fun q => by omega), (fun q => by omega)⟩, (zTr.ag zTr.rf hSh hm_h0 hk_h0 hsd_1 (by decide))⟩⟩⟩, by rw [ht]; exact hP, hD⟩, hS.F ht⟩) hS.2.2 dX9_span_112
          · refine lv_aload_n hx hb dX9_span_65 rfl (lv_at hl 2 rfl) ?_
            refine yget (ci := 9) (k := 7) (v := .ref (S.2.2.1 h0 7)) (C := RX9) (T := TX9) (N := 67) C0 hK hP hm_h0 hk_h0 (by decide) rfl inlX9 (by decide) mW111 (fun _ h9 => h9) rfl dX9_span_66 ?_
            obtain ⟨hmy_53, hky_53⟩ := ySh.f9_7 hSh _ hm_h0 hk_h0
            refine lv_iload hx hb dX9_span_69 (lv_at hl 0 rfl) ?_
            have hCC_54 := yMI.c hId_1
            have F_55 := fnlt (rfl : (p2 : Int32).toInt = (p2 : Int32).toInt) (by decide +kernel : (0 : Int32).toInt = 0) c_2
            have F_56 := fle (rfl : (p2 : Int32).toInt = (p2 : Int32).toInt) (by decide +kernel : (4 : Int32).toInt = 4) c_9
            have F_57 := feq (rfl : (r_10 : Int32).toInt = (r_10 : Int32).toInt) (by decide +kernel : (0 : Int32).toInt = 0) c_11
            have F_58 := fne (rfl : (p2 : Int32).toInt = (p2 : Int32).toInt) (by decide +kernel : (0 : Int32).toInt = 0) c_14
            have F_59 := feq (rfl : (p2 : Int32).toInt = (p2 : Int32).toInt) (by decide +kernel : (1 : Int32).toInt = 1) c_15
            have T_61 : (z_12 : Int32).toInt = 60 * (p0 : Int32).toInt := tmul ez_12 (by decide +kernel : (60 : Int32).toInt = 60) (rfl : (p0 : Int32).toInt = (p0 : Int32).toInt) (by omega) (by omega)
            have T_60 : (z_13 : Int32).toInt = (z_12 : Int32).toInt + (p1 : Int32).toInt := tadd ez_13 (rfl : (z_12 : Int32).toInt = (z_12 : Int32).toInt) (rfl : (p1 : Int32).toInt = (p1 : Int32).toInt) (by omega) (by omega)
            refine yald C0 hK hP hmy_53 hky_53 (by decide) rfl 0 rfl (xinT 2400 rfl (by omega) (by omega)) dX9_span_71 ?_
            refine lv_topi (fun z_62 ez_62 => ?_)
            refine lv_goto (tgt := 112) hx hb dX9_span_72 (by decide) ?_
            have hrcd_1 : yCe S d_1 h0 4 p0 p1 = yCe S d h0 4 p0 p1 := by unfold yCe; rw [show d_1.2.2.2.1 (S.2.2.1 h0 4) = d.2.2.2.1 (S.2.2.1 h0 4) from (hsd_1 _ (by rw [(ySh.f9_4 hSh h0 hm_h0 hk_h0).2]; decide)).2.2.2.1]
            have hrud_1 : (yCe S d_1 h0 4 p0 p1).toInt = (yCe S d h0 4 p0 p1).toInt := congrArg Int32.toInt hrcd_1
            have hcez_62 : z_62 = yCe S d_1 h0 7 p0 p1 := yCe_of (by omega) (by omega) (by omega) ez_62
            have hcdz_62 : yCe S d_1 h0 7 p0 p1 = yCe S d h0 7 p0 p1 := by unfold yCe; rw [show d_1.2.2.2.1 (S.2.2.1 h0 7) = d.2.2.2.1 (S.2.2.1 h0 7) from (hsd_1 _ (by rw [(ySh.f9_7 hSh h0 hm_h0 hk_h0).2]; decide)).2.2.2.1]
            have hctz_62 : (z_62 : Int32).toInt = (yCe S d h0 7 p0 p1).toInt := congrArg Int32.toInt (hcez_62.trans hcdz_62)
            exact W.iret (v := z_62) hx hb hr (fun t ht hW => ⟨⟨z_62, d_1, rfl, ⟨hgd_1, (fun _ => hPod_1), hfd_1, ⟨hId_1, Or.inr ⟨by omega, ⟨(fun q => by omega), (fun q => (hcez_62.trans hcdz_62)), (fun q => by omega), (fun q => by omega), (fun q => by omega)⟩, (zTr.ag zTr.rf hSh hm_h0 hk_h0 hsd_1 (by decide))⟩⟩⟩, by rw [ht]; exact hP, hD⟩, hS.F ht⟩) hS.2.2 dX9_span_112
        · refine lv_aload_n hx hb dX9_span_50 rfl (lv_at hl 2 rfl) ?_
          refine yget (ci := 9) (k := 6) (v := .ref (S.2.2.1 h0 6)) (C := RX9) (T := TX9) (N := 67) C0 hK hP hm_h0 hk_h0 (by decide) rfl inlX9 (by decide) mW110 (fun _ h9 => h9) rfl dX9_span_51 ?_
          obtain ⟨hmy_63, hky_63⟩ := ySh.f9_6 hSh _ hm_h0 hk_h0
          refine lv_iload hx hb dX9_span_54 (lv_at hl 0 rfl) ?_
          have hCC_64 := yMI.c hId_1
          have F_65 := fnlt (rfl : (p2 : Int32).toInt = (p2 : Int32).toInt) (by decide +kernel : (0 : Int32).toInt = 0) c_2
          have F_66 := fle (rfl : (p2 : Int32).toInt = (p2 : Int32).toInt) (by decide +kernel : (4 : Int32).toInt = 4) c_9
          have F_67 := feq (rfl : (r_10 : Int32).toInt = (r_10 : Int32).toInt) (by decide +kernel : (0 : Int32).toInt = 0) c_11
          have F_68 := feq (rfl : (p2 : Int32).toInt = (p2 : Int32).toInt) (by decide +kernel : (0 : Int32).toInt = 0) c_14
          have T_70 : (z_12 : Int32).toInt = 60 * (p0 : Int32).toInt := tmul ez_12 (by decide +kernel : (60 : Int32).toInt = 60) (rfl : (p0 : Int32).toInt = (p0 : Int32).toInt) (by omega) (by omega)
          have T_69 : (z_13 : Int32).toInt = (z_12 : Int32).toInt + (p1 : Int32).toInt := tadd ez_13 (rfl : (z_12 : Int32).toInt = (z_12 : Int32).toInt) (rfl : (p1 : Int32).toInt = (p1 : Int32).toInt) (by omega) (by omega)
          refine yaldB C0 hK hP hmy_63 hky_63 (by decide) rfl 1 rfl (xinT 2400 rfl (by omega) (by omega)) dX9_span_56 ?_
          refine lv_topi (fun z_71 ez_71 => ?_)
          refine lv_goto (tgt := 112) hx hb dX9_span_57 (by decide) ?_
          have hrcd_1 : yCe S d_1 h0 4 p0 p1 = yCe S d h0 4 p0 p1 := by unfold yCe; rw [show d_1.2.2.2.1 (S.2.2.1 h0 4) = d.2.2.2.1 (S.2.2.1 h0 4) from (hsd_1 _ (by rw [(ySh.f9_4 hSh h0 hm_h0 hk_h0).2]; decide)).2.2.2.1]
          have hrud_1 : (yCe S d_1 h0 4 p0 p1).toInt = (yCe S d h0 4 p0 p1).toInt := congrArg Int32.toInt hrcd_1
          have hcez_71 : z_71 = yCe S d_1 h0 6 p0 p1 := yCe_of (by omega) (by omega) (by omega) ez_71
          have hcdz_71 : yCe S d_1 h0 6 p0 p1 = yCe S d h0 6 p0 p1 := by unfold yCe; rw [show d_1.2.2.2.1 (S.2.2.1 h0 6) = d.2.2.2.1 (S.2.2.1 h0 6) from (hsd_1 _ (by rw [(ySh.f9_6 hSh h0 hm_h0 hk_h0).2]; decide)).2.2.2.1]
          have hctz_71 : (z_71 : Int32).toInt = (yCe S d h0 6 p0 p1).toInt := congrArg Int32.toInt (hcez_71.trans hcdz_71)
          exact W.iret (v := z_71) hx hb hr (fun t ht hW => ⟨⟨z_71, d_1, rfl, ⟨hgd_1, (fun _ => hPod_1), hfd_1, ⟨hId_1, Or.inr ⟨by omega, ⟨(fun q => (hcez_71.trans hcdz_71)), (fun q => by omega), (fun q => by omega), (fun q => by omega), (fun q => by omega)⟩, (zTr.ag zTr.rf hSh hm_h0 hk_h0 hsd_1 (by decide))⟩⟩⟩, by rw [ht]; exact hP, hD⟩, hS.F ht⟩) hS.2.2 dX9_span_112
      · refine lv_aload_n hx hb dX9_span_31 rfl (lv_at hl 1 rfl) ?_
        refine lv_iload hx hb dX9_span_32 (lv_at hl 0 rfl) ?_
        have F_72 := fnlt (rfl : (p2 : Int32).toInt = (p2 : Int32).toInt) (by decide +kernel : (0 : Int32).toInt = 0) c_2
        have F_73 := fle (rfl : (p2 : Int32).toInt = (p2 : Int32).toInt) (by decide +kernel : (4 : Int32).toInt = 4) c_9
        have F_74 := fne (rfl : (r_10 : Int32).toInt = (r_10 : Int32).toInt) (by decide +kernel : (0 : Int32).toInt = 0) c_11
        refine yVwi (As := [.int r_10]) (rest := []) C0 (g_X9_no l G S d_1 h0 r_10 hSh hPod_1 hm_h0 hk_h0 (by refine ⟨?_, ?_⟩ <;> omega)) ok_X9_no (mW177 : Cond.methodLink RX9 168 yX9_no ∈ wsT) ⟨Nat.le_of_ble_eq_true rfl, Nat.le_of_ble_eq_true rfl⟩ hP hD hS hA hK hN hm_h0 hk_h0 (by decide) rfl rfl rfl hl.1 rfl (Nat.le_of_ble_eq_true rfl) ⟨Nat.le_of_ble_eq_true rfl, Nat.le_of_ble_eq_true rfl⟩ dX9_span_34 (fun r_75 d_76 H locs hr_75 hP hD hS => ?_)
        obtain ⟨hgad_76, hpad_76, hfad_76, hxd_76⟩ := hr_75
        have hfd_76 : yK [38] d d_76 h0 := yK.tr hfd_1 hfad_76 (by decide)
        have hE0d_76 : (d_76.1 h0 0).toInt = (d_1.1 h0 0).toInt := congrArg Int32.toInt (hfad_76 0 (by decide))
        have hE1d_76 : (d_76.1 h0 1).toInt = (d_1.1 h0 1).toInt := congrArg Int32.toInt (hfad_76 1 (by decide))
        have hE2d_76 : (d_76.1 h0 2).toInt = (d_1.1 h0 2).toInt := congrArg Int32.toInt (hfad_76 2 (by decide))
        have hE3d_76 : (d_76.1 h0 3).toInt = (d_1.1 h0 3).toInt := congrArg Int32.toInt (hfad_76 3 (by decide))
        have hE63d_76 : (d_76.1 h0 63).toInt = (d_1.1 h0 63).toInt := congrArg Int32.toInt (hfad_76 63 (by decide))
        have hId_76 : yMI S d_76 h0 := yMI.ag hId_1 hSh hm_h0 hk_h0 hgad_76 hfad_76 (by decide) (by decide)
        have hgd_76 : yAg S [9, 69] d d_76 := yAg.tr hgd_1 hgad_76 (by first | decide | exact fun _ h => h)
        have hPod_76 : yPo S d_76 := hpad_76 hPod_1
        have hm1r_75 : (r_75 : Int32).toInt = -1 := by rw [hxd_76]; decide +kernel
        have hCC_77 := yMI.c hId_76
        have hrcd_1 : yCe S d_1 h0 4 p0 p1 = yCe S d h0 4 p0 p1 := by unfold yCe; rw [show d_1.2.2.2.1 (S.2.2.1 h0 4) = d.2.2.2.1 (S.2.2.1 h0 4) from (hsd_1 _ (by rw [(ySh.f9_4 hSh h0 hm_h0 hk_h0).2]; decide)).2.2.2.1]
        have hrud_1 : (yCe S d_1 h0 4 p0 p1).toInt = (yCe S d h0 4 p0 p1).toInt := congrArg Int32.toInt hrcd_1
        exact W.iret (v := r_75) hx hb hr (fun t ht hW => ⟨⟨r_75, d_76, rfl, ⟨hgd_76, (fun _ => hPod_76), hfd_76, ⟨hId_76, Or.inl ⟨by omega, by omega, (zTr.ag (zTr.ag zTr.rf hSh hm_h0 hk_h0 hsd_1 (by decide)) hSh hm_h0 hk_h0 hgad_76 (by decide))⟩⟩⟩, by rw [ht]; exact hP, hD⟩, hS.F ht⟩) hS.2.2 dX9_span_37
    · refine lv_iconst (v := 1) hx hb dX9_span_14 (by decide) ?_
      refine lv_goto (tgt := 24) hx hb dX9_span_15 (by decide) ?_
      refine lv_istore (lv' := [(4, .int 1), (0, .ref h0), (1, .int p0), (2, .int p1), (3, .int p2)]) hx hb dX9_span_24 hl (by decide) rfl (fun ls hl => ?_)
      refine lv_iload hx hb dX9_span_26 (lv_at hl 0 rfl) ?_
      refine lv_if_eq (tgt := 38) hx hb dX9_span_28 (by decide) (fun c_78 => absurd c_78 (by decide +kernel)) (fun c_78 => ?_)
      refine lv_aload_n hx hb dX9_span_31 rfl (lv_at hl 1 rfl) ?_
      refine lv_iload hx hb dX9_span_32 (lv_at hl 0 rfl) ?_
      refine yVwi (As := [.int 1]) (rest := []) C0 (g_X9_no l G S d_1 h0 1 hSh hPod_1 hm_h0 hk_h0 (by decide +kernel)) ok_X9_no (mW177 : Cond.methodLink RX9 168 yX9_no ∈ wsT) ⟨Nat.le_of_ble_eq_true rfl, Nat.le_of_ble_eq_true rfl⟩ hP hD hS hA hK hN hm_h0 hk_h0 (by decide) rfl rfl rfl hl.1 rfl (Nat.le_of_ble_eq_true rfl) ⟨Nat.le_of_ble_eq_true rfl, Nat.le_of_ble_eq_true rfl⟩ dX9_span_34 (fun r_79 d_80 H locs hr_79 hP hD hS => ?_)
      obtain ⟨hgad_80, hpad_80, hfad_80, hxd_80⟩ := hr_79
      have hfd_80 : yK [38] d d_80 h0 := yK.tr hfd_1 hfad_80 (by decide)
      have hE0d_80 : (d_80.1 h0 0).toInt = (d_1.1 h0 0).toInt := congrArg Int32.toInt (hfad_80 0 (by decide))
      have hE1d_80 : (d_80.1 h0 1).toInt = (d_1.1 h0 1).toInt := congrArg Int32.toInt (hfad_80 1 (by decide))
      have hE2d_80 : (d_80.1 h0 2).toInt = (d_1.1 h0 2).toInt := congrArg Int32.toInt (hfad_80 2 (by decide))
      have hE3d_80 : (d_80.1 h0 3).toInt = (d_1.1 h0 3).toInt := congrArg Int32.toInt (hfad_80 3 (by decide))
      have hE63d_80 : (d_80.1 h0 63).toInt = (d_1.1 h0 63).toInt := congrArg Int32.toInt (hfad_80 63 (by decide))
      have hId_80 : yMI S d_80 h0 := yMI.ag hId_1 hSh hm_h0 hk_h0 hgad_80 hfad_80 (by decide) (by decide)
      have hgd_80 : yAg S [9, 69] d d_80 := yAg.tr hgd_1 hgad_80 (by first | decide | exact fun _ h => h)
      have hPod_80 : yPo S d_80 := hpad_80 hPod_1
      have hm1r_79 : (r_79 : Int32).toInt = -1 := by rw [hxd_80]; decide +kernel
      have hCC_81 := yMI.c hId_80
      have F_82 := fnlt (rfl : (p2 : Int32).toInt = (p2 : Int32).toInt) (by decide +kernel : (0 : Int32).toInt = 0) c_2
      have F_83 := fnle (rfl : (p2 : Int32).toInt = (p2 : Int32).toInt) (by decide +kernel : (4 : Int32).toInt = 4) c_9
      have F_84 := fne (by decide +kernel : (1 : Int32).toInt = 1) (by decide +kernel : (0 : Int32).toInt = 0) c_78
      exact W.iret (v := r_79) hx hb hr (fun t ht hW => ⟨⟨r_79, d_80, rfl, ⟨hgd_80, (fun _ => hPod_80), hfd_80, ⟨hId_80, Or.inl ⟨by omega, by omega, (zTr.ag (zTr.ag zTr.rf hSh hm_h0 hk_h0 hsd_1 (by decide)) hSh hm_h0 hk_h0 hgad_80 (by decide))⟩⟩⟩, by rw [ht]; exact hP, hD⟩, hS.F ht⟩) hS.2.2 dX9_span_37
