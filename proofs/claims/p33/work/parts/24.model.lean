theorem dX9_teller_0 : decode cX9_teller 0 = .ok (.bipush 60, 2) := by decide +kernel
theorem dX9_teller_2 : decode cX9_teller 2 = .ok (.aload_n 0, 1) := by decide +kernel
theorem dX9_teller_3 : decode cX9_teller 3 = .ok (.iload_n 1, 1) := by decide +kernel
theorem dX9_teller_4 : decode cX9_teller 4 = .ok (.iconst 1, 1) := by decide +kernel
theorem dX9_teller_5 : decode cX9_teller 5 = .ok (.invokevirtual 161, 3) := by decide +kernel
theorem dX9_teller_8 : decode cX9_teller 8 = .ok (.imul, 1) := by decide +kernel
theorem dX9_teller_9 : decode cX9_teller 9 = .ok (.istore 8, 2) := by decide +kernel
theorem dX9_teller_11 : decode cX9_teller 11 = .ok (.bipush (-2), 2) := by decide +kernel
theorem dX9_teller_13 : decode cX9_teller 13 = .ok (.istore 9, 2) := by decide +kernel
theorem dX9_teller_15 : decode cX9_teller 15 = .ok (.bipush (-2), 2) := by decide +kernel
theorem dX9_teller_17 : decode cX9_teller 17 = .ok (.istore 10, 2) := by decide +kernel
theorem dX9_teller_19 : decode cX9_teller 19 = .ok (.iconst 0, 1) := by decide +kernel
theorem dX9_teller_20 : decode cX9_teller 20 = .ok (.istore 11, 2) := by decide +kernel
theorem dX9_teller_22 : decode cX9_teller 22 = .ok (.iload 11, 2) := by decide +kernel
theorem dX9_teller_24 : decode cX9_teller 24 = .ok (.bipush 60, 2) := by decide +kernel
theorem dX9_teller_26 : decode cX9_teller 26 = .ok (.if_icmp .ge 176, 3) := by decide +kernel
theorem dX9_teller_29 : decode cX9_teller 29 = .ok (.aload_n 0, 1) := by decide +kernel
theorem dX9_teller_30 : decode cX9_teller 30 = .ok (.iload_n 1, 1) := by decide +kernel
theorem dX9_teller_31 : decode cX9_teller 31 = .ok (.iconst 1, 1) := by decide +kernel
theorem dX9_teller_32 : decode cX9_teller 32 = .ok (.invokevirtual 161, 3) := by decide +kernel
theorem dX9_teller_35 : decode cX9_teller 35 = .ok (.iload 7, 2) := by decide +kernel
theorem dX9_teller_37 : decode cX9_teller 37 = .ok (.if_icmp .ne 15, 3) := by decide +kernel
theorem dX9_teller_40 : decode cX9_teller 40 = .ok (.iload 11, 2) := by decide +kernel
theorem dX9_teller_42 : decode cX9_teller 42 = .ok (.iload 5, 2) := by decide +kernel
theorem dX9_teller_44 : decode cX9_teller 44 = .ok (.if_icmp .ne 8, 3) := by decide +kernel
theorem dX9_teller_47 : decode cX9_teller 47 = .ok (.iload 6, 2) := by decide +kernel
theorem dX9_teller_49 : decode cX9_teller 49 = .ok (.goto 5, 3) := by decide +kernel
theorem dX9_teller_52 : decode cX9_teller 52 = .ok (.iload 11, 2) := by decide +kernel
theorem dX9_teller_54 : decode cX9_teller 54 = .ok (.istore 12, 2) := by decide +kernel
theorem dX9_teller_56 : decode cX9_teller 56 = .ok (.aload_n 0, 1) := by decide +kernel
theorem dX9_teller_57 : decode cX9_teller 57 = .ok (.iload 8, 2) := by decide +kernel
theorem dX9_teller_59 : decode cX9_teller 59 = .ok (.iload 12, 2) := by decide +kernel
theorem dX9_teller_61 : decode cX9_teller 61 = .ok (.iload_n 1, 1) := by decide +kernel
theorem dX9_teller_62 : decode cX9_teller 62 = .ok (.iload_n 2, 1) := by decide +kernel
theorem dX9_teller_63 : decode cX9_teller 63 = .ok (.iload_n 3, 1) := by decide +kernel
theorem dX9_teller_64 : decode cX9_teller 64 = .ok (.iload 4, 2) := by decide +kernel
theorem dX9_teller_66 : decode cX9_teller 66 = .ok (.invokevirtual 239, 3) := by decide +kernel
theorem dX9_teller_69 : decode cX9_teller 69 = .ok (.ifCond .ne 6, 3) := by decide +kernel
theorem dX9_teller_72 : decode cX9_teller 72 = .ok (.goto 124, 3) := by decide +kernel
theorem dX9_teller_75 : decode cX9_teller 75 = .ok (.iload 11, 2) := by decide +kernel
theorem dX9_teller_77 : decode cX9_teller 77 = .ok (.istore 9, 2) := by decide +kernel
theorem dX9_teller_79 : decode cX9_teller 79 = .ok (.iconst 0, 1) := by decide +kernel
theorem dX9_teller_80 : decode cX9_teller 80 = .ok (.istore 13, 2) := by decide +kernel
theorem dX9_teller_82 : decode cX9_teller 82 = .ok (.iconst 0, 1) := by decide +kernel
theorem dX9_teller_83 : decode cX9_teller 83 = .ok (.istore 14, 2) := by decide +kernel
theorem dX9_teller_85 : decode cX9_teller 85 = .ok (.iload 14, 2) := by decide +kernel
theorem dX9_teller_87 : decode cX9_teller 87 = .ok (.bipush 60, 2) := by decide +kernel
theorem dX9_teller_89 : decode cX9_teller 89 = .ok (.if_icmp .ge 98, 3) := by decide +kernel
theorem dX9_teller_92 : decode cX9_teller 92 = .ok (.iload 13, 2) := by decide +kernel
theorem dX9_teller_94 : decode cX9_teller 94 = .ok (.ifCond .ne 93, 3) := by decide +kernel
theorem dX9_teller_97 : decode cX9_teller 97 = .ok (.aload_n 0, 1) := by decide +kernel
theorem dX9_teller_98 : decode cX9_teller 98 = .ok (.iload_n 1, 1) := by decide +kernel
theorem dX9_teller_99 : decode cX9_teller 99 = .ok (.iconst 1, 1) := by decide +kernel
theorem dX9_teller_100 : decode cX9_teller 100 = .ok (.invokevirtual 161, 3) := by decide +kernel
theorem dX9_teller_103 : decode cX9_teller 103 = .ok (.iload 7, 2) := by decide +kernel
theorem dX9_teller_105 : decode cX9_teller 105 = .ok (.if_icmp .ne 15, 3) := by decide +kernel
theorem dX9_teller_108 : decode cX9_teller 108 = .ok (.iload 14, 2) := by decide +kernel
theorem dX9_teller_110 : decode cX9_teller 110 = .ok (.iload 5, 2) := by decide +kernel
theorem dX9_teller_112 : decode cX9_teller 112 = .ok (.if_icmp .ne 8, 3) := by decide +kernel
theorem dX9_teller_115 : decode cX9_teller 115 = .ok (.iload 6, 2) := by decide +kernel
theorem dX9_teller_117 : decode cX9_teller 117 = .ok (.goto 5, 3) := by decide +kernel
theorem dX9_teller_120 : decode cX9_teller 120 = .ok (.iload 14, 2) := by decide +kernel
theorem dX9_teller_122 : decode cX9_teller 122 = .ok (.istore 15, 2) := by decide +kernel
theorem dX9_teller_124 : decode cX9_teller 124 = .ok (.iload 14, 2) := by decide +kernel
theorem dX9_teller_126 : decode cX9_teller 126 = .ok (.iload 11, 2) := by decide +kernel
theorem dX9_teller_128 : decode cX9_teller 128 = .ok (.if_icmp .eq 50, 3) := by decide +kernel
theorem dX9_teller_131 : decode cX9_teller 131 = .ok (.aload_n 0, 1) := by decide +kernel
theorem dX9_teller_132 : decode cX9_teller 132 = .ok (.iload 8, 2) := by decide +kernel
theorem dX9_teller_134 : decode cX9_teller 134 = .ok (.iload 15, 2) := by decide +kernel
theorem dX9_teller_136 : decode cX9_teller 136 = .ok (.iload_n 1, 1) := by decide +kernel
theorem dX9_teller_137 : decode cX9_teller 137 = .ok (.iload_n 2, 1) := by decide +kernel
theorem dX9_teller_138 : decode cX9_teller 138 = .ok (.iload_n 3, 1) := by decide +kernel
theorem dX9_teller_139 : decode cX9_teller 139 = .ok (.iload 4, 2) := by decide +kernel
theorem dX9_teller_141 : decode cX9_teller 141 = .ok (.invokevirtual 239, 3) := by decide +kernel
theorem dX9_teller_144 : decode cX9_teller 144 = .ok (.ifCond .eq 34, 3) := by decide +kernel
theorem dX9_teller_147 : decode cX9_teller 147 = .ok (.aload_n 0, 1) := by decide +kernel
theorem dX9_teller_148 : decode cX9_teller 148 = .ok (.getfield 30, 3) := by decide +kernel
theorem dX9_teller_151 : decode cX9_teller 151 = .ok (.iload 8, 2) := by decide +kernel
theorem dX9_teller_153 : decode cX9_teller 153 = .ok (.iload 12, 2) := by decide +kernel
theorem dX9_teller_155 : decode cX9_teller 155 = .ok (.iadd, 1) := by decide +kernel
theorem dX9_teller_156 : decode cX9_teller 156 = .ok (.baload, 1) := by decide +kernel
theorem dX9_teller_157 : decode cX9_teller 157 = .ok (.aload_n 0, 1) := by decide +kernel
theorem dX9_teller_158 : decode cX9_teller 158 = .ok (.getfield 17, 3) := by decide +kernel
theorem dX9_teller_161 : decode cX9_teller 161 = .ok (.iload 8, 2) := by decide +kernel
theorem dX9_teller_163 : decode cX9_teller 163 = .ok (.iload 15, 2) := by decide +kernel
theorem dX9_teller_165 : decode cX9_teller 165 = .ok (.iadd, 1) := by decide +kernel
theorem dX9_teller_166 : decode cX9_teller 166 = .ok (.baload, 1) := by decide +kernel
theorem dX9_teller_167 : decode cX9_teller 167 = .ok (.ishr, 1) := by decide +kernel
theorem dX9_teller_168 : decode cX9_teller 168 = .ok (.iconst 1, 1) := by decide +kernel
theorem dX9_teller_169 : decode cX9_teller 169 = .ok (.iand, 1) := by decide +kernel
theorem dX9_teller_170 : decode cX9_teller 170 = .ok (.iconst 1, 1) := by decide +kernel
theorem dX9_teller_171 : decode cX9_teller 171 = .ok (.if_icmp .ne 7, 3) := by decide +kernel
theorem dX9_teller_174 : decode cX9_teller 174 = .ok (.iconst 1, 1) := by decide +kernel
theorem dX9_teller_175 : decode cX9_teller 175 = .ok (.goto 4, 3) := by decide +kernel
theorem dX9_teller_178 : decode cX9_teller 178 = .ok (.iconst 0, 1) := by decide +kernel
theorem dX9_teller_179 : decode cX9_teller 179 = .ok (.istore 13, 2) := by decide +kernel
theorem dX9_teller_181 : decode cX9_teller 181 = .ok (.iinc 14 1, 3) := by decide +kernel
theorem dX9_teller_184 : decode cX9_teller 184 = .ok (.goto (-99), 3) := by decide +kernel
theorem dX9_teller_187 : decode cX9_teller 187 = .ok (.iload 13, 2) := by decide +kernel
theorem dX9_teller_189 : decode cX9_teller 189 = .ok (.ifCond .ne 7, 3) := by decide +kernel
theorem dX9_teller_192 : decode cX9_teller 192 = .ok (.iload 11, 2) := by decide +kernel
theorem dX9_teller_194 : decode cX9_teller 194 = .ok (.istore 10, 2) := by decide +kernel
theorem dX9_teller_196 : decode cX9_teller 196 = .ok (.iinc 11 1, 3) := by decide +kernel
theorem dX9_teller_199 : decode cX9_teller 199 = .ok (.goto (-177), 3) := by decide +kernel
theorem dX9_teller_202 : decode cX9_teller 202 = .ok (.iload 10, 2) := by decide +kernel
theorem dX9_teller_204 : decode cX9_teller 204 = .ok (.bipush (-2), 2) := by decide +kernel
theorem dX9_teller_206 : decode cX9_teller 206 = .ok (.if_icmp .ne 8, 3) := by decide +kernel
theorem dX9_teller_209 : decode cX9_teller 209 = .ok (.iload 9, 2) := by decide +kernel
theorem dX9_teller_211 : decode cX9_teller 211 = .ok (.goto 5, 3) := by decide +kernel
theorem dX9_teller_214 : decode cX9_teller 214 = .ok (.iload 10, 2) := by decide +kernel
theorem dX9_teller_216 : decode cX9_teller 216 = .ok (.ireturn, 1) := by decide +kernel
set_option maxHeartbeats 4000000 in
set_option maxRecDepth 100000 in
theorem g_X9_teller (l : Launch) (G : xG) (S : yS) (d : yD) (h0 : Nat) (p0 : Int32) (p1 : Int32) (p2 : Int32) (p3 : Int32) (p4 : Int32) (p5 : Int32) (p6 : Int32) (hSh : ySh S) (hm_h0 : h0 ∈ S.1) (hk_h0 : S.2.1 h0 = 9) (hI : yMI S d h0) (hr_p0 : 0 ≤ (p0 : Int32).toInt ∧ (p0 : Int32).toInt ≤ 7) (hr_p1 : -1 ≤ (p1 : Int32).toInt ∧ (p1 : Int32).toInt ≤ 129599) (hr_p5 : -1 ≤ (p5 : Int32).toInt ∧ (p5 : Int32).toInt ≤ 59) : xRi l G yX9_teller cX9_teller 16 (some .int) 2 53 [.ref h0, .int p0, .int p1, .int p2, .int p3, .int p4, .int p5, .int p6] (yW G S d) (fun r => (r.toInt = -2 ∨ 0 ≤ r.toInt) ∧ r.toInt ≤ 59 ∧ (0 ≤ r.toInt → r.toInt = p4.toInt → yOf S d h0 p0.toInt.toNat 1 = p6.toInt → 0 ≤ p5.toInt)) := by
  intro sz
  refine xstart (by decide) (Nat.le_of_ble_eq_true rfl) (fun p e s m args below meth c ls C0 hr hlocks hin hsz hP hK hD hN hl => ?_)
  obtain ⟨hx, hb, hml, hown, htl⟩ := id C0
  have hl : lv_has ls 16 [(0, .ref h0), (1, .int p0), (2, .int p1), (3, .int p2), (4, .int p3), (5, .int p4), (6, .int p5), (7, .int p6)] := hl
  refine lv_bipush (v := 60) hx hb dX9_teller_0 (by decide) ?_
  refine lv_aload_n hx hb dX9_teller_2 rfl (lv_at hl 0 rfl) ?_
  refine lv_iload_n hx hb dX9_teller_3 rfl (lv_at hl 1 rfl) ?_
  refine lv_iconst (v := 1) hx hb dX9_teller_4 (by decide) ?_
  refine yVri (As := [.int p0, .int 1]) (rest := [.int 60]) C0 (g_X9_of l G S d h0 p0 1 hSh hm_h0 hk_h0 (by refine ⟨?_, ?_⟩ <;> omega) (by decide +kernel)) ok_X9_of (mW425 : Cond.methodLink RX9 161 yX9_of ∈ wsT) ⟨Nat.le_of_ble_eq_true rfl, Nat.le_of_ble_eq_true rfl⟩ hP hD hK hN hm_h0 hk_h0 (by decide) rfl rfl rfl hl.1 rfl (Nat.le_of_ble_eq_true rfl) ⟨Nat.le_of_ble_eq_true rfl, Nat.le_of_ble_eq_true rfl⟩ dX9_teller_5 (fun r_1 hr_1 => ?_)
  have hOr_1 : (r_1 : Int32).toInt = yOf S d h0 (p0 : Int32).toInt.toNat 1 := by rw [hr_1, show (1 : Int32).toInt.toNat = 1 by decide +kernel]; rfl
  have hCC_2 := yMI.c hI
  have hbr_1 := xof1 hI (p := p0) (by refine ⟨?_, ?_⟩ <;> omega) hr_1
  refine lv_imul hx hb dX9_teller_8 ?_
  refine lv_topi (fun z_3 ez_3 => ?_)
  refine lv_istore (lv' := [(8, .int z_3), (0, .ref h0), (1, .int p0), (2, .int p1), (3, .int p2), (4, .int p3), (5, .int p4), (6, .int p5), (7, .int p6)]) hx hb dX9_teller_9 hl (by decide) rfl (fun ls hl => ?_)
  refine lv_bipush (v := (-2)) hx hb dX9_teller_11 (by decide) ?_
  refine lv_istore (lv' := [(9, .int (-2)), (8, .int z_3), (0, .ref h0), (1, .int p0), (2, .int p1), (3, .int p2), (4, .int p3), (5, .int p4), (6, .int p5), (7, .int p6)]) hx hb dX9_teller_13 hl (by decide) rfl (fun ls hl => ?_)
  refine lv_bipush (v := (-2)) hx hb dX9_teller_15 (by decide) ?_
  refine lv_istore (lv' := [(10, .int (-2)), (9, .int (-2)), (8, .int z_3), (0, .ref h0), (1, .int p0), (2, .int p1), (3, .int p2), (4, .int p3), (5, .int p4), (6, .int p5), (7, .int p6)]) hx hb dX9_teller_17 hl (by decide) rfl (fun ls hl => ?_)
  refine lv_iconst (v := 0) hx hb dX9_teller_19 (by decide) ?_
  refine lv_istore (lv' := [(11, .int 0), (10, .int (-2)), (9, .int (-2)), (8, .int z_3), (0, .ref h0), (1, .int p0), (2, .int p1), (3, .int p2), (4, .int p3), (5, .int p4), (6, .int p5), (7, .int p6)]) hx hb dX9_teller_20 hl (by decide) rfl (fun ls hl => ?_)
  refine yloopR (σ := Int32 × Int32 × Int32) (fun x => (2147483647 - (x.2.2 : Int32).toInt).toNat) 22 (fun x ls => ((((x.1) : Int32).toInt = -2 ∨ 0 ≤ ((x.1) : Int32).toInt) ∧ ((x.1) : Int32).toInt ≤ 59 ∧ (0 ≤ ((x.1) : Int32).toInt → ((x.1) : Int32).toInt = p4.toInt → yOf S d h0 p0.toInt.toNat 1 = p6.toInt → 0 ≤ p5.toInt) ∧ (((x.2.1) : Int32).toInt = -2 ∨ 0 ≤ ((x.2.1) : Int32).toInt) ∧ ((x.2.1) : Int32).toInt ≤ 59 ∧ (0 ≤ ((x.2.1) : Int32).toInt → ((x.2.1) : Int32).toInt = p4.toInt → yOf S d h0 p0.toInt.toNat 1 = p6.toInt → 0 ≤ p5.toInt) ∧ 0 ≤ ((x.2.2) : Int32).toInt) ∧ lv_has ls 16 [(11, .int x.2.2), (10, .int x.2.1), (9, .int x.1), (8, .int z_3), (0, .ref h0), (1, .int p0), (2, .int p1), (3, .int p2), (4, .int p3), (5, .int p4), (6, .int p5), (7, .int p6)]) (fun x ls hl hnext_7 => ?_) ((-2), (-2), 0) ⟨(show (((((-2)) : Int32).toInt = -2 ∨ 0 ≤ (((-2)) : Int32).toInt) ∧ (((-2)) : Int32).toInt ≤ 59 ∧ (0 ≤ (((-2)) : Int32).toInt → (((-2)) : Int32).toInt = p4.toInt → yOf S d h0 p0.toInt.toNat 1 = p6.toInt → 0 ≤ p5.toInt) ∧ ((((-2)) : Int32).toInt = -2 ∨ 0 ≤ (((-2)) : Int32).toInt) ∧ (((-2)) : Int32).toInt ≤ 59 ∧ (0 ≤ (((-2)) : Int32).toInt → (((-2)) : Int32).toInt = p4.toInt → yOf S d h0 p0.toInt.toNat 1 = p6.toInt → 0 ≤ p5.toInt) ∧ 0 ≤ ((0) : Int32).toInt) from by have hl0_ : ((-2) : Int32).toInt = (-2) := (by decide +kernel); have hl1_ : ((-2) : Int32).toInt = (-2) := (by decide +kernel); have hl2_ : (0 : Int32).toInt = 0 := (by decide +kernel); have hq0_ : (0 : Int32).toInt = 0 := (by decide +kernel); omega), lv_sub hl [0, 1, 2, 3, 4, 5, 6, 7, 8, 9, 10, 11] rfl⟩
  obtain ⟨v_4, v_5, v_6⟩ := x
  obtain ⟨hex_8, hl⟩ := hl
  have hex_8 : ((((v_4) : Int32).toInt = -2 ∨ 0 ≤ ((v_4) : Int32).toInt) ∧ ((v_4) : Int32).toInt ≤ 59 ∧ (0 ≤ ((v_4) : Int32).toInt → ((v_4) : Int32).toInt = p4.toInt → yOf S d h0 p0.toInt.toNat 1 = p6.toInt → 0 ≤ p5.toInt) ∧ (((v_5) : Int32).toInt = -2 ∨ 0 ≤ ((v_5) : Int32).toInt) ∧ ((v_5) : Int32).toInt ≤ 59 ∧ (0 ≤ ((v_5) : Int32).toInt → ((v_5) : Int32).toInt = p4.toInt → yOf S d h0 p0.toInt.toNat 1 = p6.toInt → 0 ≤ p5.toInt) ∧ 0 ≤ ((v_6) : Int32).toInt) := hex_8
  have hl : lv_has ls 16 [(11, .int v_6), (10, .int v_5), (9, .int v_4), (8, .int z_3), (0, .ref h0), (1, .int p0), (2, .int p1), (3, .int p2), (4, .int p3), (5, .int p4), (6, .int p5), (7, .int p6)] := hl
  refine lv_iload hx hb dX9_teller_22 (lv_at hl 0 rfl) ?_
  refine lv_bipush (v := 60) hx hb dX9_teller_24 (by decide) ?_
  refine lv_icmp_ge (tgt := 202) hx hb dX9_teller_26 (by decide) (fun c_9 => ?_) (fun c_9 => ?_)
  · refine lv_iload hx hb dX9_teller_202 (lv_at hl 1 rfl) ?_
    refine lv_bipush (v := (-2)) hx hb dX9_teller_204 (by decide) ?_
    refine lv_icmp_ne (tgt := 214) hx hb dX9_teller_206 (by decide) (fun c_10 => ?_) (fun c_10 => ?_)
    · refine lv_iload hx hb dX9_teller_214 (lv_at hl 1 rfl) ?_
      have F_11 := fle (by decide +kernel : (60 : Int32).toInt = 60) (rfl : (v_6 : Int32).toInt = (v_6 : Int32).toInt) c_9
      have F_12 := fne (rfl : (v_5 : Int32).toInt = (v_5 : Int32).toInt) (by decide +kernel : ((-2) : Int32).toInt = (-2)) c_10
      exact W.iret (v := v_5) hx hb hr (fun t ht hW => ⟨v_5, rfl, (by omega), ht⟩) (fun q hq => by cases hq) dX9_teller_216
    · refine lv_iload hx hb dX9_teller_209 (lv_at hl 2 rfl) ?_
      refine lv_goto (tgt := 216) hx hb dX9_teller_211 (by decide) ?_
      have F_13 := fle (by decide +kernel : (60 : Int32).toInt = 60) (rfl : (v_6 : Int32).toInt = (v_6 : Int32).toInt) c_9
      have F_14 := feq (rfl : (v_5 : Int32).toInt = (v_5 : Int32).toInt) (by decide +kernel : ((-2) : Int32).toInt = (-2)) c_10
      exact W.iret (v := v_4) hx hb hr (fun t ht hW => ⟨v_4, rfl, (by omega), ht⟩) (fun q hq => by cases hq) dX9_teller_216
  · refine lv_aload_n hx hb dX9_teller_29 rfl (lv_at hl 4 rfl) ?_
    refine lv_iload_n hx hb dX9_teller_30 rfl (lv_at hl 5 rfl) ?_
    refine lv_iconst (v := 1) hx hb dX9_teller_31 (by decide) ?_
    have F_15 := fnle (by decide +kernel : (60 : Int32).toInt = 60) (rfl : (v_6 : Int32).toInt = (v_6 : Int32).toInt) c_9
    refine yVri (As := [.int p0, .int 1]) (rest := []) C0 (g_X9_of l G S d h0 p0 1 hSh hm_h0 hk_h0 (by refine ⟨?_, ?_⟩ <;> omega) (by decide +kernel)) ok_X9_of (mW425 : Cond.methodLink RX9 161 yX9_of ∈ wsT) ⟨Nat.le_of_ble_eq_true rfl, Nat.le_of_ble_eq_true rfl⟩ hP hD hK hN hm_h0 hk_h0 (by decide) rfl rfl rfl hl.1 rfl (Nat.le_of_ble_eq_true rfl) ⟨Nat.le_of_ble_eq_true rfl, Nat.le_of_ble_eq_true rfl⟩ dX9_teller_32 (fun r_16 hr_16 => ?_)
    have hOr_16 : (r_16 : Int32).toInt = yOf S d h0 (p0 : Int32).toInt.toNat 1 := by rw [hr_16, show (1 : Int32).toInt.toNat = 1 by decide +kernel]; rfl
    have hbr_16 := xof1 hI (p := p0) (by refine ⟨?_, ?_⟩ <;> omega) hr_16
    refine lv_iload hx hb dX9_teller_35 (lv_at hl 11 rfl) ?_
    refine lv_icmp_ne (tgt := 52) hx hb dX9_teller_37 (by decide) (fun c_17 => ?_) (fun c_17 => ?_)
    · refine lv_iload hx hb dX9_teller_52 (lv_at hl 0 rfl) ?_
      refine lv_istore (lv' := [(12, .int v_6), (11, .int v_6), (10, .int v_5), (9, .int v_4), (8, .int z_3), (0, .ref h0), (1, .int p0), (2, .int p1), (3, .int p2), (4, .int p3), (5, .int p4), (6, .int p5), (7, .int p6)]) hx hb dX9_teller_54 hl (by decide) rfl (fun ls hl => ?_)
      refine lv_aload_n hx hb dX9_teller_56 rfl (lv_at hl 5 rfl) ?_
      refine lv_iload hx hb dX9_teller_57 (lv_at hl 4 rfl) ?_
      refine lv_iload hx hb dX9_teller_59 (lv_at hl 0 rfl) ?_
      refine lv_iload_n hx hb dX9_teller_61 rfl (lv_at hl 6 rfl) ?_
      refine lv_iload_n hx hb dX9_teller_62 rfl (lv_at hl 7 rfl) ?_
      refine lv_iload_n hx hb dX9_teller_63 rfl (lv_at hl 8 rfl) ?_
      refine lv_iload hx hb dX9_teller_64 (lv_at hl 9 rfl) ?_
      have F_18 := fne (rfl : (r_16 : Int32).toInt = (r_16 : Int32).toInt) (rfl : (p6 : Int32).toInt = (p6 : Int32).toInt) c_17
      have T_19 : (z_3 : Int32).toInt = 60 * (r_1 : Int32).toInt := tmul ez_3 (by decide +kernel : (60 : Int32).toInt = 60) (rfl : (r_1 : Int32).toInt = (r_1 : Int32).toInt) (by omega) (by omega)
      refine yVri (As := [.int z_3, .int v_6, .int p0, .int p1, .int p2, .int p3]) (rest := []) C0 (g_X9_isAsked l G S d h0 z_3 v_6 p0 p1 p2 p3 hSh hm_h0 hk_h0 hI (by refine ⟨?_, ?_⟩ <;> omega) (by refine ⟨?_, ?_⟩ <;> omega) (by refine ⟨?_, ?_⟩ <;> omega) (by refine ⟨?_, ?_⟩ <;> omega)) ok_X9_isAsked (mW893 : Cond.methodLink RX9 239 yX9_isAsked ∈ wsT) ⟨Nat.le_of_ble_eq_true rfl, Nat.le_of_ble_eq_true rfl⟩ hP hD hK hN hm_h0 hk_h0 (by decide) rfl rfl rfl hl.1 rfl (Nat.le_of_ble_eq_true rfl) ⟨Nat.le_of_ble_eq_true rfl, Nat.le_of_ble_eq_true rfl⟩ dX9_teller_66 (fun r_20 hr_20 => ?_)
      refine lv_if_ne (tgt := 75) hx hb dX9_teller_69 (by decide) (fun c_21 => ?_) (fun c_21 => ?_)
      · refine lv_iload hx hb dX9_teller_75 (lv_at hl 1 rfl) ?_
        refine lv_istore (lv' := [(9, .int v_6), (12, .int v_6), (11, .int v_6), (10, .int v_5), (8, .int z_3), (0, .ref h0), (1, .int p0), (2, .int p1), (3, .int p2), (4, .int p3), (5, .int p4), (6, .int p5), (7, .int p6)]) hx hb dX9_teller_77 hl (by decide) rfl (fun ls hl => ?_)
        refine lv_iconst (v := 0) hx hb dX9_teller_79 (by decide) ?_
        refine lv_istore (lv' := [(13, .int 0), (9, .int v_6), (12, .int v_6), (11, .int v_6), (10, .int v_5), (8, .int z_3), (0, .ref h0), (1, .int p0), (2, .int p1), (3, .int p2), (4, .int p3), (5, .int p4), (6, .int p5), (7, .int p6)]) hx hb dX9_teller_80 hl (by decide) rfl (fun ls hl => ?_)
        refine lv_iconst (v := 0) hx hb dX9_teller_82 (by decide) ?_
        refine lv_istore (lv' := [(14, .int 0), (13, .int 0), (9, .int v_6), (12, .int v_6), (11, .int v_6), (10, .int v_5), (8, .int z_3), (0, .ref h0), (1, .int p0), (2, .int p1), (3, .int p2), (4, .int p3), (5, .int p4), (6, .int p5), (7, .int p6)]) hx hb dX9_teller_83 hl (by decide) rfl (fun ls hl => ?_)
        have F_22 := fne (rfl : (r_20 : Int32).toInt = (r_20 : Int32).toInt) (by decide +kernel : (0 : Int32).toInt = 0) c_21
        refine yloopR (σ := Int32 × Int32) (fun x => (2147483647 - (x.2 : Int32).toInt).toNat) 85 (fun x ls => (0 ≤ ((x.2) : Int32).toInt) ∧ lv_has ls 16 [(14, .int x.2), (13, .int x.1), (9, .int v_6), (12, .int v_6), (11, .int v_6), (10, .int v_5), (8, .int z_3), (0, .ref h0), (1, .int p0), (2, .int p1), (3, .int p2), (4, .int p3), (5, .int p4), (6, .int p5), (7, .int p6)]) (fun x ls hl hnext_25 => ?_) (0, 0) ⟨(show (0 ≤ ((0) : Int32).toInt) from by have hl0_ : (0 : Int32).toInt = 0 := (by decide +kernel); have hl1_ : (0 : Int32).toInt = 0 := (by decide +kernel); have hq0_ : (0 : Int32).toInt = 0 := (by decide +kernel); omega), lv_sub hl [0, 1, 2, 3, 4, 5, 6, 7, 8, 9, 10, 11, 12, 13, 14] rfl⟩
        obtain ⟨v_23, v_24⟩ := x
        obtain ⟨hex_26, hl⟩ := hl
        have hex_26 : (0 ≤ ((v_24) : Int32).toInt) := hex_26
        have hl : lv_has ls 16 [(14, .int v_24), (13, .int v_23), (9, .int v_6), (12, .int v_6), (11, .int v_6), (10, .int v_5), (8, .int z_3), (0, .ref h0), (1, .int p0), (2, .int p1), (3, .int p2), (4, .int p3), (5, .int p4), (6, .int p5), (7, .int p6)] := hl
        refine lv_iload hx hb dX9_teller_85 (lv_at hl 0 rfl) ?_
        refine lv_bipush (v := 60) hx hb dX9_teller_87 (by decide) ?_
        refine lv_icmp_ge (tgt := 187) hx hb dX9_teller_89 (by decide) (fun c_27 => ?_) (fun c_27 => ?_)
        · refine lv_iload hx hb dX9_teller_187 (lv_at hl 1 rfl) ?_
          refine lv_if_ne (tgt := 196) hx hb dX9_teller_189 (by decide) (fun c_28 => ?_) (fun c_28 => ?_)
          · refine lv_iinc (v := v_6 + 1) (lv' := [(11, .int (v_6 + 1)), (14, .int v_24), (13, .int v_23), (9, .int v_6), (12, .int v_6), (10, .int v_5), (8, .int z_3), (0, .ref h0), (1, .int p0), (2, .int p1), (3, .int p2), (4, .int p3), (5, .int p4), (6, .int p5), (7, .int p6)]) hx hb dX9_teller_196 hl (k := 4) rfl rfl (by decide) rfl (fun ls hl => ?_)
            refine lv_goto (tgt := 22) hx hb dX9_teller_199 (by decide) ?_
            have F_30 := fle (by decide +kernel : (60 : Int32).toInt = 60) (rfl : (v_24 : Int32).toInt = (v_24 : Int32).toInt) c_27
            have F_31 := fne (rfl : (v_23 : Int32).toInt = (v_23 : Int32).toInt) (by decide +kernel : (0 : Int32).toInt = 0) c_28
            have T_32 : ((v_6 + 1) : Int32).toInt = (v_6 : Int32).toInt + 1 := tadd rfl (rfl : (v_6 : Int32).toInt = (v_6 : Int32).toInt) (by decide +kernel : (1 : Int32).toInt = 1) (by omega) (by omega)
            exact hnext_7 (v_6, v_5, v_6 + 1) ls (xup c_9) ⟨(show ((((v_6) : Int32).toInt = -2 ∨ 0 ≤ ((v_6) : Int32).toInt) ∧ ((v_6) : Int32).toInt ≤ 59 ∧ (0 ≤ ((v_6) : Int32).toInt → ((v_6) : Int32).toInt = p4.toInt → yOf S d h0 p0.toInt.toNat 1 = p6.toInt → 0 ≤ p5.toInt) ∧ (((v_5) : Int32).toInt = -2 ∨ 0 ≤ ((v_5) : Int32).toInt) ∧ ((v_5) : Int32).toInt ≤ 59 ∧ (0 ≤ ((v_5) : Int32).toInt → ((v_5) : Int32).toInt = p4.toInt → yOf S d h0 p0.toInt.toNat 1 = p6.toInt → 0 ≤ p5.toInt) ∧ 0 ≤ (((v_6 + 1)) : Int32).toInt) from by have hq0_ : (0 : Int32).toInt = 0 := (by decide +kernel); omega), (lv_sub hl [0, 5, 3, 6, 7, 8, 9, 10, 11, 12, 13, 14] rfl)⟩
          · refine lv_iload hx hb dX9_teller_192 (lv_at hl 4 rfl) ?_
            refine lv_istore (lv' := [(10, .int v_6), (14, .int v_24), (13, .int v_23), (9, .int v_6), (12, .int v_6), (11, .int v_6), (8, .int z_3), (0, .ref h0), (1, .int p0), (2, .int p1), (3, .int p2), (4, .int p3), (5, .int p4), (6, .int p5), (7, .int p6)]) hx hb dX9_teller_194 hl (by decide) rfl (fun ls hl => ?_)
            refine lv_iinc (v := v_6 + 1) (lv' := [(11, .int (v_6 + 1)), (10, .int v_6), (14, .int v_24), (13, .int v_23), (9, .int v_6), (12, .int v_6), (8, .int z_3), (0, .ref h0), (1, .int p0), (2, .int p1), (3, .int p2), (4, .int p3), (5, .int p4), (6, .int p5), (7, .int p6)]) hx hb dX9_teller_196 hl (k := 5) rfl rfl (by decide) rfl (fun ls hl => ?_)
            refine lv_goto (tgt := 22) hx hb dX9_teller_199 (by decide) ?_
            have F_34 := fle (by decide +kernel : (60 : Int32).toInt = 60) (rfl : (v_24 : Int32).toInt = (v_24 : Int32).toInt) c_27
            have F_35 := feq (rfl : (v_23 : Int32).toInt = (v_23 : Int32).toInt) (by decide +kernel : (0 : Int32).toInt = 0) c_28
            have T_36 : ((v_6 + 1) : Int32).toInt = (v_6 : Int32).toInt + 1 := tadd rfl (rfl : (v_6 : Int32).toInt = (v_6 : Int32).toInt) (by decide +kernel : (1 : Int32).toInt = 1) (by omega) (by omega)
            exact hnext_7 (v_6, v_6, v_6 + 1) ls (xup c_9) ⟨(show ((((v_6) : Int32).toInt = -2 ∨ 0 ≤ ((v_6) : Int32).toInt) ∧ ((v_6) : Int32).toInt ≤ 59 ∧ (0 ≤ ((v_6) : Int32).toInt → ((v_6) : Int32).toInt = p4.toInt → yOf S d h0 p0.toInt.toNat 1 = p6.toInt → 0 ≤ p5.toInt) ∧ (((v_6) : Int32).toInt = -2 ∨ 0 ≤ ((v_6) : Int32).toInt) ∧ ((v_6) : Int32).toInt ≤ 59 ∧ (0 ≤ ((v_6) : Int32).toInt → ((v_6) : Int32).toInt = p4.toInt → yOf S d h0 p0.toInt.toNat 1 = p6.toInt → 0 ≤ p5.toInt) ∧ 0 ≤ (((v_6 + 1)) : Int32).toInt) from by have hq0_ : (0 : Int32).toInt = 0 := (by decide +kernel); omega), (lv_sub hl [0, 1, 4, 6, 7, 8, 9, 10, 11, 12, 13, 14] rfl)⟩
        · refine lv_iload hx hb dX9_teller_92 (lv_at hl 1 rfl) ?_
          refine lv_if_ne (tgt := 187) hx hb dX9_teller_94 (by decide) (fun c_37 => ?_) (fun c_37 => ?_)
          · refine lv_iload hx hb dX9_teller_187 (lv_at hl 1 rfl) ?_
            refine lv_if_ne (tgt := 196) hx hb dX9_teller_189 (by decide) (fun c_38 => ?_) (fun c_38 => absurd c_38 c_37)
            refine lv_iinc (v := v_6 + 1) (lv' := [(11, .int (v_6 + 1)), (14, .int v_24), (13, .int v_23), (9, .int v_6), (12, .int v_6), (10, .int v_5), (8, .int z_3), (0, .ref h0), (1, .int p0), (2, .int p1), (3, .int p2), (4, .int p3), (5, .int p4), (6, .int p5), (7, .int p6)]) hx hb dX9_teller_196 hl (k := 4) rfl rfl (by decide) rfl (fun ls hl => ?_)
            refine lv_goto (tgt := 22) hx hb dX9_teller_199 (by decide) ?_
            have F_40 := fnle (by decide +kernel : (60 : Int32).toInt = 60) (rfl : (v_24 : Int32).toInt = (v_24 : Int32).toInt) c_27
            have F_41 := fne (rfl : (v_23 : Int32).toInt = (v_23 : Int32).toInt) (by decide +kernel : (0 : Int32).toInt = 0) c_37
            have F_42 := fne (rfl : (v_23 : Int32).toInt = (v_23 : Int32).toInt) (by decide +kernel : (0 : Int32).toInt = 0) c_38
            have T_43 : ((v_6 + 1) : Int32).toInt = (v_6 : Int32).toInt + 1 := tadd rfl (rfl : (v_6 : Int32).toInt = (v_6 : Int32).toInt) (by decide +kernel : (1 : Int32).toInt = 1) (by omega) (by omega)
            exact hnext_7 (v_6, v_5, v_6 + 1) ls (xup c_9) ⟨(show ((((v_6) : Int32).toInt = -2 ∨ 0 ≤ ((v_6) : Int32).toInt) ∧ ((v_6) : Int32).toInt ≤ 59 ∧ (0 ≤ ((v_6) : Int32).toInt → ((v_6) : Int32).toInt = p4.toInt → yOf S d h0 p0.toInt.toNat 1 = p6.toInt → 0 ≤ p5.toInt) ∧ (((v_5) : Int32).toInt = -2 ∨ 0 ≤ ((v_5) : Int32).toInt) ∧ ((v_5) : Int32).toInt ≤ 59 ∧ (0 ≤ ((v_5) : Int32).toInt → ((v_5) : Int32).toInt = p4.toInt → yOf S d h0 p0.toInt.toNat 1 = p6.toInt → 0 ≤ p5.toInt) ∧ 0 ≤ (((v_6 + 1)) : Int32).toInt) from by have hq0_ : (0 : Int32).toInt = 0 := (by decide +kernel); omega), (lv_sub hl [0, 5, 3, 6, 7, 8, 9, 10, 11, 12, 13, 14] rfl)⟩
          · refine lv_aload_n hx hb dX9_teller_97 rfl (lv_at hl 7 rfl) ?_
            refine lv_iload_n hx hb dX9_teller_98 rfl (lv_at hl 8 rfl) ?_
            refine lv_iconst (v := 1) hx hb dX9_teller_99 (by decide) ?_
            have F_44 := fnle (by decide +kernel : (60 : Int32).toInt = 60) (rfl : (v_24 : Int32).toInt = (v_24 : Int32).toInt) c_27
            have F_45 := feq (rfl : (v_23 : Int32).toInt = (v_23 : Int32).toInt) (by decide +kernel : (0 : Int32).toInt = 0) c_37
            refine yVri (As := [.int p0, .int 1]) (rest := []) C0 (g_X9_of l G S d h0 p0 1 hSh hm_h0 hk_h0 (by refine ⟨?_, ?_⟩ <;> omega) (by decide +kernel)) ok_X9_of (mW425 : Cond.methodLink RX9 161 yX9_of ∈ wsT) ⟨Nat.le_of_ble_eq_true rfl, Nat.le_of_ble_eq_true rfl⟩ hP hD hK hN hm_h0 hk_h0 (by decide) rfl rfl rfl hl.1 rfl (Nat.le_of_ble_eq_true rfl) ⟨Nat.le_of_ble_eq_true rfl, Nat.le_of_ble_eq_true rfl⟩ dX9_teller_100 (fun r_46 hr_46 => ?_)
            have hOr_46 : (r_46 : Int32).toInt = yOf S d h0 (p0 : Int32).toInt.toNat 1 := by rw [hr_46, show (1 : Int32).toInt.toNat = 1 by decide +kernel]; rfl
            have hbr_46 := xof1 hI (p := p0) (by refine ⟨?_, ?_⟩ <;> omega) hr_46
            refine lv_iload hx hb dX9_teller_103 (lv_at hl 14 rfl) ?_
            refine lv_icmp_ne (tgt := 120) hx hb dX9_teller_105 (by decide) (fun c_47 => ?_) (fun c_47 => ?_)
            · refine lv_iload hx hb dX9_teller_120 (lv_at hl 0 rfl) ?_
              refine lv_istore (lv' := [(15, .int v_24), (14, .int v_24), (13, .int v_23), (9, .int v_6), (12, .int v_6), (11, .int v_6), (10, .int v_5), (8, .int z_3), (0, .ref h0), (1, .int p0), (2, .int p1), (3, .int p2), (4, .int p3), (5, .int p4), (6, .int p5), (7, .int p6)]) hx hb dX9_teller_122 hl (by decide) rfl (fun ls hl => ?_)
              refine lv_iload hx hb dX9_teller_124 (lv_at hl 1 rfl) ?_
              refine lv_iload hx hb dX9_teller_126 (lv_at hl 5 rfl) ?_
              refine lv_icmp_eq (tgt := 178) hx hb dX9_teller_128 (by decide) (fun c_48 => ?_) (fun c_48 => ?_)
              · refine lv_iconst (v := 0) hx hb dX9_teller_178 (by decide) ?_
                refine lv_istore (lv' := [(13, .int 0), (15, .int v_24), (14, .int v_24), (9, .int v_6), (12, .int v_6), (11, .int v_6), (10, .int v_5), (8, .int z_3), (0, .ref h0), (1, .int p0), (2, .int p1), (3, .int p2), (4, .int p3), (5, .int p4), (6, .int p5), (7, .int p6)]) hx hb dX9_teller_179 hl (by decide) rfl (fun ls hl => ?_)
                refine lv_iinc (v := v_24 + 1) (lv' := [(14, .int (v_24 + 1)), (13, .int 0), (15, .int v_24), (9, .int v_6), (12, .int v_6), (11, .int v_6), (10, .int v_5), (8, .int z_3), (0, .ref h0), (1, .int p0), (2, .int p1), (3, .int p2), (4, .int p3), (5, .int p4), (6, .int p5), (7, .int p6)]) hx hb dX9_teller_181 hl (k := 2) rfl rfl (by decide) rfl (fun ls hl => ?_)
                refine lv_goto (tgt := 85) hx hb dX9_teller_184 (by decide) ?_
                have F_50 := fne (rfl : (r_46 : Int32).toInt = (r_46 : Int32).toInt) (rfl : (p6 : Int32).toInt = (p6 : Int32).toInt) c_47
                have F_51 := feq (rfl : (v_24 : Int32).toInt = (v_24 : Int32).toInt) (rfl : (v_6 : Int32).toInt = (v_6 : Int32).toInt) c_48
                have T_52 : ((v_24 + 1) : Int32).toInt = (v_24 : Int32).toInt + 1 := tadd rfl (rfl : (v_24 : Int32).toInt = (v_24 : Int32).toInt) (by decide +kernel : (1 : Int32).toInt = 1) (by omega) (by omega)
                exact hnext_25 (0, v_24 + 1) ls (xup c_27) ⟨(show (0 ≤ (((v_24 + 1)) : Int32).toInt) from by have hl0_ : (0 : Int32).toInt = 0 := (by decide +kernel); have hq0_ : (0 : Int32).toInt = 0 := (by decide +kernel); omega), (lv_sub hl [0, 1, 3, 4, 5, 6, 7, 8, 9, 10, 11, 12, 13, 14, 15] rfl)⟩
              · refine lv_aload_n hx hb dX9_teller_131 rfl (lv_at hl 8 rfl) ?_
                refine lv_iload hx hb dX9_teller_132 (lv_at hl 7 rfl) ?_
                refine lv_iload hx hb dX9_teller_134 (lv_at hl 0 rfl) ?_
                refine lv_iload_n hx hb dX9_teller_136 rfl (lv_at hl 9 rfl) ?_
                refine lv_iload_n hx hb dX9_teller_137 rfl (lv_at hl 10 rfl) ?_
                refine lv_iload_n hx hb dX9_teller_138 rfl (lv_at hl 11 rfl) ?_
                refine lv_iload hx hb dX9_teller_139 (lv_at hl 12 rfl) ?_
                have F_53 := fne (rfl : (r_46 : Int32).toInt = (r_46 : Int32).toInt) (rfl : (p6 : Int32).toInt = (p6 : Int32).toInt) c_47
                have F_54 := fne (rfl : (v_24 : Int32).toInt = (v_24 : Int32).toInt) (rfl : (v_6 : Int32).toInt = (v_6 : Int32).toInt) c_48
                refine yVri (As := [.int z_3, .int v_24, .int p0, .int p1, .int p2, .int p3]) (rest := []) C0 (g_X9_isAsked l G S d h0 z_3 v_24 p0 p1 p2 p3 hSh hm_h0 hk_h0 hI (by refine ⟨?_, ?_⟩ <;> omega) (by refine ⟨?_, ?_⟩ <;> omega) (by refine ⟨?_, ?_⟩ <;> omega) (by refine ⟨?_, ?_⟩ <;> omega)) ok_X9_isAsked (mW893 : Cond.methodLink RX9 239 yX9_isAsked ∈ wsT) ⟨Nat.le_of_ble_eq_true rfl, Nat.le_of_ble_eq_true rfl⟩ hP hD hK hN hm_h0 hk_h0 (by decide) rfl rfl rfl hl.1 rfl (Nat.le_of_ble_eq_true rfl) ⟨Nat.le_of_ble_eq_true rfl, Nat.le_of_ble_eq_true rfl⟩ dX9_teller_141 (fun r_55 hr_55 => ?_)
                refine lv_if_eq (tgt := 178) hx hb dX9_teller_144 (by decide) (fun c_56 => ?_) (fun c_56 => ?_)
                · refine lv_iconst (v := 0) hx hb dX9_teller_178 (by decide) ?_
                  refine lv_istore (lv' := [(13, .int 0), (15, .int v_24), (14, .int v_24), (9, .int v_6), (12, .int v_6), (11, .int v_6), (10, .int v_5), (8, .int z_3), (0, .ref h0), (1, .int p0), (2, .int p1), (3, .int p2), (4, .int p3), (5, .int p4), (6, .int p5), (7, .int p6)]) hx hb dX9_teller_179 hl (by decide) rfl (fun ls hl => ?_)
                  refine lv_iinc (v := v_24 + 1) (lv' := [(14, .int (v_24 + 1)), (13, .int 0), (15, .int v_24), (9, .int v_6), (12, .int v_6), (11, .int v_6), (10, .int v_5), (8, .int z_3), (0, .ref h0), (1, .int p0), (2, .int p1), (3, .int p2), (4, .int p3), (5, .int p4), (6, .int p5), (7, .int p6)]) hx hb dX9_teller_181 hl (k := 2) rfl rfl (by decide) rfl (fun ls hl => ?_)
                  refine lv_goto (tgt := 85) hx hb dX9_teller_184 (by decide) ?_
                  have F_58 := feq (rfl : (r_55 : Int32).toInt = (r_55 : Int32).toInt) (by decide +kernel : (0 : Int32).toInt = 0) c_56
                  have T_59 : ((v_24 + 1) : Int32).toInt = (v_24 : Int32).toInt + 1 := tadd rfl (rfl : (v_24 : Int32).toInt = (v_24 : Int32).toInt) (by decide +kernel : (1 : Int32).toInt = 1) (by omega) (by omega)
                  exact hnext_25 (0, v_24 + 1) ls (xup c_27) ⟨(show (0 ≤ (((v_24 + 1)) : Int32).toInt) from by have hl0_ : (0 : Int32).toInt = 0 := (by decide +kernel); have hq0_ : (0 : Int32).toInt = 0 := (by decide +kernel); omega), (lv_sub hl [0, 1, 3, 4, 5, 6, 7, 8, 9, 10, 11, 12, 13, 14, 15] rfl)⟩
                · refine lv_aload_n hx hb dX9_teller_147 rfl (lv_at hl 8 rfl) ?_
                  refine yget (ci := 9) (k := 9) (v := .ref (S.2.2.1 h0 9)) (C := RX9) (T := TX9) (N := 67) C0 hK hP hm_h0 hk_h0 (by decide) rfl inlX9 (by decide) mW113 (fun _ h9 => h9) rfl dX9_teller_148 ?_
                  obtain ⟨hmy_60, hky_60⟩ := ySh.f9_9 hSh _ hm_h0 hk_h0
                  refine lv_iload hx hb dX9_teller_151 (lv_at hl 7 rfl) ?_
                  refine lv_iload hx hb dX9_teller_153 (lv_at hl 4 rfl) ?_
                  refine lv_iadd hx hb dX9_teller_155 ?_
                  refine lv_topi (fun z_61 ez_61 => ?_)
                  have F_62 := fne (rfl : (r_55 : Int32).toInt = (r_55 : Int32).toInt) (by decide +kernel : (0 : Int32).toInt = 0) c_56
                  have T_63 : (z_61 : Int32).toInt = (z_3 : Int32).toInt + (v_6 : Int32).toInt := tadd ez_61 (rfl : (z_3 : Int32).toInt = (z_3 : Int32).toInt) (rfl : (v_6 : Int32).toInt = (v_6 : Int32).toInt) (by omega) (by omega)
                  refine yaldB C0 hK hP hmy_60 hky_60 (by decide) rfl 1 rfl (xinT 2400 rfl (by omega) (by omega)) dX9_teller_156 ?_
                  refine lv_topi (fun z_64 ez_64 => ?_)
                  refine lv_aload_n hx hb dX9_teller_157 rfl (lv_at hl 8 rfl) ?_
                  refine yget (ci := 9) (k := 5) (v := .ref (S.2.2.1 h0 5)) (C := RX9) (T := TX9) (N := 67) C0 hK hP hm_h0 hk_h0 (by decide) rfl inlX9 (by decide) mW109 (fun _ h9 => h9) rfl dX9_teller_158 ?_
                  obtain ⟨hmy_65, hky_65⟩ := ySh.f9_5 hSh _ hm_h0 hk_h0
                  refine lv_iload hx hb dX9_teller_161 (lv_at hl 7 rfl) ?_
                  refine lv_iload hx hb dX9_teller_163 (lv_at hl 0 rfl) ?_
                  refine lv_iadd hx hb dX9_teller_165 ?_
                  refine lv_topi (fun z_66 ez_66 => ?_)
                  have T_67 : (z_66 : Int32).toInt = (z_3 : Int32).toInt + (v_24 : Int32).toInt := tadd ez_66 (rfl : (z_3 : Int32).toInt = (z_3 : Int32).toInt) (rfl : (v_24 : Int32).toInt = (v_24 : Int32).toInt) (by omega) (by omega)
                  refine yaldB C0 hK hP hmy_65 hky_65 (by decide) rfl 1 rfl (xinT 2400 rfl (by omega) (by omega)) dX9_teller_166 ?_
                  refine lv_topi (fun z_68 ez_68 => ?_)
                  refine lv_ishr hx hb dX9_teller_167 ?_
                  refine lv_topi (fun z_69 ez_69 => ?_)
                  refine lv_iconst (v := 1) hx hb dX9_teller_168 (by decide) ?_
                  refine lv_iand hx hb dX9_teller_169 ?_
                  refine lv_topi (fun z_70 ez_70 => ?_)
                  refine lv_iconst (v := 1) hx hb dX9_teller_170 (by decide) ?_
                  refine lv_icmp_ne (tgt := 178) hx hb dX9_teller_171 (by decide) (fun c_71 => ?_) (fun c_71 => ?_)
                  · refine lv_iconst (v := 0) hx hb dX9_teller_178 (by decide) ?_
                    refine lv_istore (lv' := [(13, .int 0), (15, .int v_24), (14, .int v_24), (9, .int v_6), (12, .int v_6), (11, .int v_6), (10, .int v_5), (8, .int z_3), (0, .ref h0), (1, .int p0), (2, .int p1), (3, .int p2), (4, .int p3), (5, .int p4), (6, .int p5), (7, .int p6)]) hx hb dX9_teller_179 hl (by decide) rfl (fun ls hl => ?_)
                    refine lv_iinc (v := v_24 + 1) (lv' := [(14, .int (v_24 + 1)), (13, .int 0), (15, .int v_24), (9, .int v_6), (12, .int v_6), (11, .int v_6), (10, .int v_5), (8, .int z_3), (0, .ref h0), (1, .int p0), (2, .int p1), (3, .int p2), (4, .int p3), (5, .int p4), (6, .int p5), (7, .int p6)]) hx hb dX9_teller_181 hl (k := 2) rfl rfl (by decide) rfl (fun ls hl => ?_)
                    refine lv_goto (tgt := 85) hx hb dX9_teller_184 (by decide) ?_
                    have F_74 := fne (rfl : (z_70 : Int32).toInt = (z_70 : Int32).toInt) (by decide +kernel : (1 : Int32).toInt = 1) c_71
                    have T_75 : ((v_24 + 1) : Int32).toInt = (v_24 : Int32).toInt + 1 := tadd rfl (rfl : (v_24 : Int32).toInt = (v_24 : Int32).toInt) (by decide +kernel : (1 : Int32).toInt = 1) (by omega) (by omega)
                    exact hnext_25 (0, v_24 + 1) ls (xup c_27) ⟨(show (0 ≤ (((v_24 + 1)) : Int32).toInt) from by have hl0_ : (0 : Int32).toInt = 0 := (by decide +kernel); have hq0_ : (0 : Int32).toInt = 0 := (by decide +kernel); omega), (lv_sub hl [0, 1, 3, 4, 5, 6, 7, 8, 9, 10, 11, 12, 13, 14, 15] rfl)⟩
                  · refine lv_iconst (v := 1) hx hb dX9_teller_174 (by decide) ?_
                    refine lv_goto (tgt := 179) hx hb dX9_teller_175 (by decide) ?_
                    refine lv_istore (lv' := [(13, .int 1), (15, .int v_24), (14, .int v_24), (9, .int v_6), (12, .int v_6), (11, .int v_6), (10, .int v_5), (8, .int z_3), (0, .ref h0), (1, .int p0), (2, .int p1), (3, .int p2), (4, .int p3), (5, .int p4), (6, .int p5), (7, .int p6)]) hx hb dX9_teller_179 hl (by decide) rfl (fun ls hl => ?_)
                    refine lv_iinc (v := v_24 + 1) (lv' := [(14, .int (v_24 + 1)), (13, .int 1), (15, .int v_24), (9, .int v_6), (12, .int v_6), (11, .int v_6), (10, .int v_5), (8, .int z_3), (0, .ref h0), (1, .int p0), (2, .int p1), (3, .int p2), (4, .int p3), (5, .int p4), (6, .int p5), (7, .int p6)]) hx hb dX9_teller_181 hl (k := 2) rfl rfl (by decide) rfl (fun ls hl => ?_)
                    refine lv_goto (tgt := 85) hx hb dX9_teller_184 (by decide) ?_
                    have F_78 := feq (rfl : (z_70 : Int32).toInt = (z_70 : Int32).toInt) (by decide +kernel : (1 : Int32).toInt = 1) c_71
                    have T_79 : ((v_24 + 1) : Int32).toInt = (v_24 : Int32).toInt + 1 := tadd rfl (rfl : (v_24 : Int32).toInt = (v_24 : Int32).toInt) (by decide +kernel : (1 : Int32).toInt = 1) (by omega) (by omega)
                    exact hnext_25 (1, v_24 + 1) ls (xup c_27) ⟨(show (0 ≤ (((v_24 + 1)) : Int32).toInt) from by have hl0_ : (1 : Int32).toInt = 1 := (by decide +kernel); have hq0_ : (0 : Int32).toInt = 0 := (by decide +kernel); omega), (lv_sub hl [0, 1, 3, 4, 5, 6, 7, 8, 9, 10, 11, 12, 13, 14, 15] rfl)⟩
            · refine lv_iload hx hb dX9_teller_108 (lv_at hl 0 rfl) ?_
              refine lv_iload hx hb dX9_teller_110 (lv_at hl 12 rfl) ?_
              refine lv_icmp_ne (tgt := 120) hx hb dX9_teller_112 (by decide) (fun c_80 => ?_) (fun c_80 => ?_)
              · refine lv_iload hx hb dX9_teller_120 (lv_at hl 0 rfl) ?_
                refine lv_istore (lv' := [(15, .int v_24), (14, .int v_24), (13, .int v_23), (9, .int v_6), (12, .int v_6), (11, .int v_6), (10, .int v_5), (8, .int z_3), (0, .ref h0), (1, .int p0), (2, .int p1), (3, .int p2), (4, .int p3), (5, .int p4), (6, .int p5), (7, .int p6)]) hx hb dX9_teller_122 hl (by decide) rfl (fun ls hl => ?_)
                refine lv_iload hx hb dX9_teller_124 (lv_at hl 1 rfl) ?_
                refine lv_iload hx hb dX9_teller_126 (lv_at hl 5 rfl) ?_
                refine lv_icmp_eq (tgt := 178) hx hb dX9_teller_128 (by decide) (fun c_81 => ?_) (fun c_81 => ?_)
                · refine lv_iconst (v := 0) hx hb dX9_teller_178 (by decide) ?_
                  refine lv_istore (lv' := [(13, .int 0), (15, .int v_24), (14, .int v_24), (9, .int v_6), (12, .int v_6), (11, .int v_6), (10, .int v_5), (8, .int z_3), (0, .ref h0), (1, .int p0), (2, .int p1), (3, .int p2), (4, .int p3), (5, .int p4), (6, .int p5), (7, .int p6)]) hx hb dX9_teller_179 hl (by decide) rfl (fun ls hl => ?_)
                  refine lv_iinc (v := v_24 + 1) (lv' := [(14, .int (v_24 + 1)), (13, .int 0), (15, .int v_24), (9, .int v_6), (12, .int v_6), (11, .int v_6), (10, .int v_5), (8, .int z_3), (0, .ref h0), (1, .int p0), (2, .int p1), (3, .int p2), (4, .int p3), (5, .int p4), (6, .int p5), (7, .int p6)]) hx hb dX9_teller_181 hl (k := 2) rfl rfl (by decide) rfl (fun ls hl => ?_)
                  refine lv_goto (tgt := 85) hx hb dX9_teller_184 (by decide) ?_
                  have F_83 := feq (rfl : (r_46 : Int32).toInt = (r_46 : Int32).toInt) (rfl : (p6 : Int32).toInt = (p6 : Int32).toInt) c_47
                  have F_84 := fne (rfl : (v_24 : Int32).toInt = (v_24 : Int32).toInt) (rfl : (p4 : Int32).toInt = (p4 : Int32).toInt) c_80
                  have F_85 := feq (rfl : (v_24 : Int32).toInt = (v_24 : Int32).toInt) (rfl : (v_6 : Int32).toInt = (v_6 : Int32).toInt) c_81
                  have T_86 : ((v_24 + 1) : Int32).toInt = (v_24 : Int32).toInt + 1 := tadd rfl (rfl : (v_24 : Int32).toInt = (v_24 : Int32).toInt) (by decide +kernel : (1 : Int32).toInt = 1) (by omega) (by omega)
                  exact hnext_25 (0, v_24 + 1) ls (xup c_27) ⟨(show (0 ≤ (((v_24 + 1)) : Int32).toInt) from by have hl0_ : (0 : Int32).toInt = 0 := (by decide +kernel); have hq0_ : (0 : Int32).toInt = 0 := (by decide +kernel); omega), (lv_sub hl [0, 1, 3, 4, 5, 6, 7, 8, 9, 10, 11, 12, 13, 14, 15] rfl)⟩
                · refine lv_aload_n hx hb dX9_teller_131 rfl (lv_at hl 8 rfl) ?_
                  refine lv_iload hx hb dX9_teller_132 (lv_at hl 7 rfl) ?_
                  refine lv_iload hx hb dX9_teller_134 (lv_at hl 0 rfl) ?_
                  refine lv_iload_n hx hb dX9_teller_136 rfl (lv_at hl 9 rfl) ?_
                  refine lv_iload_n hx hb dX9_teller_137 rfl (lv_at hl 10 rfl) ?_
                  refine lv_iload_n hx hb dX9_teller_138 rfl (lv_at hl 11 rfl) ?_
                  refine lv_iload hx hb dX9_teller_139 (lv_at hl 12 rfl) ?_
                  have F_87 := feq (rfl : (r_46 : Int32).toInt = (r_46 : Int32).toInt) (rfl : (p6 : Int32).toInt = (p6 : Int32).toInt) c_47
                  have F_88 := fne (rfl : (v_24 : Int32).toInt = (v_24 : Int32).toInt) (rfl : (p4 : Int32).toInt = (p4 : Int32).toInt) c_80
                  have F_89 := fne (rfl : (v_24 : Int32).toInt = (v_24 : Int32).toInt) (rfl : (v_6 : Int32).toInt = (v_6 : Int32).toInt) c_81
                  refine yVri (As := [.int z_3, .int v_24, .int p0, .int p1, .int p2, .int p3]) (rest := []) C0 (g_X9_isAsked l G S d h0 z_3 v_24 p0 p1 p2 p3 hSh hm_h0 hk_h0 hI (by refine ⟨?_, ?_⟩ <;> omega) (by refine ⟨?_, ?_⟩ <;> omega) (by refine ⟨?_, ?_⟩ <;> omega) (by refine ⟨?_, ?_⟩ <;> omega)) ok_X9_isAsked (mW893 : Cond.methodLink RX9 239 yX9_isAsked ∈ wsT) ⟨Nat.le_of_ble_eq_true rfl, Nat.le_of_ble_eq_true rfl⟩ hP hD hK hN hm_h0 hk_h0 (by decide) rfl rfl rfl hl.1 rfl (Nat.le_of_ble_eq_true rfl) ⟨Nat.le_of_ble_eq_true rfl, Nat.le_of_ble_eq_true rfl⟩ dX9_teller_141 (fun r_90 hr_90 => ?_)
                  refine lv_if_eq (tgt := 178) hx hb dX9_teller_144 (by decide) (fun c_91 => ?_) (fun c_91 => ?_)
                  · refine lv_iconst (v := 0) hx hb dX9_teller_178 (by decide) ?_
                    refine lv_istore (lv' := [(13, .int 0), (15, .int v_24), (14, .int v_24), (9, .int v_6), (12, .int v_6), (11, .int v_6), (10, .int v_5), (8, .int z_3), (0, .ref h0), (1, .int p0), (2, .int p1), (3, .int p2), (4, .int p3), (5, .int p4), (6, .int p5), (7, .int p6)]) hx hb dX9_teller_179 hl (by decide) rfl (fun ls hl => ?_)
                    refine lv_iinc (v := v_24 + 1) (lv' := [(14, .int (v_24 + 1)), (13, .int 0), (15, .int v_24), (9, .int v_6), (12, .int v_6), (11, .int v_6), (10, .int v_5), (8, .int z_3), (0, .ref h0), (1, .int p0), (2, .int p1), (3, .int p2), (4, .int p3), (5, .int p4), (6, .int p5), (7, .int p6)]) hx hb dX9_teller_181 hl (k := 2) rfl rfl (by decide) rfl (fun ls hl => ?_)
                    refine lv_goto (tgt := 85) hx hb dX9_teller_184 (by decide) ?_
                    have F_93 := feq (rfl : (r_90 : Int32).toInt = (r_90 : Int32).toInt) (by decide +kernel : (0 : Int32).toInt = 0) c_91
                    have T_94 : ((v_24 + 1) : Int32).toInt = (v_24 : Int32).toInt + 1 := tadd rfl (rfl : (v_24 : Int32).toInt = (v_24 : Int32).toInt) (by decide +kernel : (1 : Int32).toInt = 1) (by omega) (by omega)
                    exact hnext_25 (0, v_24 + 1) ls (xup c_27) ⟨(show (0 ≤ (((v_24 + 1)) : Int32).toInt) from by have hl0_ : (0 : Int32).toInt = 0 := (by decide +kernel); have hq0_ : (0 : Int32).toInt = 0 := (by decide +kernel); omega), (lv_sub hl [0, 1, 3, 4, 5, 6, 7, 8, 9, 10, 11, 12, 13, 14, 15] rfl)⟩
                  · refine lv_aload_n hx hb dX9_teller_147 rfl (lv_at hl 8 rfl) ?_
                    refine yget (ci := 9) (k := 9) (v := .ref (S.2.2.1 h0 9)) (C := RX9) (T := TX9) (N := 67) C0 hK hP hm_h0 hk_h0 (by decide) rfl inlX9 (by decide) mW113 (fun _ h9 => h9) rfl dX9_teller_148 ?_
                    obtain ⟨hmy_95, hky_95⟩ := ySh.f9_9 hSh _ hm_h0 hk_h0
                    refine lv_iload hx hb dX9_teller_151 (lv_at hl 7 rfl) ?_
                    refine lv_iload hx hb dX9_teller_153 (lv_at hl 4 rfl) ?_
                    refine lv_iadd hx hb dX9_teller_155 ?_
                    refine lv_topi (fun z_96 ez_96 => ?_)
                    have F_97 := fne (rfl : (r_90 : Int32).toInt = (r_90 : Int32).toInt) (by decide +kernel : (0 : Int32).toInt = 0) c_91
                    have T_98 : (z_96 : Int32).toInt = (z_3 : Int32).toInt + (v_6 : Int32).toInt := tadd ez_96 (rfl : (z_3 : Int32).toInt = (z_3 : Int32).toInt) (rfl : (v_6 : Int32).toInt = (v_6 : Int32).toInt) (by omega) (by omega)
                    refine yaldB C0 hK hP hmy_95 hky_95 (by decide) rfl 1 rfl (xinT 2400 rfl (by omega) (by omega)) dX9_teller_156 ?_
                    refine lv_topi (fun z_99 ez_99 => ?_)
                    refine lv_aload_n hx hb dX9_teller_157 rfl (lv_at hl 8 rfl) ?_
                    refine yget (ci := 9) (k := 5) (v := .ref (S.2.2.1 h0 5)) (C := RX9) (T := TX9) (N := 67) C0 hK hP hm_h0 hk_h0 (by decide) rfl inlX9 (by decide) mW109 (fun _ h9 => h9) rfl dX9_teller_158 ?_
                    obtain ⟨hmy_100, hky_100⟩ := ySh.f9_5 hSh _ hm_h0 hk_h0
                    refine lv_iload hx hb dX9_teller_161 (lv_at hl 7 rfl) ?_
                    refine lv_iload hx hb dX9_teller_163 (lv_at hl 0 rfl) ?_
                    refine lv_iadd hx hb dX9_teller_165 ?_
                    refine lv_topi (fun z_101 ez_101 => ?_)
                    have T_102 : (z_101 : Int32).toInt = (z_3 : Int32).toInt + (v_24 : Int32).toInt := tadd ez_101 (rfl : (z_3 : Int32).toInt = (z_3 : Int32).toInt) (rfl : (v_24 : Int32).toInt = (v_24 : Int32).toInt) (by omega) (by omega)
                    refine yaldB C0 hK hP hmy_100 hky_100 (by decide) rfl 1 rfl (xinT 2400 rfl (by omega) (by omega)) dX9_teller_166 ?_
                    refine lv_topi (fun z_103 ez_103 => ?_)
                    refine lv_ishr hx hb dX9_teller_167 ?_
                    refine lv_topi (fun z_104 ez_104 => ?_)
                    refine lv_iconst (v := 1) hx hb dX9_teller_168 (by decide) ?_
                    refine lv_iand hx hb dX9_teller_169 ?_
                    refine lv_topi (fun z_105 ez_105 => ?_)
                    refine lv_iconst (v := 1) hx hb dX9_teller_170 (by decide) ?_
                    refine lv_icmp_ne (tgt := 178) hx hb dX9_teller_171 (by decide) (fun c_106 => ?_) (fun c_106 => ?_)
                    · refine lv_iconst (v := 0) hx hb dX9_teller_178 (by decide) ?_
                      refine lv_istore (lv' := [(13, .int 0), (15, .int v_24), (14, .int v_24), (9, .int v_6), (12, .int v_6), (11, .int v_6), (10, .int v_5), (8, .int z_3), (0, .ref h0), (1, .int p0), (2, .int p1), (3, .int p2), (4, .int p3), (5, .int p4), (6, .int p5), (7, .int p6)]) hx hb dX9_teller_179 hl (by decide) rfl (fun ls hl => ?_)
                      refine lv_iinc (v := v_24 + 1) (lv' := [(14, .int (v_24 + 1)), (13, .int 0), (15, .int v_24), (9, .int v_6), (12, .int v_6), (11, .int v_6), (10, .int v_5), (8, .int z_3), (0, .ref h0), (1, .int p0), (2, .int p1), (3, .int p2), (4, .int p3), (5, .int p4), (6, .int p5), (7, .int p6)]) hx hb dX9_teller_181 hl (k := 2) rfl rfl (by decide) rfl (fun ls hl => ?_)
                      refine lv_goto (tgt := 85) hx hb dX9_teller_184 (by decide) ?_
                      have F_109 := fne (rfl : (z_105 : Int32).toInt = (z_105 : Int32).toInt) (by decide +kernel : (1 : Int32).toInt = 1) c_106
                      have T_110 : ((v_24 + 1) : Int32).toInt = (v_24 : Int32).toInt + 1 := tadd rfl (rfl : (v_24 : Int32).toInt = (v_24 : Int32).toInt) (by decide +kernel : (1 : Int32).toInt = 1) (by omega) (by omega)
                      exact hnext_25 (0, v_24 + 1) ls (xup c_27) ⟨(show (0 ≤ (((v_24 + 1)) : Int32).toInt) from by have hl0_ : (0 : Int32).toInt = 0 := (by decide +kernel); have hq0_ : (0 : Int32).toInt = 0 := (by decide +kernel); omega), (lv_sub hl [0, 1, 3, 4, 5, 6, 7, 8, 9, 10, 11, 12, 13, 14, 15] rfl)⟩
                    · refine lv_iconst (v := 1) hx hb dX9_teller_174 (by decide) ?_
                      refine lv_goto (tgt := 179) hx hb dX9_teller_175 (by decide) ?_
                      refine lv_istore (lv' := [(13, .int 1), (15, .int v_24), (14, .int v_24), (9, .int v_6), (12, .int v_6), (11, .int v_6), (10, .int v_5), (8, .int z_3), (0, .ref h0), (1, .int p0), (2, .int p1), (3, .int p2), (4, .int p3), (5, .int p4), (6, .int p5), (7, .int p6)]) hx hb dX9_teller_179 hl (by decide) rfl (fun ls hl => ?_)
                      refine lv_iinc (v := v_24 + 1) (lv' := [(14, .int (v_24 + 1)), (13, .int 1), (15, .int v_24), (9, .int v_6), (12, .int v_6), (11, .int v_6), (10, .int v_5), (8, .int z_3), (0, .ref h0), (1, .int p0), (2, .int p1), (3, .int p2), (4, .int p3), (5, .int p4), (6, .int p5), (7, .int p6)]) hx hb dX9_teller_181 hl (k := 2) rfl rfl (by decide) rfl (fun ls hl => ?_)
                      refine lv_goto (tgt := 85) hx hb dX9_teller_184 (by decide) ?_
                      have F_113 := feq (rfl : (z_105 : Int32).toInt = (z_105 : Int32).toInt) (by decide +kernel : (1 : Int32).toInt = 1) c_106
                      have T_114 : ((v_24 + 1) : Int32).toInt = (v_24 : Int32).toInt + 1 := tadd rfl (rfl : (v_24 : Int32).toInt = (v_24 : Int32).toInt) (by decide +kernel : (1 : Int32).toInt = 1) (by omega) (by omega)
                      exact hnext_25 (1, v_24 + 1) ls (xup c_27) ⟨(show (0 ≤ (((v_24 + 1)) : Int32).toInt) from by have hl0_ : (1 : Int32).toInt = 1 := (by decide +kernel); have hq0_ : (0 : Int32).toInt = 0 := (by decide +kernel); omega), (lv_sub hl [0, 1, 3, 4, 5, 6, 7, 8, 9, 10, 11, 12, 13, 14, 15] rfl)⟩
              · refine lv_iload hx hb dX9_teller_115 (lv_at hl 13 rfl) ?_
                refine lv_goto (tgt := 122) hx hb dX9_teller_117 (by decide) ?_
                refine lv_istore (lv' := [(15, .int p5), (14, .int v_24), (13, .int v_23), (9, .int v_6), (12, .int v_6), (11, .int v_6), (10, .int v_5), (8, .int z_3), (0, .ref h0), (1, .int p0), (2, .int p1), (3, .int p2), (4, .int p3), (5, .int p4), (6, .int p5), (7, .int p6)]) hx hb dX9_teller_122 hl (by decide) rfl (fun ls hl => ?_)
                refine lv_iload hx hb dX9_teller_124 (lv_at hl 1 rfl) ?_
                refine lv_iload hx hb dX9_teller_126 (lv_at hl 5 rfl) ?_
                refine lv_icmp_eq (tgt := 178) hx hb dX9_teller_128 (by decide) (fun c_115 => ?_) (fun c_115 => ?_)
                · refine lv_iconst (v := 0) hx hb dX9_teller_178 (by decide) ?_
                  refine lv_istore (lv' := [(13, .int 0), (15, .int p5), (14, .int v_24), (9, .int v_6), (12, .int v_6), (11, .int v_6), (10, .int v_5), (8, .int z_3), (0, .ref h0), (1, .int p0), (2, .int p1), (3, .int p2), (4, .int p3), (5, .int p4), (6, .int p5), (7, .int p6)]) hx hb dX9_teller_179 hl (by decide) rfl (fun ls hl => ?_)
                  refine lv_iinc (v := v_24 + 1) (lv' := [(14, .int (v_24 + 1)), (13, .int 0), (15, .int p5), (9, .int v_6), (12, .int v_6), (11, .int v_6), (10, .int v_5), (8, .int z_3), (0, .ref h0), (1, .int p0), (2, .int p1), (3, .int p2), (4, .int p3), (5, .int p4), (6, .int p5), (7, .int p6)]) hx hb dX9_teller_181 hl (k := 2) rfl rfl (by decide) rfl (fun ls hl => ?_)
                  refine lv_goto (tgt := 85) hx hb dX9_teller_184 (by decide) ?_
                  have F_117 := feq (rfl : (r_46 : Int32).toInt = (r_46 : Int32).toInt) (rfl : (p6 : Int32).toInt = (p6 : Int32).toInt) c_47
                  have F_118 := feq (rfl : (v_24 : Int32).toInt = (v_24 : Int32).toInt) (rfl : (p4 : Int32).toInt = (p4 : Int32).toInt) c_80
                  have F_119 := feq (rfl : (v_24 : Int32).toInt = (v_24 : Int32).toInt) (rfl : (v_6 : Int32).toInt = (v_6 : Int32).toInt) c_115
                  have T_120 : ((v_24 + 1) : Int32).toInt = (v_24 : Int32).toInt + 1 := tadd rfl (rfl : (v_24 : Int32).toInt = (v_24 : Int32).toInt) (by decide +kernel : (1 : Int32).toInt = 1) (by omega) (by omega)
                  exact hnext_25 (0, v_24 + 1) ls (xup c_27) ⟨(show (0 ≤ (((v_24 + 1)) : Int32).toInt) from by have hl0_ : (0 : Int32).toInt = 0 := (by decide +kernel); have hq0_ : (0 : Int32).toInt = 0 := (by decide +kernel); omega), (lv_sub hl [0, 1, 3, 4, 5, 6, 7, 8, 9, 10, 11, 12, 13, 14, 15] rfl)⟩
                · refine lv_aload_n hx hb dX9_teller_131 rfl (lv_at hl 8 rfl) ?_
                  refine lv_iload hx hb dX9_teller_132 (lv_at hl 7 rfl) ?_
                  refine lv_iload hx hb dX9_teller_134 (lv_at hl 0 rfl) ?_
                  refine lv_iload_n hx hb dX9_teller_136 rfl (lv_at hl 9 rfl) ?_
                  refine lv_iload_n hx hb dX9_teller_137 rfl (lv_at hl 10 rfl) ?_
                  refine lv_iload_n hx hb dX9_teller_138 rfl (lv_at hl 11 rfl) ?_
                  refine lv_iload hx hb dX9_teller_139 (lv_at hl 12 rfl) ?_
                  have F_121 := feq (rfl : (r_46 : Int32).toInt = (r_46 : Int32).toInt) (rfl : (p6 : Int32).toInt = (p6 : Int32).toInt) c_47
                  have F_122 := feq (rfl : (v_24 : Int32).toInt = (v_24 : Int32).toInt) (rfl : (p4 : Int32).toInt = (p4 : Int32).toInt) c_80
                  have F_123 := fne (rfl : (v_24 : Int32).toInt = (v_24 : Int32).toInt) (rfl : (v_6 : Int32).toInt = (v_6 : Int32).toInt) c_115
                  refine yVri (As := [.int z_3, .int p5, .int p0, .int p1, .int p2, .int p3]) (rest := []) C0 (g_X9_isAsked l G S d h0 z_3 p5 p0 p1 p2 p3 hSh hm_h0 hk_h0 hI (by refine ⟨?_, ?_⟩ <;> omega) (by refine ⟨?_, ?_⟩ <;> omega) (by refine ⟨?_, ?_⟩ <;> omega) (by refine ⟨?_, ?_⟩ <;> omega)) ok_X9_isAsked (mW893 : Cond.methodLink RX9 239 yX9_isAsked ∈ wsT) ⟨Nat.le_of_ble_eq_true rfl, Nat.le_of_ble_eq_true rfl⟩ hP hD hK hN hm_h0 hk_h0 (by decide) rfl rfl rfl hl.1 rfl (Nat.le_of_ble_eq_true rfl) ⟨Nat.le_of_ble_eq_true rfl, Nat.le_of_ble_eq_true rfl⟩ dX9_teller_141 (fun r_124 hr_124 => ?_)
                  refine lv_if_eq (tgt := 178) hx hb dX9_teller_144 (by decide) (fun c_125 => ?_) (fun c_125 => ?_)
                  · refine lv_iconst (v := 0) hx hb dX9_teller_178 (by decide) ?_
                    refine lv_istore (lv' := [(13, .int 0), (15, .int p5), (14, .int v_24), (9, .int v_6), (12, .int v_6), (11, .int v_6), (10, .int v_5), (8, .int z_3), (0, .ref h0), (1, .int p0), (2, .int p1), (3, .int p2), (4, .int p3), (5, .int p4), (6, .int p5), (7, .int p6)]) hx hb dX9_teller_179 hl (by decide) rfl (fun ls hl => ?_)
                    refine lv_iinc (v := v_24 + 1) (lv' := [(14, .int (v_24 + 1)), (13, .int 0), (15, .int p5), (9, .int v_6), (12, .int v_6), (11, .int v_6), (10, .int v_5), (8, .int z_3), (0, .ref h0), (1, .int p0), (2, .int p1), (3, .int p2), (4, .int p3), (5, .int p4), (6, .int p5), (7, .int p6)]) hx hb dX9_teller_181 hl (k := 2) rfl rfl (by decide) rfl (fun ls hl => ?_)
                    refine lv_goto (tgt := 85) hx hb dX9_teller_184 (by decide) ?_
                    have F_127 := feq (rfl : (r_124 : Int32).toInt = (r_124 : Int32).toInt) (by decide +kernel : (0 : Int32).toInt = 0) c_125
                    have T_128 : ((v_24 + 1) : Int32).toInt = (v_24 : Int32).toInt + 1 := tadd rfl (rfl : (v_24 : Int32).toInt = (v_24 : Int32).toInt) (by decide +kernel : (1 : Int32).toInt = 1) (by omega) (by omega)
                    exact hnext_25 (0, v_24 + 1) ls (xup c_27) ⟨(show (0 ≤ (((v_24 + 1)) : Int32).toInt) from by have hl0_ : (0 : Int32).toInt = 0 := (by decide +kernel); have hq0_ : (0 : Int32).toInt = 0 := (by decide +kernel); omega), (lv_sub hl [0, 1, 3, 4, 5, 6, 7, 8, 9, 10, 11, 12, 13, 14, 15] rfl)⟩
                  · refine lv_aload_n hx hb dX9_teller_147 rfl (lv_at hl 8 rfl) ?_
                    refine yget (ci := 9) (k := 9) (v := .ref (S.2.2.1 h0 9)) (C := RX9) (T := TX9) (N := 67) C0 hK hP hm_h0 hk_h0 (by decide) rfl inlX9 (by decide) mW113 (fun _ h9 => h9) rfl dX9_teller_148 ?_
                    obtain ⟨hmy_129, hky_129⟩ := ySh.f9_9 hSh _ hm_h0 hk_h0
                    refine lv_iload hx hb dX9_teller_151 (lv_at hl 7 rfl) ?_
                    refine lv_iload hx hb dX9_teller_153 (lv_at hl 4 rfl) ?_
                    refine lv_iadd hx hb dX9_teller_155 ?_
                    refine lv_topi (fun z_130 ez_130 => ?_)
                    have F_131 := fne (rfl : (r_124 : Int32).toInt = (r_124 : Int32).toInt) (by decide +kernel : (0 : Int32).toInt = 0) c_125
                    have T_132 : (z_130 : Int32).toInt = (z_3 : Int32).toInt + (v_6 : Int32).toInt := tadd ez_130 (rfl : (z_3 : Int32).toInt = (z_3 : Int32).toInt) (rfl : (v_6 : Int32).toInt = (v_6 : Int32).toInt) (by omega) (by omega)
                    refine yaldB C0 hK hP hmy_129 hky_129 (by decide) rfl 1 rfl (xinT 2400 rfl (by omega) (by omega)) dX9_teller_156 ?_
                    refine lv_topi (fun z_133 ez_133 => ?_)
                    refine lv_aload_n hx hb dX9_teller_157 rfl (lv_at hl 8 rfl) ?_
                    refine yget (ci := 9) (k := 5) (v := .ref (S.2.2.1 h0 5)) (C := RX9) (T := TX9) (N := 67) C0 hK hP hm_h0 hk_h0 (by decide) rfl inlX9 (by decide) mW109 (fun _ h9 => h9) rfl dX9_teller_158 ?_
                    obtain ⟨hmy_134, hky_134⟩ := ySh.f9_5 hSh _ hm_h0 hk_h0
                    refine lv_iload hx hb dX9_teller_161 (lv_at hl 7 rfl) ?_
                    refine lv_iload hx hb dX9_teller_163 (lv_at hl 0 rfl) ?_
                    refine lv_iadd hx hb dX9_teller_165 ?_
                    refine lv_topi (fun z_135 ez_135 => ?_)
                    have T_136 : (z_135 : Int32).toInt = (z_3 : Int32).toInt + (p5 : Int32).toInt := tadd ez_135 (rfl : (z_3 : Int32).toInt = (z_3 : Int32).toInt) (rfl : (p5 : Int32).toInt = (p5 : Int32).toInt) (by omega) (by omega)
                    refine yaldB C0 hK hP hmy_134 hky_134 (by decide) rfl 1 rfl (xinT 2400 rfl (by omega) (by omega)) dX9_teller_166 ?_
                    refine lv_topi (fun z_137 ez_137 => ?_)
                    refine lv_ishr hx hb dX9_teller_167 ?_
                    refine lv_topi (fun z_138 ez_138 => ?_)
                    refine lv_iconst (v := 1) hx hb dX9_teller_168 (by decide) ?_
                    refine lv_iand hx hb dX9_teller_169 ?_
                    refine lv_topi (fun z_139 ez_139 => ?_)
                    refine lv_iconst (v := 1) hx hb dX9_teller_170 (by decide) ?_
                    refine lv_icmp_ne (tgt := 178) hx hb dX9_teller_171 (by decide) (fun c_140 => ?_) (fun c_140 => ?_)
                    · refine lv_iconst (v := 0) hx hb dX9_teller_178 (by decide) ?_
                      refine lv_istore (lv' := [(13, .int 0), (15, .int p5), (14, .int v_24), (9, .int v_6), (12, .int v_6), (11, .int v_6), (10, .int v_5), (8, .int z_3), (0, .ref h0), (1, .int p0), (2, .int p1), (3, .int p2), (4, .int p3), (5, .int p4), (6, .int p5), (7, .int p6)]) hx hb dX9_teller_179 hl (by decide) rfl (fun ls hl => ?_)
                      refine lv_iinc (v := v_24 + 1) (lv' := [(14, .int (v_24 + 1)), (13, .int 0), (15, .int p5), (9, .int v_6), (12, .int v_6), (11, .int v_6), (10, .int v_5), (8, .int z_3), (0, .ref h0), (1, .int p0), (2, .int p1), (3, .int p2), (4, .int p3), (5, .int p4), (6, .int p5), (7, .int p6)]) hx hb dX9_teller_181 hl (k := 2) rfl rfl (by decide) rfl (fun ls hl => ?_)
                      refine lv_goto (tgt := 85) hx hb dX9_teller_184 (by decide) ?_
                      have F_143 := fne (rfl : (z_139 : Int32).toInt = (z_139 : Int32).toInt) (by decide +kernel : (1 : Int32).toInt = 1) c_140
                      have T_144 : ((v_24 + 1) : Int32).toInt = (v_24 : Int32).toInt + 1 := tadd rfl (rfl : (v_24 : Int32).toInt = (v_24 : Int32).toInt) (by decide +kernel : (1 : Int32).toInt = 1) (by omega) (by omega)
                      exact hnext_25 (0, v_24 + 1) ls (xup c_27) ⟨(show (0 ≤ (((v_24 + 1)) : Int32).toInt) from by have hl0_ : (0 : Int32).toInt = 0 := (by decide +kernel); have hq0_ : (0 : Int32).toInt = 0 := (by decide +kernel); omega), (lv_sub hl [0, 1, 3, 4, 5, 6, 7, 8, 9, 10, 11, 12, 13, 14, 15] rfl)⟩
                    · refine lv_iconst (v := 1) hx hb dX9_teller_174 (by decide) ?_
                      refine lv_goto (tgt := 179) hx hb dX9_teller_175 (by decide) ?_
                      refine lv_istore (lv' := [(13, .int 1), (15, .int p5), (14, .int v_24), (9, .int v_6), (12, .int v_6), (11, .int v_6), (10, .int v_5), (8, .int z_3), (0, .ref h0), (1, .int p0), (2, .int p1), (3, .int p2), (4, .int p3), (5, .int p4), (6, .int p5), (7, .int p6)]) hx hb dX9_teller_179 hl (by decide) rfl (fun ls hl => ?_)
                      refine lv_iinc (v := v_24 + 1) (lv' := [(14, .int (v_24 + 1)), (13, .int 1), (15, .int p5), (9, .int v_6), (12, .int v_6), (11, .int v_6), (10, .int v_5), (8, .int z_3), (0, .ref h0), (1, .int p0), (2, .int p1), (3, .int p2), (4, .int p3), (5, .int p4), (6, .int p5), (7, .int p6)]) hx hb dX9_teller_181 hl (k := 2) rfl rfl (by decide) rfl (fun ls hl => ?_)
                      refine lv_goto (tgt := 85) hx hb dX9_teller_184 (by decide) ?_
                      have F_147 := feq (rfl : (z_139 : Int32).toInt = (z_139 : Int32).toInt) (by decide +kernel : (1 : Int32).toInt = 1) c_140
                      have T_148 : ((v_24 + 1) : Int32).toInt = (v_24 : Int32).toInt + 1 := tadd rfl (rfl : (v_24 : Int32).toInt = (v_24 : Int32).toInt) (by decide +kernel : (1 : Int32).toInt = 1) (by omega) (by omega)
                      exact hnext_25 (1, v_24 + 1) ls (xup c_27) ⟨(show (0 ≤ (((v_24 + 1)) : Int32).toInt) from by have hl0_ : (1 : Int32).toInt = 1 := (by decide +kernel); have hq0_ : (0 : Int32).toInt = 0 := (by decide +kernel); omega), (lv_sub hl [0, 1, 3, 4, 5, 6, 7, 8, 9, 10, 11, 12, 13, 14, 15] rfl)⟩
      · refine lv_goto (tgt := 196) hx hb dX9_teller_72 (by decide) ?_
        refine lv_iinc (v := v_6 + 1) (lv' := [(11, .int (v_6 + 1)), (12, .int v_6), (10, .int v_5), (9, .int v_4), (8, .int z_3), (0, .ref h0), (1, .int p0), (2, .int p1), (3, .int p2), (4, .int p3), (5, .int p4), (6, .int p5), (7, .int p6)]) hx hb dX9_teller_196 hl (k := 1) rfl rfl (by decide) rfl (fun ls hl => ?_)
        refine lv_goto (tgt := 22) hx hb dX9_teller_199 (by decide) ?_
        have F_150 := feq (rfl : (r_20 : Int32).toInt = (r_20 : Int32).toInt) (by decide +kernel : (0 : Int32).toInt = 0) c_21
        have T_151 : ((v_6 + 1) : Int32).toInt = (v_6 : Int32).toInt + 1 := tadd rfl (rfl : (v_6 : Int32).toInt = (v_6 : Int32).toInt) (by decide +kernel : (1 : Int32).toInt = 1) (by omega) (by omega)
        exact hnext_7 (v_4, v_5, v_6 + 1) ls (xup c_9) ⟨(show ((((v_4) : Int32).toInt = -2 ∨ 0 ≤ ((v_4) : Int32).toInt) ∧ ((v_4) : Int32).toInt ≤ 59 ∧ (0 ≤ ((v_4) : Int32).toInt → ((v_4) : Int32).toInt = p4.toInt → yOf S d h0 p0.toInt.toNat 1 = p6.toInt → 0 ≤ p5.toInt) ∧ (((v_5) : Int32).toInt = -2 ∨ 0 ≤ ((v_5) : Int32).toInt) ∧ ((v_5) : Int32).toInt ≤ 59 ∧ (0 ≤ ((v_5) : Int32).toInt → ((v_5) : Int32).toInt = p4.toInt → yOf S d h0 p0.toInt.toNat 1 = p6.toInt → 0 ≤ p5.toInt) ∧ 0 ≤ (((v_6 + 1)) : Int32).toInt) from by have hq0_ : (0 : Int32).toInt = 0 := (by decide +kernel); omega), (lv_sub hl [0, 2, 3, 4, 5, 6, 7, 8, 9, 10, 11, 12] rfl)⟩
    · refine lv_iload hx hb dX9_teller_40 (lv_at hl 0 rfl) ?_
      refine lv_iload hx hb dX9_teller_42 (lv_at hl 9 rfl) ?_
      refine lv_icmp_ne (tgt := 52) hx hb dX9_teller_44 (by decide) (fun c_152 => ?_) (fun c_152 => ?_)
      · refine lv_iload hx hb dX9_teller_52 (lv_at hl 0 rfl) ?_
        refine lv_istore (lv' := [(12, .int v_6), (11, .int v_6), (10, .int v_5), (9, .int v_4), (8, .int z_3), (0, .ref h0), (1, .int p0), (2, .int p1), (3, .int p2), (4, .int p3), (5, .int p4), (6, .int p5), (7, .int p6)]) hx hb dX9_teller_54 hl (by decide) rfl (fun ls hl => ?_)
        refine lv_aload_n hx hb dX9_teller_56 rfl (lv_at hl 5 rfl) ?_
        refine lv_iload hx hb dX9_teller_57 (lv_at hl 4 rfl) ?_
        refine lv_iload hx hb dX9_teller_59 (lv_at hl 0 rfl) ?_
        refine lv_iload_n hx hb dX9_teller_61 rfl (lv_at hl 6 rfl) ?_
        refine lv_iload_n hx hb dX9_teller_62 rfl (lv_at hl 7 rfl) ?_
        refine lv_iload_n hx hb dX9_teller_63 rfl (lv_at hl 8 rfl) ?_
        refine lv_iload hx hb dX9_teller_64 (lv_at hl 9 rfl) ?_
        have F_153 := feq (rfl : (r_16 : Int32).toInt = (r_16 : Int32).toInt) (rfl : (p6 : Int32).toInt = (p6 : Int32).toInt) c_17
        have F_154 := fne (rfl : (v_6 : Int32).toInt = (v_6 : Int32).toInt) (rfl : (p4 : Int32).toInt = (p4 : Int32).toInt) c_152
        have T_155 : (z_3 : Int32).toInt = 60 * (r_1 : Int32).toInt := tmul ez_3 (by decide +kernel : (60 : Int32).toInt = 60) (rfl : (r_1 : Int32).toInt = (r_1 : Int32).toInt) (by omega) (by omega)
        refine yVri (As := [.int z_3, .int v_6, .int p0, .int p1, .int p2, .int p3]) (rest := []) C0 (g_X9_isAsked l G S d h0 z_3 v_6 p0 p1 p2 p3 hSh hm_h0 hk_h0 hI (by refine ⟨?_, ?_⟩ <;> omega) (by refine ⟨?_, ?_⟩ <;> omega) (by refine ⟨?_, ?_⟩ <;> omega) (by refine ⟨?_, ?_⟩ <;> omega)) ok_X9_isAsked (mW893 : Cond.methodLink RX9 239 yX9_isAsked ∈ wsT) ⟨Nat.le_of_ble_eq_true rfl, Nat.le_of_ble_eq_true rfl⟩ hP hD hK hN hm_h0 hk_h0 (by decide) rfl rfl rfl hl.1 rfl (Nat.le_of_ble_eq_true rfl) ⟨Nat.le_of_ble_eq_true rfl, Nat.le_of_ble_eq_true rfl⟩ dX9_teller_66 (fun r_156 hr_156 => ?_)
        refine lv_if_ne (tgt := 75) hx hb dX9_teller_69 (by decide) (fun c_157 => ?_) (fun c_157 => ?_)
        · refine lv_iload hx hb dX9_teller_75 (lv_at hl 1 rfl) ?_
          refine lv_istore (lv' := [(9, .int v_6), (12, .int v_6), (11, .int v_6), (10, .int v_5), (8, .int z_3), (0, .ref h0), (1, .int p0), (2, .int p1), (3, .int p2), (4, .int p3), (5, .int p4), (6, .int p5), (7, .int p6)]) hx hb dX9_teller_77 hl (by decide) rfl (fun ls hl => ?_)
          refine lv_iconst (v := 0) hx hb dX9_teller_79 (by decide) ?_
          refine lv_istore (lv' := [(13, .int 0), (9, .int v_6), (12, .int v_6), (11, .int v_6), (10, .int v_5), (8, .int z_3), (0, .ref h0), (1, .int p0), (2, .int p1), (3, .int p2), (4, .int p3), (5, .int p4), (6, .int p5), (7, .int p6)]) hx hb dX9_teller_80 hl (by decide) rfl (fun ls hl => ?_)
          refine lv_iconst (v := 0) hx hb dX9_teller_82 (by decide) ?_
          refine lv_istore (lv' := [(14, .int 0), (13, .int 0), (9, .int v_6), (12, .int v_6), (11, .int v_6), (10, .int v_5), (8, .int z_3), (0, .ref h0), (1, .int p0), (2, .int p1), (3, .int p2), (4, .int p3), (5, .int p4), (6, .int p5), (7, .int p6)]) hx hb dX9_teller_83 hl (by decide) rfl (fun ls hl => ?_)
          have F_158 := fne (rfl : (r_156 : Int32).toInt = (r_156 : Int32).toInt) (by decide +kernel : (0 : Int32).toInt = 0) c_157
          refine yloopR (σ := Int32 × Int32) (fun x => (2147483647 - (x.2 : Int32).toInt).toNat) 85 (fun x ls => (0 ≤ ((x.2) : Int32).toInt) ∧ lv_has ls 16 [(14, .int x.2), (13, .int x.1), (9, .int v_6), (12, .int v_6), (11, .int v_6), (10, .int v_5), (8, .int z_3), (0, .ref h0), (1, .int p0), (2, .int p1), (3, .int p2), (4, .int p3), (5, .int p4), (6, .int p5), (7, .int p6)]) (fun x ls hl hnext_161 => ?_) (0, 0) ⟨(show (0 ≤ ((0) : Int32).toInt) from by have hl0_ : (0 : Int32).toInt = 0 := (by decide +kernel); have hl1_ : (0 : Int32).toInt = 0 := (by decide +kernel); have hq0_ : (0 : Int32).toInt = 0 := (by decide +kernel); omega), lv_sub hl [0, 1, 2, 3, 4, 5, 6, 7, 8, 9, 10, 11, 12, 13, 14] rfl⟩
          obtain ⟨v_159, v_160⟩ := x
          obtain ⟨hex_162, hl⟩ := hl
          have hex_162 : (0 ≤ ((v_160) : Int32).toInt) := hex_162
          have hl : lv_has ls 16 [(14, .int v_160), (13, .int v_159), (9, .int v_6), (12, .int v_6), (11, .int v_6), (10, .int v_5), (8, .int z_3), (0, .ref h0), (1, .int p0), (2, .int p1), (3, .int p2), (4, .int p3), (5, .int p4), (6, .int p5), (7, .int p6)] := hl
          refine lv_iload hx hb dX9_teller_85 (lv_at hl 0 rfl) ?_
          refine lv_bipush (v := 60) hx hb dX9_teller_87 (by decide) ?_
          refine lv_icmp_ge (tgt := 187) hx hb dX9_teller_89 (by decide) (fun c_163 => ?_) (fun c_163 => ?_)
          · refine lv_iload hx hb dX9_teller_187 (lv_at hl 1 rfl) ?_
            refine lv_if_ne (tgt := 196) hx hb dX9_teller_189 (by decide) (fun c_164 => ?_) (fun c_164 => ?_)
            · refine lv_iinc (v := v_6 + 1) (lv' := [(11, .int (v_6 + 1)), (14, .int v_160), (13, .int v_159), (9, .int v_6), (12, .int v_6), (10, .int v_5), (8, .int z_3), (0, .ref h0), (1, .int p0), (2, .int p1), (3, .int p2), (4, .int p3), (5, .int p4), (6, .int p5), (7, .int p6)]) hx hb dX9_teller_196 hl (k := 4) rfl rfl (by decide) rfl (fun ls hl => ?_)
              refine lv_goto (tgt := 22) hx hb dX9_teller_199 (by decide) ?_
              have F_166 := fle (by decide +kernel : (60 : Int32).toInt = 60) (rfl : (v_160 : Int32).toInt = (v_160 : Int32).toInt) c_163
              have F_167 := fne (rfl : (v_159 : Int32).toInt = (v_159 : Int32).toInt) (by decide +kernel : (0 : Int32).toInt = 0) c_164
              have T_168 : ((v_6 + 1) : Int32).toInt = (v_6 : Int32).toInt + 1 := tadd rfl (rfl : (v_6 : Int32).toInt = (v_6 : Int32).toInt) (by decide +kernel : (1 : Int32).toInt = 1) (by omega) (by omega)
              exact hnext_7 (v_6, v_5, v_6 + 1) ls (xup c_9) ⟨(show ((((v_6) : Int32).toInt = -2 ∨ 0 ≤ ((v_6) : Int32).toInt) ∧ ((v_6) : Int32).toInt ≤ 59 ∧ (0 ≤ ((v_6) : Int32).toInt → ((v_6) : Int32).toInt = p4.toInt → yOf S d h0 p0.toInt.toNat 1 = p6.toInt → 0 ≤ p5.toInt) ∧ (((v_5) : Int32).toInt = -2 ∨ 0 ≤ ((v_5) : Int32).toInt) ∧ ((v_5) : Int32).toInt ≤ 59 ∧ (0 ≤ ((v_5) : Int32).toInt → ((v_5) : Int32).toInt = p4.toInt → yOf S d h0 p0.toInt.toNat 1 = p6.toInt → 0 ≤ p5.toInt) ∧ 0 ≤ (((v_6 + 1)) : Int32).toInt) from by have hq0_ : (0 : Int32).toInt = 0 := (by decide +kernel); omega), (lv_sub hl [0, 5, 3, 6, 7, 8, 9, 10, 11, 12, 13, 14] rfl)⟩
            · refine lv_iload hx hb dX9_teller_192 (lv_at hl 4 rfl) ?_
              refine lv_istore (lv' := [(10, .int v_6), (14, .int v_160), (13, .int v_159), (9, .int v_6), (12, .int v_6), (11, .int v_6), (8, .int z_3), (0, .ref h0), (1, .int p0), (2, .int p1), (3, .int p2), (4, .int p3), (5, .int p4), (6, .int p5), (7, .int p6)]) hx hb dX9_teller_194 hl (by decide) rfl (fun ls hl => ?_)
              refine lv_iinc (v := v_6 + 1) (lv' := [(11, .int (v_6 + 1)), (10, .int v_6), (14, .int v_160), (13, .int v_159), (9, .int v_6), (12, .int v_6), (8, .int z_3), (0, .ref h0), (1, .int p0), (2, .int p1), (3, .int p2), (4, .int p3), (5, .int p4), (6, .int p5), (7, .int p6)]) hx hb dX9_teller_196 hl (k := 5) rfl rfl (by decide) rfl (fun ls hl => ?_)
              refine lv_goto (tgt := 22) hx hb dX9_teller_199 (by decide) ?_
              have F_170 := fle (by decide +kernel : (60 : Int32).toInt = 60) (rfl : (v_160 : Int32).toInt = (v_160 : Int32).toInt) c_163
              have F_171 := feq (rfl : (v_159 : Int32).toInt = (v_159 : Int32).toInt) (by decide +kernel : (0 : Int32).toInt = 0) c_164
              have T_172 : ((v_6 + 1) : Int32).toInt = (v_6 : Int32).toInt + 1 := tadd rfl (rfl : (v_6 : Int32).toInt = (v_6 : Int32).toInt) (by decide +kernel : (1 : Int32).toInt = 1) (by omega) (by omega)
              exact hnext_7 (v_6, v_6, v_6 + 1) ls (xup c_9) ⟨(show ((((v_6) : Int32).toInt = -2 ∨ 0 ≤ ((v_6) : Int32).toInt) ∧ ((v_6) : Int32).toInt ≤ 59 ∧ (0 ≤ ((v_6) : Int32).toInt → ((v_6) : Int32).toInt = p4.toInt → yOf S d h0 p0.toInt.toNat 1 = p6.toInt → 0 ≤ p5.toInt) ∧ (((v_6) : Int32).toInt = -2 ∨ 0 ≤ ((v_6) : Int32).toInt) ∧ ((v_6) : Int32).toInt ≤ 59 ∧ (0 ≤ ((v_6) : Int32).toInt → ((v_6) : Int32).toInt = p4.toInt → yOf S d h0 p0.toInt.toNat 1 = p6.toInt → 0 ≤ p5.toInt) ∧ 0 ≤ (((v_6 + 1)) : Int32).toInt) from by have hq0_ : (0 : Int32).toInt = 0 := (by decide +kernel); omega), (lv_sub hl [0, 1, 4, 6, 7, 8, 9, 10, 11, 12, 13, 14] rfl)⟩
          · refine lv_iload hx hb dX9_teller_92 (lv_at hl 1 rfl) ?_
            refine lv_if_ne (tgt := 187) hx hb dX9_teller_94 (by decide) (fun c_173 => ?_) (fun c_173 => ?_)
            · refine lv_iload hx hb dX9_teller_187 (lv_at hl 1 rfl) ?_
              refine lv_if_ne (tgt := 196) hx hb dX9_teller_189 (by decide) (fun c_174 => ?_) (fun c_174 => absurd c_174 c_173)
              refine lv_iinc (v := v_6 + 1) (lv' := [(11, .int (v_6 + 1)), (14, .int v_160), (13, .int v_159), (9, .int v_6), (12, .int v_6), (10, .int v_5), (8, .int z_3), (0, .ref h0), (1, .int p0), (2, .int p1), (3, .int p2), (4, .int p3), (5, .int p4), (6, .int p5), (7, .int p6)]) hx hb dX9_teller_196 hl (k := 4) rfl rfl (by decide) rfl (fun ls hl => ?_)
              refine lv_goto (tgt := 22) hx hb dX9_teller_199 (by decide) ?_
              have F_176 := fnle (by decide +kernel : (60 : Int32).toInt = 60) (rfl : (v_160 : Int32).toInt = (v_160 : Int32).toInt) c_163
              have F_177 := fne (rfl : (v_159 : Int32).toInt = (v_159 : Int32).toInt) (by decide +kernel : (0 : Int32).toInt = 0) c_173
              have F_178 := fne (rfl : (v_159 : Int32).toInt = (v_159 : Int32).toInt) (by decide +kernel : (0 : Int32).toInt = 0) c_174
              have T_179 : ((v_6 + 1) : Int32).toInt = (v_6 : Int32).toInt + 1 := tadd rfl (rfl : (v_6 : Int32).toInt = (v_6 : Int32).toInt) (by decide +kernel : (1 : Int32).toInt = 1) (by omega) (by omega)
              exact hnext_7 (v_6, v_5, v_6 + 1) ls (xup c_9) ⟨(show ((((v_6) : Int32).toInt = -2 ∨ 0 ≤ ((v_6) : Int32).toInt) ∧ ((v_6) : Int32).toInt ≤ 59 ∧ (0 ≤ ((v_6) : Int32).toInt → ((v_6) : Int32).toInt = p4.toInt → yOf S d h0 p0.toInt.toNat 1 = p6.toInt → 0 ≤ p5.toInt) ∧ (((v_5) : Int32).toInt = -2 ∨ 0 ≤ ((v_5) : Int32).toInt) ∧ ((v_5) : Int32).toInt ≤ 59 ∧ (0 ≤ ((v_5) : Int32).toInt → ((v_5) : Int32).toInt = p4.toInt → yOf S d h0 p0.toInt.toNat 1 = p6.toInt → 0 ≤ p5.toInt) ∧ 0 ≤ (((v_6 + 1)) : Int32).toInt) from by have hq0_ : (0 : Int32).toInt = 0 := (by decide +kernel); omega), (lv_sub hl [0, 5, 3, 6, 7, 8, 9, 10, 11, 12, 13, 14] rfl)⟩
            · refine lv_aload_n hx hb dX9_teller_97 rfl (lv_at hl 7 rfl) ?_
              refine lv_iload_n hx hb dX9_teller_98 rfl (lv_at hl 8 rfl) ?_
              refine lv_iconst (v := 1) hx hb dX9_teller_99 (by decide) ?_
              have F_180 := fnle (by decide +kernel : (60 : Int32).toInt = 60) (rfl : (v_160 : Int32).toInt = (v_160 : Int32).toInt) c_163
              have F_181 := feq (rfl : (v_159 : Int32).toInt = (v_159 : Int32).toInt) (by decide +kernel : (0 : Int32).toInt = 0) c_173
              refine yVri (As := [.int p0, .int 1]) (rest := []) C0 (g_X9_of l G S d h0 p0 1 hSh hm_h0 hk_h0 (by refine ⟨?_, ?_⟩ <;> omega) (by decide +kernel)) ok_X9_of (mW425 : Cond.methodLink RX9 161 yX9_of ∈ wsT) ⟨Nat.le_of_ble_eq_true rfl, Nat.le_of_ble_eq_true rfl⟩ hP hD hK hN hm_h0 hk_h0 (by decide) rfl rfl rfl hl.1 rfl (Nat.le_of_ble_eq_true rfl) ⟨Nat.le_of_ble_eq_true rfl, Nat.le_of_ble_eq_true rfl⟩ dX9_teller_100 (fun r_182 hr_182 => ?_)
              have hOr_182 : (r_182 : Int32).toInt = yOf S d h0 (p0 : Int32).toInt.toNat 1 := by rw [hr_182, show (1 : Int32).toInt.toNat = 1 by decide +kernel]; rfl
              have hbr_182 := xof1 hI (p := p0) (by refine ⟨?_, ?_⟩ <;> omega) hr_182
              refine lv_iload hx hb dX9_teller_103 (lv_at hl 14 rfl) ?_
              refine lv_icmp_ne (tgt := 120) hx hb dX9_teller_105 (by decide) (fun c_183 => ?_) (fun c_183 => ?_)
              · refine lv_iload hx hb dX9_teller_120 (lv_at hl 0 rfl) ?_
                refine lv_istore (lv' := [(15, .int v_160), (14, .int v_160), (13, .int v_159), (9, .int v_6), (12, .int v_6), (11, .int v_6), (10, .int v_5), (8, .int z_3), (0, .ref h0), (1, .int p0), (2, .int p1), (3, .int p2), (4, .int p3), (5, .int p4), (6, .int p5), (7, .int p6)]) hx hb dX9_teller_122 hl (by decide) rfl (fun ls hl => ?_)
                refine lv_iload hx hb dX9_teller_124 (lv_at hl 1 rfl) ?_
                refine lv_iload hx hb dX9_teller_126 (lv_at hl 5 rfl) ?_
                refine lv_icmp_eq (tgt := 178) hx hb dX9_teller_128 (by decide) (fun c_184 => ?_) (fun c_184 => ?_)
                · refine lv_iconst (v := 0) hx hb dX9_teller_178 (by decide) ?_
                  refine lv_istore (lv' := [(13, .int 0), (15, .int v_160), (14, .int v_160), (9, .int v_6), (12, .int v_6), (11, .int v_6), (10, .int v_5), (8, .int z_3), (0, .ref h0), (1, .int p0), (2, .int p1), (3, .int p2), (4, .int p3), (5, .int p4), (6, .int p5), (7, .int p6)]) hx hb dX9_teller_179 hl (by decide) rfl (fun ls hl => ?_)
                  refine lv_iinc (v := v_160 + 1) (lv' := [(14, .int (v_160 + 1)), (13, .int 0), (15, .int v_160), (9, .int v_6), (12, .int v_6), (11, .int v_6), (10, .int v_5), (8, .int z_3), (0, .ref h0), (1, .int p0), (2, .int p1), (3, .int p2), (4, .int p3), (5, .int p4), (6, .int p5), (7, .int p6)]) hx hb dX9_teller_181 hl (k := 2) rfl rfl (by decide) rfl (fun ls hl => ?_)
                  refine lv_goto (tgt := 85) hx hb dX9_teller_184 (by decide) ?_
                  have F_186 := fne (rfl : (r_182 : Int32).toInt = (r_182 : Int32).toInt) (rfl : (p6 : Int32).toInt = (p6 : Int32).toInt) c_183
                  have F_187 := feq (rfl : (v_160 : Int32).toInt = (v_160 : Int32).toInt) (rfl : (v_6 : Int32).toInt = (v_6 : Int32).toInt) c_184
                  have T_188 : ((v_160 + 1) : Int32).toInt = (v_160 : Int32).toInt + 1 := tadd rfl (rfl : (v_160 : Int32).toInt = (v_160 : Int32).toInt) (by decide +kernel : (1 : Int32).toInt = 1) (by omega) (by omega)
                  exact hnext_161 (0, v_160 + 1) ls (xup c_163) ⟨(show (0 ≤ (((v_160 + 1)) : Int32).toInt) from by have hl0_ : (0 : Int32).toInt = 0 := (by decide +kernel); have hq0_ : (0 : Int32).toInt = 0 := (by decide +kernel); omega), (lv_sub hl [0, 1, 3, 4, 5, 6, 7, 8, 9, 10, 11, 12, 13, 14, 15] rfl)⟩
                · refine lv_aload_n hx hb dX9_teller_131 rfl (lv_at hl 8 rfl) ?_
                  refine lv_iload hx hb dX9_teller_132 (lv_at hl 7 rfl) ?_
                  refine lv_iload hx hb dX9_teller_134 (lv_at hl 0 rfl) ?_
                  refine lv_iload_n hx hb dX9_teller_136 rfl (lv_at hl 9 rfl) ?_
                  refine lv_iload_n hx hb dX9_teller_137 rfl (lv_at hl 10 rfl) ?_
                  refine lv_iload_n hx hb dX9_teller_138 rfl (lv_at hl 11 rfl) ?_
                  refine lv_iload hx hb dX9_teller_139 (lv_at hl 12 rfl) ?_
                  have F_189 := fne (rfl : (r_182 : Int32).toInt = (r_182 : Int32).toInt) (rfl : (p6 : Int32).toInt = (p6 : Int32).toInt) c_183
                  have F_190 := fne (rfl : (v_160 : Int32).toInt = (v_160 : Int32).toInt) (rfl : (v_6 : Int32).toInt = (v_6 : Int32).toInt) c_184
                  refine yVri (As := [.int z_3, .int v_160, .int p0, .int p1, .int p2, .int p3]) (rest := []) C0 (g_X9_isAsked l G S d h0 z_3 v_160 p0 p1 p2 p3 hSh hm_h0 hk_h0 hI (by refine ⟨?_, ?_⟩ <;> omega) (by refine ⟨?_, ?_⟩ <;> omega) (by refine ⟨?_, ?_⟩ <;> omega) (by refine ⟨?_, ?_⟩ <;> omega)) ok_X9_isAsked (mW893 : Cond.methodLink RX9 239 yX9_isAsked ∈ wsT) ⟨Nat.le_of_ble_eq_true rfl, Nat.le_of_ble_eq_true rfl⟩ hP hD hK hN hm_h0 hk_h0 (by decide) rfl rfl rfl hl.1 rfl (Nat.le_of_ble_eq_true rfl) ⟨Nat.le_of_ble_eq_true rfl, Nat.le_of_ble_eq_true rfl⟩ dX9_teller_141 (fun r_191 hr_191 => ?_)
                  refine lv_if_eq (tgt := 178) hx hb dX9_teller_144 (by decide) (fun c_192 => ?_) (fun c_192 => ?_)
                  · refine lv_iconst (v := 0) hx hb dX9_teller_178 (by decide) ?_
                    refine lv_istore (lv' := [(13, .int 0), (15, .int v_160), (14, .int v_160), (9, .int v_6), (12, .int v_6), (11, .int v_6), (10, .int v_5), (8, .int z_3), (0, .ref h0), (1, .int p0), (2, .int p1), (3, .int p2), (4, .int p3), (5, .int p4), (6, .int p5), (7, .int p6)]) hx hb dX9_teller_179 hl (by decide) rfl (fun ls hl => ?_)
                    refine lv_iinc (v := v_160 + 1) (lv' := [(14, .int (v_160 + 1)), (13, .int 0), (15, .int v_160), (9, .int v_6), (12, .int v_6), (11, .int v_6), (10, .int v_5), (8, .int z_3), (0, .ref h0), (1, .int p0), (2, .int p1), (3, .int p2), (4, .int p3), (5, .int p4), (6, .int p5), (7, .int p6)]) hx hb dX9_teller_181 hl (k := 2) rfl rfl (by decide) rfl (fun ls hl => ?_)
                    refine lv_goto (tgt := 85) hx hb dX9_teller_184 (by decide) ?_
                    have F_194 := feq (rfl : (r_191 : Int32).toInt = (r_191 : Int32).toInt) (by decide +kernel : (0 : Int32).toInt = 0) c_192
                    have T_195 : ((v_160 + 1) : Int32).toInt = (v_160 : Int32).toInt + 1 := tadd rfl (rfl : (v_160 : Int32).toInt = (v_160 : Int32).toInt) (by decide +kernel : (1 : Int32).toInt = 1) (by omega) (by omega)
                    exact hnext_161 (0, v_160 + 1) ls (xup c_163) ⟨(show (0 ≤ (((v_160 + 1)) : Int32).toInt) from by have hl0_ : (0 : Int32).toInt = 0 := (by decide +kernel); have hq0_ : (0 : Int32).toInt = 0 := (by decide +kernel); omega), (lv_sub hl [0, 1, 3, 4, 5, 6, 7, 8, 9, 10, 11, 12, 13, 14, 15] rfl)⟩
                  · refine lv_aload_n hx hb dX9_teller_147 rfl (lv_at hl 8 rfl) ?_
                    refine yget (ci := 9) (k := 9) (v := .ref (S.2.2.1 h0 9)) (C := RX9) (T := TX9) (N := 67) C0 hK hP hm_h0 hk_h0 (by decide) rfl inlX9 (by decide) mW113 (fun _ h9 => h9) rfl dX9_teller_148 ?_
                    obtain ⟨hmy_196, hky_196⟩ := ySh.f9_9 hSh _ hm_h0 hk_h0
                    refine lv_iload hx hb dX9_teller_151 (lv_at hl 7 rfl) ?_
                    refine lv_iload hx hb dX9_teller_153 (lv_at hl 4 rfl) ?_
                    refine lv_iadd hx hb dX9_teller_155 ?_
                    refine lv_topi (fun z_197 ez_197 => ?_)
                    have F_198 := fne (rfl : (r_191 : Int32).toInt = (r_191 : Int32).toInt) (by decide +kernel : (0 : Int32).toInt = 0) c_192
                    have T_199 : (z_197 : Int32).toInt = (z_3 : Int32).toInt + (v_6 : Int32).toInt := tadd ez_197 (rfl : (z_3 : Int32).toInt = (z_3 : Int32).toInt) (rfl : (v_6 : Int32).toInt = (v_6 : Int32).toInt) (by omega) (by omega)
                    refine yaldB C0 hK hP hmy_196 hky_196 (by decide) rfl 1 rfl (xinT 2400 rfl (by omega) (by omega)) dX9_teller_156 ?_
                    refine lv_topi (fun z_200 ez_200 => ?_)
                    refine lv_aload_n hx hb dX9_teller_157 rfl (lv_at hl 8 rfl) ?_
                    refine yget (ci := 9) (k := 5) (v := .ref (S.2.2.1 h0 5)) (C := RX9) (T := TX9) (N := 67) C0 hK hP hm_h0 hk_h0 (by decide) rfl inlX9 (by decide) mW109 (fun _ h9 => h9) rfl dX9_teller_158 ?_
                    obtain ⟨hmy_201, hky_201⟩ := ySh.f9_5 hSh _ hm_h0 hk_h0
                    refine lv_iload hx hb dX9_teller_161 (lv_at hl 7 rfl) ?_
                    refine lv_iload hx hb dX9_teller_163 (lv_at hl 0 rfl) ?_
                    refine lv_iadd hx hb dX9_teller_165 ?_
                    refine lv_topi (fun z_202 ez_202 => ?_)
                    have T_203 : (z_202 : Int32).toInt = (z_3 : Int32).toInt + (v_160 : Int32).toInt := tadd ez_202 (rfl : (z_3 : Int32).toInt = (z_3 : Int32).toInt) (rfl : (v_160 : Int32).toInt = (v_160 : Int32).toInt) (by omega) (by omega)
                    refine yaldB C0 hK hP hmy_201 hky_201 (by decide) rfl 1 rfl (xinT 2400 rfl (by omega) (by omega)) dX9_teller_166 ?_
                    refine lv_topi (fun z_204 ez_204 => ?_)
                    refine lv_ishr hx hb dX9_teller_167 ?_
                    refine lv_topi (fun z_205 ez_205 => ?_)
                    refine lv_iconst (v := 1) hx hb dX9_teller_168 (by decide) ?_
                    refine lv_iand hx hb dX9_teller_169 ?_
                    refine lv_topi (fun z_206 ez_206 => ?_)
                    refine lv_iconst (v := 1) hx hb dX9_teller_170 (by decide) ?_
                    refine lv_icmp_ne (tgt := 178) hx hb dX9_teller_171 (by decide) (fun c_207 => ?_) (fun c_207 => ?_)
                    · refine lv_iconst (v := 0) hx hb dX9_teller_178 (by decide) ?_
                      refine lv_istore (lv' := [(13, .int 0), (15, .int v_160), (14, .int v_160), (9, .int v_6), (12, .int v_6), (11, .int v_6), (10, .int v_5), (8, .int z_3), (0, .ref h0), (1, .int p0), (2, .int p1), (3, .int p2), (4, .int p3), (5, .int p4), (6, .int p5), (7, .int p6)]) hx hb dX9_teller_179 hl (by decide) rfl (fun ls hl => ?_)
                      refine lv_iinc (v := v_160 + 1) (lv' := [(14, .int (v_160 + 1)), (13, .int 0), (15, .int v_160), (9, .int v_6), (12, .int v_6), (11, .int v_6), (10, .int v_5), (8, .int z_3), (0, .ref h0), (1, .int p0), (2, .int p1), (3, .int p2), (4, .int p3), (5, .int p4), (6, .int p5), (7, .int p6)]) hx hb dX9_teller_181 hl (k := 2) rfl rfl (by decide) rfl (fun ls hl => ?_)
                      refine lv_goto (tgt := 85) hx hb dX9_teller_184 (by decide) ?_
                      have F_210 := fne (rfl : (z_206 : Int32).toInt = (z_206 : Int32).toInt) (by decide +kernel : (1 : Int32).toInt = 1) c_207
                      have T_211 : ((v_160 + 1) : Int32).toInt = (v_160 : Int32).toInt + 1 := tadd rfl (rfl : (v_160 : Int32).toInt = (v_160 : Int32).toInt) (by decide +kernel : (1 : Int32).toInt = 1) (by omega) (by omega)
                      exact hnext_161 (0, v_160 + 1) ls (xup c_163) ⟨(show (0 ≤ (((v_160 + 1)) : Int32).toInt) from by have hl0_ : (0 : Int32).toInt = 0 := (by decide +kernel); have hq0_ : (0 : Int32).toInt = 0 := (by decide +kernel); omega), (lv_sub hl [0, 1, 3, 4, 5, 6, 7, 8, 9, 10, 11, 12, 13, 14, 15] rfl)⟩
                    · refine lv_iconst (v := 1) hx hb dX9_teller_174 (by decide) ?_
                      refine lv_goto (tgt := 179) hx hb dX9_teller_175 (by decide) ?_
                      refine lv_istore (lv' := [(13, .int 1), (15, .int v_160), (14, .int v_160), (9, .int v_6), (12, .int v_6), (11, .int v_6), (10, .int v_5), (8, .int z_3), (0, .ref h0), (1, .int p0), (2, .int p1), (3, .int p2), (4, .int p3), (5, .int p4), (6, .int p5), (7, .int p6)]) hx hb dX9_teller_179 hl (by decide) rfl (fun ls hl => ?_)
                      refine lv_iinc (v := v_160 + 1) (lv' := [(14, .int (v_160 + 1)), (13, .int 1), (15, .int v_160), (9, .int v_6), (12, .int v_6), (11, .int v_6), (10, .int v_5), (8, .int z_3), (0, .ref h0), (1, .int p0), (2, .int p1), (3, .int p2), (4, .int p3), (5, .int p4), (6, .int p5), (7, .int p6)]) hx hb dX9_teller_181 hl (k := 2) rfl rfl (by decide) rfl (fun ls hl => ?_)
                      refine lv_goto (tgt := 85) hx hb dX9_teller_184 (by decide) ?_
                      have F_214 := feq (rfl : (z_206 : Int32).toInt = (z_206 : Int32).toInt) (by decide +kernel : (1 : Int32).toInt = 1) c_207
                      have T_215 : ((v_160 + 1) : Int32).toInt = (v_160 : Int32).toInt + 1 := tadd rfl (rfl : (v_160 : Int32).toInt = (v_160 : Int32).toInt) (by decide +kernel : (1 : Int32).toInt = 1) (by omega) (by omega)
                      exact hnext_161 (1, v_160 + 1) ls (xup c_163) ⟨(show (0 ≤ (((v_160 + 1)) : Int32).toInt) from by have hl0_ : (1 : Int32).toInt = 1 := (by decide +kernel); have hq0_ : (0 : Int32).toInt = 0 := (by decide +kernel); omega), (lv_sub hl [0, 1, 3, 4, 5, 6, 7, 8, 9, 10, 11, 12, 13, 14, 15] rfl)⟩
              · refine lv_iload hx hb dX9_teller_108 (lv_at hl 0 rfl) ?_
                refine lv_iload hx hb dX9_teller_110 (lv_at hl 12 rfl) ?_
                refine lv_icmp_ne (tgt := 120) hx hb dX9_teller_112 (by decide) (fun c_216 => ?_) (fun c_216 => ?_)
                · refine lv_iload hx hb dX9_teller_120 (lv_at hl 0 rfl) ?_
                  refine lv_istore (lv' := [(15, .int v_160), (14, .int v_160), (13, .int v_159), (9, .int v_6), (12, .int v_6), (11, .int v_6), (10, .int v_5), (8, .int z_3), (0, .ref h0), (1, .int p0), (2, .int p1), (3, .int p2), (4, .int p3), (5, .int p4), (6, .int p5), (7, .int p6)]) hx hb dX9_teller_122 hl (by decide) rfl (fun ls hl => ?_)
                  refine lv_iload hx hb dX9_teller_124 (lv_at hl 1 rfl) ?_
                  refine lv_iload hx hb dX9_teller_126 (lv_at hl 5 rfl) ?_
                  refine lv_icmp_eq (tgt := 178) hx hb dX9_teller_128 (by decide) (fun c_217 => ?_) (fun c_217 => ?_)
                  · refine lv_iconst (v := 0) hx hb dX9_teller_178 (by decide) ?_
                    refine lv_istore (lv' := [(13, .int 0), (15, .int v_160), (14, .int v_160), (9, .int v_6), (12, .int v_6), (11, .int v_6), (10, .int v_5), (8, .int z_3), (0, .ref h0), (1, .int p0), (2, .int p1), (3, .int p2), (4, .int p3), (5, .int p4), (6, .int p5), (7, .int p6)]) hx hb dX9_teller_179 hl (by decide) rfl (fun ls hl => ?_)
                    refine lv_iinc (v := v_160 + 1) (lv' := [(14, .int (v_160 + 1)), (13, .int 0), (15, .int v_160), (9, .int v_6), (12, .int v_6), (11, .int v_6), (10, .int v_5), (8, .int z_3), (0, .ref h0), (1, .int p0), (2, .int p1), (3, .int p2), (4, .int p3), (5, .int p4), (6, .int p5), (7, .int p6)]) hx hb dX9_teller_181 hl (k := 2) rfl rfl (by decide) rfl (fun ls hl => ?_)
                    refine lv_goto (tgt := 85) hx hb dX9_teller_184 (by decide) ?_
                    have F_219 := feq (rfl : (r_182 : Int32).toInt = (r_182 : Int32).toInt) (rfl : (p6 : Int32).toInt = (p6 : Int32).toInt) c_183
                    have F_220 := fne (rfl : (v_160 : Int32).toInt = (v_160 : Int32).toInt) (rfl : (p4 : Int32).toInt = (p4 : Int32).toInt) c_216
                    have F_221 := feq (rfl : (v_160 : Int32).toInt = (v_160 : Int32).toInt) (rfl : (v_6 : Int32).toInt = (v_6 : Int32).toInt) c_217
                    have T_222 : ((v_160 + 1) : Int32).toInt = (v_160 : Int32).toInt + 1 := tadd rfl (rfl : (v_160 : Int32).toInt = (v_160 : Int32).toInt) (by decide +kernel : (1 : Int32).toInt = 1) (by omega) (by omega)
                    exact hnext_161 (0, v_160 + 1) ls (xup c_163) ⟨(show (0 ≤ (((v_160 + 1)) : Int32).toInt) from by have hl0_ : (0 : Int32).toInt = 0 := (by decide +kernel); have hq0_ : (0 : Int32).toInt = 0 := (by decide +kernel); omega), (lv_sub hl [0, 1, 3, 4, 5, 6, 7, 8, 9, 10, 11, 12, 13, 14, 15] rfl)⟩
                  · refine lv_aload_n hx hb dX9_teller_131 rfl (lv_at hl 8 rfl) ?_
                    refine lv_iload hx hb dX9_teller_132 (lv_at hl 7 rfl) ?_
                    refine lv_iload hx hb dX9_teller_134 (lv_at hl 0 rfl) ?_
                    refine lv_iload_n hx hb dX9_teller_136 rfl (lv_at hl 9 rfl) ?_
                    refine lv_iload_n hx hb dX9_teller_137 rfl (lv_at hl 10 rfl) ?_
                    refine lv_iload_n hx hb dX9_teller_138 rfl (lv_at hl 11 rfl) ?_
                    refine lv_iload hx hb dX9_teller_139 (lv_at hl 12 rfl) ?_
                    have F_223 := feq (rfl : (r_182 : Int32).toInt = (r_182 : Int32).toInt) (rfl : (p6 : Int32).toInt = (p6 : Int32).toInt) c_183
                    have F_224 := fne (rfl : (v_160 : Int32).toInt = (v_160 : Int32).toInt) (rfl : (p4 : Int32).toInt = (p4 : Int32).toInt) c_216
                    have F_225 := fne (rfl : (v_160 : Int32).toInt = (v_160 : Int32).toInt) (rfl : (v_6 : Int32).toInt = (v_6 : Int32).toInt) c_217
                    refine yVri (As := [.int z_3, .int v_160, .int p0, .int p1, .int p2, .int p3]) (rest := []) C0 (g_X9_isAsked l G S d h0 z_3 v_160 p0 p1 p2 p3 hSh hm_h0 hk_h0 hI (by refine ⟨?_, ?_⟩ <;> omega) (by refine ⟨?_, ?_⟩ <;> omega) (by refine ⟨?_, ?_⟩ <;> omega) (by refine ⟨?_, ?_⟩ <;> omega)) ok_X9_isAsked (mW893 : Cond.methodLink RX9 239 yX9_isAsked ∈ wsT) ⟨Nat.le_of_ble_eq_true rfl, Nat.le_of_ble_eq_true rfl⟩ hP hD hK hN hm_h0 hk_h0 (by decide) rfl rfl rfl hl.1 rfl (Nat.le_of_ble_eq_true rfl) ⟨Nat.le_of_ble_eq_true rfl, Nat.le_of_ble_eq_true rfl⟩ dX9_teller_141 (fun r_226 hr_226 => ?_)
                    refine lv_if_eq (tgt := 178) hx hb dX9_teller_144 (by decide) (fun c_227 => ?_) (fun c_227 => ?_)
                    · refine lv_iconst (v := 0) hx hb dX9_teller_178 (by decide) ?_
                      refine lv_istore (lv' := [(13, .int 0), (15, .int v_160), (14, .int v_160), (9, .int v_6), (12, .int v_6), (11, .int v_6), (10, .int v_5), (8, .int z_3), (0, .ref h0), (1, .int p0), (2, .int p1), (3, .int p2), (4, .int p3), (5, .int p4), (6, .int p5), (7, .int p6)]) hx hb dX9_teller_179 hl (by decide) rfl (fun ls hl => ?_)
                      refine lv_iinc (v := v_160 + 1) (lv' := [(14, .int (v_160 + 1)), (13, .int 0), (15, .int v_160), (9, .int v_6), (12, .int v_6), (11, .int v_6), (10, .int v_5), (8, .int z_3), (0, .ref h0), (1, .int p0), (2, .int p1), (3, .int p2), (4, .int p3), (5, .int p4), (6, .int p5), (7, .int p6)]) hx hb dX9_teller_181 hl (k := 2) rfl rfl (by decide) rfl (fun ls hl => ?_)
                      refine lv_goto (tgt := 85) hx hb dX9_teller_184 (by decide) ?_
                      have F_229 := feq (rfl : (r_226 : Int32).toInt = (r_226 : Int32).toInt) (by decide +kernel : (0 : Int32).toInt = 0) c_227
                      have T_230 : ((v_160 + 1) : Int32).toInt = (v_160 : Int32).toInt + 1 := tadd rfl (rfl : (v_160 : Int32).toInt = (v_160 : Int32).toInt) (by decide +kernel : (1 : Int32).toInt = 1) (by omega) (by omega)
                      exact hnext_161 (0, v_160 + 1) ls (xup c_163) ⟨(show (0 ≤ (((v_160 + 1)) : Int32).toInt) from by have hl0_ : (0 : Int32).toInt = 0 := (by decide +kernel); have hq0_ : (0 : Int32).toInt = 0 := (by decide +kernel); omega), (lv_sub hl [0, 1, 3, 4, 5, 6, 7, 8, 9, 10, 11, 12, 13, 14, 15] rfl)⟩
                    · refine lv_aload_n hx hb dX9_teller_147 rfl (lv_at hl 8 rfl) ?_
                      refine yget (ci := 9) (k := 9) (v := .ref (S.2.2.1 h0 9)) (C := RX9) (T := TX9) (N := 67) C0 hK hP hm_h0 hk_h0 (by decide) rfl inlX9 (by decide) mW113 (fun _ h9 => h9) rfl dX9_teller_148 ?_
                      obtain ⟨hmy_231, hky_231⟩ := ySh.f9_9 hSh _ hm_h0 hk_h0
                      refine lv_iload hx hb dX9_teller_151 (lv_at hl 7 rfl) ?_
                      refine lv_iload hx hb dX9_teller_153 (lv_at hl 4 rfl) ?_
                      refine lv_iadd hx hb dX9_teller_155 ?_
                      refine lv_topi (fun z_232 ez_232 => ?_)
                      have F_233 := fne (rfl : (r_226 : Int32).toInt = (r_226 : Int32).toInt) (by decide +kernel : (0 : Int32).toInt = 0) c_227
                      have T_234 : (z_232 : Int32).toInt = (z_3 : Int32).toInt + (v_6 : Int32).toInt := tadd ez_232 (rfl : (z_3 : Int32).toInt = (z_3 : Int32).toInt) (rfl : (v_6 : Int32).toInt = (v_6 : Int32).toInt) (by omega) (by omega)
                      refine yaldB C0 hK hP hmy_231 hky_231 (by decide) rfl 1 rfl (xinT 2400 rfl (by omega) (by omega)) dX9_teller_156 ?_
                      refine lv_topi (fun z_235 ez_235 => ?_)
                      refine lv_aload_n hx hb dX9_teller_157 rfl (lv_at hl 8 rfl) ?_
                      refine yget (ci := 9) (k := 5) (v := .ref (S.2.2.1 h0 5)) (C := RX9) (T := TX9) (N := 67) C0 hK hP hm_h0 hk_h0 (by decide) rfl inlX9 (by decide) mW109 (fun _ h9 => h9) rfl dX9_teller_158 ?_
                      obtain ⟨hmy_236, hky_236⟩ := ySh.f9_5 hSh _ hm_h0 hk_h0
                      refine lv_iload hx hb dX9_teller_161 (lv_at hl 7 rfl) ?_
                      refine lv_iload hx hb dX9_teller_163 (lv_at hl 0 rfl) ?_
                      refine lv_iadd hx hb dX9_teller_165 ?_
                      refine lv_topi (fun z_237 ez_237 => ?_)
                      have T_238 : (z_237 : Int32).toInt = (z_3 : Int32).toInt + (v_160 : Int32).toInt := tadd ez_237 (rfl : (z_3 : Int32).toInt = (z_3 : Int32).toInt) (rfl : (v_160 : Int32).toInt = (v_160 : Int32).toInt) (by omega) (by omega)
                      refine yaldB C0 hK hP hmy_236 hky_236 (by decide) rfl 1 rfl (xinT 2400 rfl (by omega) (by omega)) dX9_teller_166 ?_
                      refine lv_topi (fun z_239 ez_239 => ?_)
                      refine lv_ishr hx hb dX9_teller_167 ?_
                      refine lv_topi (fun z_240 ez_240 => ?_)
                      refine lv_iconst (v := 1) hx hb dX9_teller_168 (by decide) ?_
                      refine lv_iand hx hb dX9_teller_169 ?_
                      refine lv_topi (fun z_241 ez_241 => ?_)
                      refine lv_iconst (v := 1) hx hb dX9_teller_170 (by decide) ?_
                      refine lv_icmp_ne (tgt := 178) hx hb dX9_teller_171 (by decide) (fun c_242 => ?_) (fun c_242 => ?_)
                      · refine lv_iconst (v := 0) hx hb dX9_teller_178 (by decide) ?_
                        refine lv_istore (lv' := [(13, .int 0), (15, .int v_160), (14, .int v_160), (9, .int v_6), (12, .int v_6), (11, .int v_6), (10, .int v_5), (8, .int z_3), (0, .ref h0), (1, .int p0), (2, .int p1), (3, .int p2), (4, .int p3), (5, .int p4), (6, .int p5), (7, .int p6)]) hx hb dX9_teller_179 hl (by decide) rfl (fun ls hl => ?_)
                        refine lv_iinc (v := v_160 + 1) (lv' := [(14, .int (v_160 + 1)), (13, .int 0), (15, .int v_160), (9, .int v_6), (12, .int v_6), (11, .int v_6), (10, .int v_5), (8, .int z_3), (0, .ref h0), (1, .int p0), (2, .int p1), (3, .int p2), (4, .int p3), (5, .int p4), (6, .int p5), (7, .int p6)]) hx hb dX9_teller_181 hl (k := 2) rfl rfl (by decide) rfl (fun ls hl => ?_)
                        refine lv_goto (tgt := 85) hx hb dX9_teller_184 (by decide) ?_
                        have F_245 := fne (rfl : (z_241 : Int32).toInt = (z_241 : Int32).toInt) (by decide +kernel : (1 : Int32).toInt = 1) c_242
                        have T_246 : ((v_160 + 1) : Int32).toInt = (v_160 : Int32).toInt + 1 := tadd rfl (rfl : (v_160 : Int32).toInt = (v_160 : Int32).toInt) (by decide +kernel : (1 : Int32).toInt = 1) (by omega) (by omega)
                        exact hnext_161 (0, v_160 + 1) ls (xup c_163) ⟨(show (0 ≤ (((v_160 + 1)) : Int32).toInt) from by have hl0_ : (0 : Int32).toInt = 0 := (by decide +kernel); have hq0_ : (0 : Int32).toInt = 0 := (by decide +kernel); omega), (lv_sub hl [0, 1, 3, 4, 5, 6, 7, 8, 9, 10, 11, 12, 13, 14, 15] rfl)⟩
                      · refine lv_iconst (v := 1) hx hb dX9_teller_174 (by decide) ?_
                        refine lv_goto (tgt := 179) hx hb dX9_teller_175 (by decide) ?_
                        refine lv_istore (lv' := [(13, .int 1), (15, .int v_160), (14, .int v_160), (9, .int v_6), (12, .int v_6), (11, .int v_6), (10, .int v_5), (8, .int z_3), (0, .ref h0), (1, .int p0), (2, .int p1), (3, .int p2), (4, .int p3), (5, .int p4), (6, .int p5), (7, .int p6)]) hx hb dX9_teller_179 hl (by decide) rfl (fun ls hl => ?_)
                        refine lv_iinc (v := v_160 + 1) (lv' := [(14, .int (v_160 + 1)), (13, .int 1), (15, .int v_160), (9, .int v_6), (12, .int v_6), (11, .int v_6), (10, .int v_5), (8, .int z_3), (0, .ref h0), (1, .int p0), (2, .int p1), (3, .int p2), (4, .int p3), (5, .int p4), (6, .int p5), (7, .int p6)]) hx hb dX9_teller_181 hl (k := 2) rfl rfl (by decide) rfl (fun ls hl => ?_)
                        refine lv_goto (tgt := 85) hx hb dX9_teller_184 (by decide) ?_
                        have F_249 := feq (rfl : (z_241 : Int32).toInt = (z_241 : Int32).toInt) (by decide +kernel : (1 : Int32).toInt = 1) c_242
                        have T_250 : ((v_160 + 1) : Int32).toInt = (v_160 : Int32).toInt + 1 := tadd rfl (rfl : (v_160 : Int32).toInt = (v_160 : Int32).toInt) (by decide +kernel : (1 : Int32).toInt = 1) (by omega) (by omega)
                        exact hnext_161 (1, v_160 + 1) ls (xup c_163) ⟨(show (0 ≤ (((v_160 + 1)) : Int32).toInt) from by have hl0_ : (1 : Int32).toInt = 1 := (by decide +kernel); have hq0_ : (0 : Int32).toInt = 0 := (by decide +kernel); omega), (lv_sub hl [0, 1, 3, 4, 5, 6, 7, 8, 9, 10, 11, 12, 13, 14, 15] rfl)⟩
                · refine lv_iload hx hb dX9_teller_115 (lv_at hl 13 rfl) ?_
                  refine lv_goto (tgt := 122) hx hb dX9_teller_117 (by decide) ?_
                  refine lv_istore (lv' := [(15, .int p5), (14, .int v_160), (13, .int v_159), (9, .int v_6), (12, .int v_6), (11, .int v_6), (10, .int v_5), (8, .int z_3), (0, .ref h0), (1, .int p0), (2, .int p1), (3, .int p2), (4, .int p3), (5, .int p4), (6, .int p5), (7, .int p6)]) hx hb dX9_teller_122 hl (by decide) rfl (fun ls hl => ?_)
                  refine lv_iload hx hb dX9_teller_124 (lv_at hl 1 rfl) ?_
                  refine lv_iload hx hb dX9_teller_126 (lv_at hl 5 rfl) ?_
                  refine lv_icmp_eq (tgt := 178) hx hb dX9_teller_128 (by decide) (fun c_251 => ?_) (fun c_251 => ?_)
                  · refine lv_iconst (v := 0) hx hb dX9_teller_178 (by decide) ?_
                    refine lv_istore (lv' := [(13, .int 0), (15, .int p5), (14, .int v_160), (9, .int v_6), (12, .int v_6), (11, .int v_6), (10, .int v_5), (8, .int z_3), (0, .ref h0), (1, .int p0), (2, .int p1), (3, .int p2), (4, .int p3), (5, .int p4), (6, .int p5), (7, .int p6)]) hx hb dX9_teller_179 hl (by decide) rfl (fun ls hl => ?_)
                    refine lv_iinc (v := v_160 + 1) (lv' := [(14, .int (v_160 + 1)), (13, .int 0), (15, .int p5), (9, .int v_6), (12, .int v_6), (11, .int v_6), (10, .int v_5), (8, .int z_3), (0, .ref h0), (1, .int p0), (2, .int p1), (3, .int p2), (4, .int p3), (5, .int p4), (6, .int p5), (7, .int p6)]) hx hb dX9_teller_181 hl (k := 2) rfl rfl (by decide) rfl (fun ls hl => ?_)
                    refine lv_goto (tgt := 85) hx hb dX9_teller_184 (by decide) ?_
                    have F_253 := feq (rfl : (r_182 : Int32).toInt = (r_182 : Int32).toInt) (rfl : (p6 : Int32).toInt = (p6 : Int32).toInt) c_183
                    have F_254 := feq (rfl : (v_160 : Int32).toInt = (v_160 : Int32).toInt) (rfl : (p4 : Int32).toInt = (p4 : Int32).toInt) c_216
                    have F_255 := feq (rfl : (v_160 : Int32).toInt = (v_160 : Int32).toInt) (rfl : (v_6 : Int32).toInt = (v_6 : Int32).toInt) c_251
                    have T_256 : ((v_160 + 1) : Int32).toInt = (v_160 : Int32).toInt + 1 := tadd rfl (rfl : (v_160 : Int32).toInt = (v_160 : Int32).toInt) (by decide +kernel : (1 : Int32).toInt = 1) (by omega) (by omega)
                    exact hnext_161 (0, v_160 + 1) ls (xup c_163) ⟨(show (0 ≤ (((v_160 + 1)) : Int32).toInt) from by have hl0_ : (0 : Int32).toInt = 0 := (by decide +kernel); have hq0_ : (0 : Int32).toInt = 0 := (by decide +kernel); omega), (lv_sub hl [0, 1, 3, 4, 5, 6, 7, 8, 9, 10, 11, 12, 13, 14, 15] rfl)⟩
                  · refine lv_aload_n hx hb dX9_teller_131 rfl (lv_at hl 8 rfl) ?_
                    refine lv_iload hx hb dX9_teller_132 (lv_at hl 7 rfl) ?_
                    refine lv_iload hx hb dX9_teller_134 (lv_at hl 0 rfl) ?_
                    refine lv_iload_n hx hb dX9_teller_136 rfl (lv_at hl 9 rfl) ?_
                    refine lv_iload_n hx hb dX9_teller_137 rfl (lv_at hl 10 rfl) ?_
                    refine lv_iload_n hx hb dX9_teller_138 rfl (lv_at hl 11 rfl) ?_
                    refine lv_iload hx hb dX9_teller_139 (lv_at hl 12 rfl) ?_
                    have F_257 := feq (rfl : (r_182 : Int32).toInt = (r_182 : Int32).toInt) (rfl : (p6 : Int32).toInt = (p6 : Int32).toInt) c_183
                    have F_258 := feq (rfl : (v_160 : Int32).toInt = (v_160 : Int32).toInt) (rfl : (p4 : Int32).toInt = (p4 : Int32).toInt) c_216
                    have F_259 := fne (rfl : (v_160 : Int32).toInt = (v_160 : Int32).toInt) (rfl : (v_6 : Int32).toInt = (v_6 : Int32).toInt) c_251
                    refine yVri (As := [.int z_3, .int p5, .int p0, .int p1, .int p2, .int p3]) (rest := []) C0 (g_X9_isAsked l G S d h0 z_3 p5 p0 p1 p2 p3 hSh hm_h0 hk_h0 hI (by refine ⟨?_, ?_⟩ <;> omega) (by refine ⟨?_, ?_⟩ <;> omega) (by refine ⟨?_, ?_⟩ <;> omega) (by refine ⟨?_, ?_⟩ <;> omega)) ok_X9_isAsked (mW893 : Cond.methodLink RX9 239 yX9_isAsked ∈ wsT) ⟨Nat.le_of_ble_eq_true rfl, Nat.le_of_ble_eq_true rfl⟩ hP hD hK hN hm_h0 hk_h0 (by decide) rfl rfl rfl hl.1 rfl (Nat.le_of_ble_eq_true rfl) ⟨Nat.le_of_ble_eq_true rfl, Nat.le_of_ble_eq_true rfl⟩ dX9_teller_141 (fun r_260 hr_260 => ?_)
                    refine lv_if_eq (tgt := 178) hx hb dX9_teller_144 (by decide) (fun c_261 => ?_) (fun c_261 => ?_)
                    · refine lv_iconst (v := 0) hx hb dX9_teller_178 (by decide) ?_
                      refine lv_istore (lv' := [(13, .int 0), (15, .int p5), (14, .int v_160), (9, .int v_6), (12, .int v_6), (11, .int v_6), (10, .int v_5), (8, .int z_3), (0, .ref h0), (1, .int p0), (2, .int p1), (3, .int p2), (4, .int p3), (5, .int p4), (6, .int p5), (7, .int p6)]) hx hb dX9_teller_179 hl (by decide) rfl (fun ls hl => ?_)
                      refine lv_iinc (v := v_160 + 1) (lv' := [(14, .int (v_160 + 1)), (13, .int 0), (15, .int p5), (9, .int v_6), (12, .int v_6), (11, .int v_6), (10, .int v_5), (8, .int z_3), (0, .ref h0), (1, .int p0), (2, .int p1), (3, .int p2), (4, .int p3), (5, .int p4), (6, .int p5), (7, .int p6)]) hx hb dX9_teller_181 hl (k := 2) rfl rfl (by decide) rfl (fun ls hl => ?_)
                      refine lv_goto (tgt := 85) hx hb dX9_teller_184 (by decide) ?_
                      have F_263 := feq (rfl : (r_260 : Int32).toInt = (r_260 : Int32).toInt) (by decide +kernel : (0 : Int32).toInt = 0) c_261
                      have T_264 : ((v_160 + 1) : Int32).toInt = (v_160 : Int32).toInt + 1 := tadd rfl (rfl : (v_160 : Int32).toInt = (v_160 : Int32).toInt) (by decide +kernel : (1 : Int32).toInt = 1) (by omega) (by omega)
                      exact hnext_161 (0, v_160 + 1) ls (xup c_163) ⟨(show (0 ≤ (((v_160 + 1)) : Int32).toInt) from by have hl0_ : (0 : Int32).toInt = 0 := (by decide +kernel); have hq0_ : (0 : Int32).toInt = 0 := (by decide +kernel); omega), (lv_sub hl [0, 1, 3, 4, 5, 6, 7, 8, 9, 10, 11, 12, 13, 14, 15] rfl)⟩
                    · refine lv_aload_n hx hb dX9_teller_147 rfl (lv_at hl 8 rfl) ?_
                      refine yget (ci := 9) (k := 9) (v := .ref (S.2.2.1 h0 9)) (C := RX9) (T := TX9) (N := 67) C0 hK hP hm_h0 hk_h0 (by decide) rfl inlX9 (by decide) mW113 (fun _ h9 => h9) rfl dX9_teller_148 ?_
                      obtain ⟨hmy_265, hky_265⟩ := ySh.f9_9 hSh _ hm_h0 hk_h0
                      refine lv_iload hx hb dX9_teller_151 (lv_at hl 7 rfl) ?_
                      refine lv_iload hx hb dX9_teller_153 (lv_at hl 4 rfl) ?_
                      refine lv_iadd hx hb dX9_teller_155 ?_
                      refine lv_topi (fun z_266 ez_266 => ?_)
                      have F_267 := fne (rfl : (r_260 : Int32).toInt = (r_260 : Int32).toInt) (by decide +kernel : (0 : Int32).toInt = 0) c_261
                      have T_268 : (z_266 : Int32).toInt = (z_3 : Int32).toInt + (v_6 : Int32).toInt := tadd ez_266 (rfl : (z_3 : Int32).toInt = (z_3 : Int32).toInt) (rfl : (v_6 : Int32).toInt = (v_6 : Int32).toInt) (by omega) (by omega)
                      refine yaldB C0 hK hP hmy_265 hky_265 (by decide) rfl 1 rfl (xinT 2400 rfl (by omega) (by omega)) dX9_teller_156 ?_
                      refine lv_topi (fun z_269 ez_269 => ?_)
                      refine lv_aload_n hx hb dX9_teller_157 rfl (lv_at hl 8 rfl) ?_
                      refine yget (ci := 9) (k := 5) (v := .ref (S.2.2.1 h0 5)) (C := RX9) (T := TX9) (N := 67) C0 hK hP hm_h0 hk_h0 (by decide) rfl inlX9 (by decide) mW109 (fun _ h9 => h9) rfl dX9_teller_158 ?_
                      obtain ⟨hmy_270, hky_270⟩ := ySh.f9_5 hSh _ hm_h0 hk_h0
                      refine lv_iload hx hb dX9_teller_161 (lv_at hl 7 rfl) ?_
                      refine lv_iload hx hb dX9_teller_163 (lv_at hl 0 rfl) ?_
                      refine lv_iadd hx hb dX9_teller_165 ?_
                      refine lv_topi (fun z_271 ez_271 => ?_)
                      have T_272 : (z_271 : Int32).toInt = (z_3 : Int32).toInt + (p5 : Int32).toInt := tadd ez_271 (rfl : (z_3 : Int32).toInt = (z_3 : Int32).toInt) (rfl : (p5 : Int32).toInt = (p5 : Int32).toInt) (by omega) (by omega)
                      refine yaldB C0 hK hP hmy_270 hky_270 (by decide) rfl 1 rfl (xinT 2400 rfl (by omega) (by omega)) dX9_teller_166 ?_
                      refine lv_topi (fun z_273 ez_273 => ?_)
                      refine lv_ishr hx hb dX9_teller_167 ?_
                      refine lv_topi (fun z_274 ez_274 => ?_)
                      refine lv_iconst (v := 1) hx hb dX9_teller_168 (by decide) ?_
                      refine lv_iand hx hb dX9_teller_169 ?_
                      refine lv_topi (fun z_275 ez_275 => ?_)
                      refine lv_iconst (v := 1) hx hb dX9_teller_170 (by decide) ?_
                      refine lv_icmp_ne (tgt := 178) hx hb dX9_teller_171 (by decide) (fun c_276 => ?_) (fun c_276 => ?_)
                      · refine lv_iconst (v := 0) hx hb dX9_teller_178 (by decide) ?_
                        refine lv_istore (lv' := [(13, .int 0), (15, .int p5), (14, .int v_160), (9, .int v_6), (12, .int v_6), (11, .int v_6), (10, .int v_5), (8, .int z_3), (0, .ref h0), (1, .int p0), (2, .int p1), (3, .int p2), (4, .int p3), (5, .int p4), (6, .int p5), (7, .int p6)]) hx hb dX9_teller_179 hl (by decide) rfl (fun ls hl => ?_)
                        refine lv_iinc (v := v_160 + 1) (lv' := [(14, .int (v_160 + 1)), (13, .int 0), (15, .int p5), (9, .int v_6), (12, .int v_6), (11, .int v_6), (10, .int v_5), (8, .int z_3), (0, .ref h0), (1, .int p0), (2, .int p1), (3, .int p2), (4, .int p3), (5, .int p4), (6, .int p5), (7, .int p6)]) hx hb dX9_teller_181 hl (k := 2) rfl rfl (by decide) rfl (fun ls hl => ?_)
                        refine lv_goto (tgt := 85) hx hb dX9_teller_184 (by decide) ?_
                        have F_279 := fne (rfl : (z_275 : Int32).toInt = (z_275 : Int32).toInt) (by decide +kernel : (1 : Int32).toInt = 1) c_276
                        have T_280 : ((v_160 + 1) : Int32).toInt = (v_160 : Int32).toInt + 1 := tadd rfl (rfl : (v_160 : Int32).toInt = (v_160 : Int32).toInt) (by decide +kernel : (1 : Int32).toInt = 1) (by omega) (by omega)
                        exact hnext_161 (0, v_160 + 1) ls (xup c_163) ⟨(show (0 ≤ (((v_160 + 1)) : Int32).toInt) from by have hl0_ : (0 : Int32).toInt = 0 := (by decide +kernel); have hq0_ : (0 : Int32).toInt = 0 := (by decide +kernel); omega), (lv_sub hl [0, 1, 3, 4, 5, 6, 7, 8, 9, 10, 11, 12, 13, 14, 15] rfl)⟩
                      · refine lv_iconst (v := 1) hx hb dX9_teller_174 (by decide) ?_
                        refine lv_goto (tgt := 179) hx hb dX9_teller_175 (by decide) ?_
                        refine lv_istore (lv' := [(13, .int 1), (15, .int p5), (14, .int v_160), (9, .int v_6), (12, .int v_6), (11, .int v_6), (10, .int v_5), (8, .int z_3), (0, .ref h0), (1, .int p0), (2, .int p1), (3, .int p2), (4, .int p3), (5, .int p4), (6, .int p5), (7, .int p6)]) hx hb dX9_teller_179 hl (by decide) rfl (fun ls hl => ?_)
                        refine lv_iinc (v := v_160 + 1) (lv' := [(14, .int (v_160 + 1)), (13, .int 1), (15, .int p5), (9, .int v_6), (12, .int v_6), (11, .int v_6), (10, .int v_5), (8, .int z_3), (0, .ref h0), (1, .int p0), (2, .int p1), (3, .int p2), (4, .int p3), (5, .int p4), (6, .int p5), (7, .int p6)]) hx hb dX9_teller_181 hl (k := 2) rfl rfl (by decide) rfl (fun ls hl => ?_)
                        refine lv_goto (tgt := 85) hx hb dX9_teller_184 (by decide) ?_
                        have F_283 := feq (rfl : (z_275 : Int32).toInt = (z_275 : Int32).toInt) (by decide +kernel : (1 : Int32).toInt = 1) c_276
                        have T_284 : ((v_160 + 1) : Int32).toInt = (v_160 : Int32).toInt + 1 := tadd rfl (rfl : (v_160 : Int32).toInt = (v_160 : Int32).toInt) (by decide +kernel : (1 : Int32).toInt = 1) (by omega) (by omega)
                        exact hnext_161 (1, v_160 + 1) ls (xup c_163) ⟨(show (0 ≤ (((v_160 + 1)) : Int32).toInt) from by have hl0_ : (1 : Int32).toInt = 1 := (by decide +kernel); have hq0_ : (0 : Int32).toInt = 0 := (by decide +kernel); omega), (lv_sub hl [0, 1, 3, 4, 5, 6, 7, 8, 9, 10, 11, 12, 13, 14, 15] rfl)⟩
        · refine lv_goto (tgt := 196) hx hb dX9_teller_72 (by decide) ?_
          refine lv_iinc (v := v_6 + 1) (lv' := [(11, .int (v_6 + 1)), (12, .int v_6), (10, .int v_5), (9, .int v_4), (8, .int z_3), (0, .ref h0), (1, .int p0), (2, .int p1), (3, .int p2), (4, .int p3), (5, .int p4), (6, .int p5), (7, .int p6)]) hx hb dX9_teller_196 hl (k := 1) rfl rfl (by decide) rfl (fun ls hl => ?_)
          refine lv_goto (tgt := 22) hx hb dX9_teller_199 (by decide) ?_
          have F_286 := feq (rfl : (r_156 : Int32).toInt = (r_156 : Int32).toInt) (by decide +kernel : (0 : Int32).toInt = 0) c_157
          have T_287 : ((v_6 + 1) : Int32).toInt = (v_6 : Int32).toInt + 1 := tadd rfl (rfl : (v_6 : Int32).toInt = (v_6 : Int32).toInt) (by decide +kernel : (1 : Int32).toInt = 1) (by omega) (by omega)
          exact hnext_7 (v_4, v_5, v_6 + 1) ls (xup c_9) ⟨(show ((((v_4) : Int32).toInt = -2 ∨ 0 ≤ ((v_4) : Int32).toInt) ∧ ((v_4) : Int32).toInt ≤ 59 ∧ (0 ≤ ((v_4) : Int32).toInt → ((v_4) : Int32).toInt = p4.toInt → yOf S d h0 p0.toInt.toNat 1 = p6.toInt → 0 ≤ p5.toInt) ∧ (((v_5) : Int32).toInt = -2 ∨ 0 ≤ ((v_5) : Int32).toInt) ∧ ((v_5) : Int32).toInt ≤ 59 ∧ (0 ≤ ((v_5) : Int32).toInt → ((v_5) : Int32).toInt = p4.toInt → yOf S d h0 p0.toInt.toNat 1 = p6.toInt → 0 ≤ p5.toInt) ∧ 0 ≤ (((v_6 + 1)) : Int32).toInt) from by have hq0_ : (0 : Int32).toInt = 0 := (by decide +kernel); omega), (lv_sub hl [0, 2, 3, 4, 5, 6, 7, 8, 9, 10, 11, 12] rfl)⟩
      · refine lv_iload hx hb dX9_teller_47 (lv_at hl 10 rfl) ?_
        refine lv_goto (tgt := 54) hx hb dX9_teller_49 (by decide) ?_
        refine lv_istore (lv' := [(12, .int p5), (11, .int v_6), (10, .int v_5), (9, .int v_4), (8, .int z_3), (0, .ref h0), (1, .int p0), (2, .int p1), (3, .int p2), (4, .int p3), (5, .int p4), (6, .int p5), (7, .int p6)]) hx hb dX9_teller_54 hl (by decide) rfl (fun ls hl => ?_)
        refine lv_aload_n hx hb dX9_teller_56 rfl (lv_at hl 5 rfl) ?_
        refine lv_iload hx hb dX9_teller_57 (lv_at hl 4 rfl) ?_
        refine lv_iload hx hb dX9_teller_59 (lv_at hl 0 rfl) ?_
        refine lv_iload_n hx hb dX9_teller_61 rfl (lv_at hl 6 rfl) ?_
        refine lv_iload_n hx hb dX9_teller_62 rfl (lv_at hl 7 rfl) ?_
        refine lv_iload_n hx hb dX9_teller_63 rfl (lv_at hl 8 rfl) ?_
        refine lv_iload hx hb dX9_teller_64 (lv_at hl 9 rfl) ?_
        have F_288 := feq (rfl : (r_16 : Int32).toInt = (r_16 : Int32).toInt) (rfl : (p6 : Int32).toInt = (p6 : Int32).toInt) c_17
        have F_289 := feq (rfl : (v_6 : Int32).toInt = (v_6 : Int32).toInt) (rfl : (p4 : Int32).toInt = (p4 : Int32).toInt) c_152
        have T_290 : (z_3 : Int32).toInt = 60 * (r_1 : Int32).toInt := tmul ez_3 (by decide +kernel : (60 : Int32).toInt = 60) (rfl : (r_1 : Int32).toInt = (r_1 : Int32).toInt) (by omega) (by omega)
        refine yVri (As := [.int z_3, .int p5, .int p0, .int p1, .int p2, .int p3]) (rest := []) C0 (g_X9_isAsked l G S d h0 z_3 p5 p0 p1 p2 p3 hSh hm_h0 hk_h0 hI (by refine ⟨?_, ?_⟩ <;> omega) (by refine ⟨?_, ?_⟩ <;> omega) (by refine ⟨?_, ?_⟩ <;> omega) (by refine ⟨?_, ?_⟩ <;> omega)) ok_X9_isAsked (mW893 : Cond.methodLink RX9 239 yX9_isAsked ∈ wsT) ⟨Nat.le_of_ble_eq_true rfl, Nat.le_of_ble_eq_true rfl⟩ hP hD hK hN hm_h0 hk_h0 (by decide) rfl rfl rfl hl.1 rfl (Nat.le_of_ble_eq_true rfl) ⟨Nat.le_of_ble_eq_true rfl, Nat.le_of_ble_eq_true rfl⟩ dX9_teller_66 (fun r_291 hr_291 => ?_)
        refine lv_if_ne (tgt := 75) hx hb dX9_teller_69 (by decide) (fun c_292 => ?_) (fun c_292 => ?_)
        · refine lv_iload hx hb dX9_teller_75 (lv_at hl 1 rfl) ?_
          refine lv_istore (lv' := [(9, .int v_6), (12, .int p5), (11, .int v_6), (10, .int v_5), (8, .int z_3), (0, .ref h0), (1, .int p0), (2, .int p1), (3, .int p2), (4, .int p3), (5, .int p4), (6, .int p5), (7, .int p6)]) hx hb dX9_teller_77 hl (by decide) rfl (fun ls hl => ?_)
          refine lv_iconst (v := 0) hx hb dX9_teller_79 (by decide) ?_
          refine lv_istore (lv' := [(13, .int 0), (9, .int v_6), (12, .int p5), (11, .int v_6), (10, .int v_5), (8, .int z_3), (0, .ref h0), (1, .int p0), (2, .int p1), (3, .int p2), (4, .int p3), (5, .int p4), (6, .int p5), (7, .int p6)]) hx hb dX9_teller_80 hl (by decide) rfl (fun ls hl => ?_)
          refine lv_iconst (v := 0) hx hb dX9_teller_82 (by decide) ?_
          refine lv_istore (lv' := [(14, .int 0), (13, .int 0), (9, .int v_6), (12, .int p5), (11, .int v_6), (10, .int v_5), (8, .int z_3), (0, .ref h0), (1, .int p0), (2, .int p1), (3, .int p2), (4, .int p3), (5, .int p4), (6, .int p5), (7, .int p6)]) hx hb dX9_teller_83 hl (by decide) rfl (fun ls hl => ?_)
          have F_293 := fne (rfl : (r_291 : Int32).toInt = (r_291 : Int32).toInt) (by decide +kernel : (0 : Int32).toInt = 0) c_292
          refine yloopR (σ := Int32 × Int32) (fun x => (2147483647 - (x.2 : Int32).toInt).toNat) 85 (fun x ls => (0 ≤ ((x.2) : Int32).toInt) ∧ lv_has ls 16 [(14, .int x.2), (13, .int x.1), (9, .int v_6), (12, .int p5), (11, .int v_6), (10, .int v_5), (8, .int z_3), (0, .ref h0), (1, .int p0), (2, .int p1), (3, .int p2), (4, .int p3), (5, .int p4), (6, .int p5), (7, .int p6)]) (fun x ls hl hnext_296 => ?_) (0, 0) ⟨(show (0 ≤ ((0) : Int32).toInt) from by have hl0_ : (0 : Int32).toInt = 0 := (by decide +kernel); have hl1_ : (0 : Int32).toInt = 0 := (by decide +kernel); have hq0_ : (0 : Int32).toInt = 0 := (by decide +kernel); omega), lv_sub hl [0, 1, 2, 3, 4, 5, 6, 7, 8, 9, 10, 11, 12, 13, 14] rfl⟩
          obtain ⟨v_294, v_295⟩ := x
          obtain ⟨hex_297, hl⟩ := hl
          have hex_297 : (0 ≤ ((v_295) : Int32).toInt) := hex_297
          have hl : lv_has ls 16 [(14, .int v_295), (13, .int v_294), (9, .int v_6), (12, .int p5), (11, .int v_6), (10, .int v_5), (8, .int z_3), (0, .ref h0), (1, .int p0), (2, .int p1), (3, .int p2), (4, .int p3), (5, .int p4), (6, .int p5), (7, .int p6)] := hl
          refine lv_iload hx hb dX9_teller_85 (lv_at hl 0 rfl) ?_
          refine lv_bipush (v := 60) hx hb dX9_teller_87 (by decide) ?_
          refine lv_icmp_ge (tgt := 187) hx hb dX9_teller_89 (by decide) (fun c_298 => ?_) (fun c_298 => ?_)
          · refine lv_iload hx hb dX9_teller_187 (lv_at hl 1 rfl) ?_
            refine lv_if_ne (tgt := 196) hx hb dX9_teller_189 (by decide) (fun c_299 => ?_) (fun c_299 => ?_)
            · refine lv_iinc (v := v_6 + 1) (lv' := [(11, .int (v_6 + 1)), (14, .int v_295), (13, .int v_294), (9, .int v_6), (12, .int p5), (10, .int v_5), (8, .int z_3), (0, .ref h0), (1, .int p0), (2, .int p1), (3, .int p2), (4, .int p3), (5, .int p4), (6, .int p5), (7, .int p6)]) hx hb dX9_teller_196 hl (k := 4) rfl rfl (by decide) rfl (fun ls hl => ?_)
              refine lv_goto (tgt := 22) hx hb dX9_teller_199 (by decide) ?_
              have F_301 := fle (by decide +kernel : (60 : Int32).toInt = 60) (rfl : (v_295 : Int32).toInt = (v_295 : Int32).toInt) c_298
              have F_302 := fne (rfl : (v_294 : Int32).toInt = (v_294 : Int32).toInt) (by decide +kernel : (0 : Int32).toInt = 0) c_299
              have T_303 : ((v_6 + 1) : Int32).toInt = (v_6 : Int32).toInt + 1 := tadd rfl (rfl : (v_6 : Int32).toInt = (v_6 : Int32).toInt) (by decide +kernel : (1 : Int32).toInt = 1) (by omega) (by omega)
              exact hnext_7 (v_6, v_5, v_6 + 1) ls (xup c_9) ⟨(show ((((v_6) : Int32).toInt = -2 ∨ 0 ≤ ((v_6) : Int32).toInt) ∧ ((v_6) : Int32).toInt ≤ 59 ∧ (0 ≤ ((v_6) : Int32).toInt → ((v_6) : Int32).toInt = p4.toInt → yOf S d h0 p0.toInt.toNat 1 = p6.toInt → 0 ≤ p5.toInt) ∧ (((v_5) : Int32).toInt = -2 ∨ 0 ≤ ((v_5) : Int32).toInt) ∧ ((v_5) : Int32).toInt ≤ 59 ∧ (0 ≤ ((v_5) : Int32).toInt → ((v_5) : Int32).toInt = p4.toInt → yOf S d h0 p0.toInt.toNat 1 = p6.toInt → 0 ≤ p5.toInt) ∧ 0 ≤ (((v_6 + 1)) : Int32).toInt) from by have hq0_ : (0 : Int32).toInt = 0 := (by decide +kernel); omega), (lv_sub hl [0, 5, 3, 6, 7, 8, 9, 10, 11, 12, 13, 14] rfl)⟩
            · refine lv_iload hx hb dX9_teller_192 (lv_at hl 4 rfl) ?_
              refine lv_istore (lv' := [(10, .int v_6), (14, .int v_295), (13, .int v_294), (9, .int v_6), (12, .int p5), (11, .int v_6), (8, .int z_3), (0, .ref h0), (1, .int p0), (2, .int p1), (3, .int p2), (4, .int p3), (5, .int p4), (6, .int p5), (7, .int p6)]) hx hb dX9_teller_194 hl (by decide) rfl (fun ls hl => ?_)
              refine lv_iinc (v := v_6 + 1) (lv' := [(11, .int (v_6 + 1)), (10, .int v_6), (14, .int v_295), (13, .int v_294), (9, .int v_6), (12, .int p5), (8, .int z_3), (0, .ref h0), (1, .int p0), (2, .int p1), (3, .int p2), (4, .int p3), (5, .int p4), (6, .int p5), (7, .int p6)]) hx hb dX9_teller_196 hl (k := 5) rfl rfl (by decide) rfl (fun ls hl => ?_)
              refine lv_goto (tgt := 22) hx hb dX9_teller_199 (by decide) ?_
              have F_305 := fle (by decide +kernel : (60 : Int32).toInt = 60) (rfl : (v_295 : Int32).toInt = (v_295 : Int32).toInt) c_298
              have F_306 := feq (rfl : (v_294 : Int32).toInt = (v_294 : Int32).toInt) (by decide +kernel : (0 : Int32).toInt = 0) c_299
              have T_307 : ((v_6 + 1) : Int32).toInt = (v_6 : Int32).toInt + 1 := tadd rfl (rfl : (v_6 : Int32).toInt = (v_6 : Int32).toInt) (by decide +kernel : (1 : Int32).toInt = 1) (by omega) (by omega)
              exact hnext_7 (v_6, v_6, v_6 + 1) ls (xup c_9) ⟨(show ((((v_6) : Int32).toInt = -2 ∨ 0 ≤ ((v_6) : Int32).toInt) ∧ ((v_6) : Int32).toInt ≤ 59 ∧ (0 ≤ ((v_6) : Int32).toInt → ((v_6) : Int32).toInt = p4.toInt → yOf S d h0 p0.toInt.toNat 1 = p6.toInt → 0 ≤ p5.toInt) ∧ (((v_6) : Int32).toInt = -2 ∨ 0 ≤ ((v_6) : Int32).toInt) ∧ ((v_6) : Int32).toInt ≤ 59 ∧ (0 ≤ ((v_6) : Int32).toInt → ((v_6) : Int32).toInt = p4.toInt → yOf S d h0 p0.toInt.toNat 1 = p6.toInt → 0 ≤ p5.toInt) ∧ 0 ≤ (((v_6 + 1)) : Int32).toInt) from by have hq0_ : (0 : Int32).toInt = 0 := (by decide +kernel); omega), (lv_sub hl [0, 1, 4, 6, 7, 8, 9, 10, 11, 12, 13, 14] rfl)⟩
          · refine lv_iload hx hb dX9_teller_92 (lv_at hl 1 rfl) ?_
            refine lv_if_ne (tgt := 187) hx hb dX9_teller_94 (by decide) (fun c_308 => ?_) (fun c_308 => ?_)
            · refine lv_iload hx hb dX9_teller_187 (lv_at hl 1 rfl) ?_
              refine lv_if_ne (tgt := 196) hx hb dX9_teller_189 (by decide) (fun c_309 => ?_) (fun c_309 => absurd c_309 c_308)
              refine lv_iinc (v := v_6 + 1) (lv' := [(11, .int (v_6 + 1)), (14, .int v_295), (13, .int v_294), (9, .int v_6), (12, .int p5), (10, .int v_5), (8, .int z_3), (0, .ref h0), (1, .int p0), (2, .int p1), (3, .int p2), (4, .int p3), (5, .int p4), (6, .int p5), (7, .int p6)]) hx hb dX9_teller_196 hl (k := 4) rfl rfl (by decide) rfl (fun ls hl => ?_)
              refine lv_goto (tgt := 22) hx hb dX9_teller_199 (by decide) ?_
              have F_311 := fnle (by decide +kernel : (60 : Int32).toInt = 60) (rfl : (v_295 : Int32).toInt = (v_295 : Int32).toInt) c_298
              have F_312 := fne (rfl : (v_294 : Int32).toInt = (v_294 : Int32).toInt) (by decide +kernel : (0 : Int32).toInt = 0) c_308
              have F_313 := fne (rfl : (v_294 : Int32).toInt = (v_294 : Int32).toInt) (by decide +kernel : (0 : Int32).toInt = 0) c_309
              have T_314 : ((v_6 + 1) : Int32).toInt = (v_6 : Int32).toInt + 1 := tadd rfl (rfl : (v_6 : Int32).toInt = (v_6 : Int32).toInt) (by decide +kernel : (1 : Int32).toInt = 1) (by omega) (by omega)
              exact hnext_7 (v_6, v_5, v_6 + 1) ls (xup c_9) ⟨(show ((((v_6) : Int32).toInt = -2 ∨ 0 ≤ ((v_6) : Int32).toInt) ∧ ((v_6) : Int32).toInt ≤ 59 ∧ (0 ≤ ((v_6) : Int32).toInt → ((v_6) : Int32).toInt = p4.toInt → yOf S d h0 p0.toInt.toNat 1 = p6.toInt → 0 ≤ p5.toInt) ∧ (((v_5) : Int32).toInt = -2 ∨ 0 ≤ ((v_5) : Int32).toInt) ∧ ((v_5) : Int32).toInt ≤ 59 ∧ (0 ≤ ((v_5) : Int32).toInt → ((v_5) : Int32).toInt = p4.toInt → yOf S d h0 p0.toInt.toNat 1 = p6.toInt → 0 ≤ p5.toInt) ∧ 0 ≤ (((v_6 + 1)) : Int32).toInt) from by have hq0_ : (0 : Int32).toInt = 0 := (by decide +kernel); omega), (lv_sub hl [0, 5, 3, 6, 7, 8, 9, 10, 11, 12, 13, 14] rfl)⟩
            · refine lv_aload_n hx hb dX9_teller_97 rfl (lv_at hl 7 rfl) ?_
              refine lv_iload_n hx hb dX9_teller_98 rfl (lv_at hl 8 rfl) ?_
              refine lv_iconst (v := 1) hx hb dX9_teller_99 (by decide) ?_
              have F_315 := fnle (by decide +kernel : (60 : Int32).toInt = 60) (rfl : (v_295 : Int32).toInt = (v_295 : Int32).toInt) c_298
              have F_316 := feq (rfl : (v_294 : Int32).toInt = (v_294 : Int32).toInt) (by decide +kernel : (0 : Int32).toInt = 0) c_308
              refine yVri (As := [.int p0, .int 1]) (rest := []) C0 (g_X9_of l G S d h0 p0 1 hSh hm_h0 hk_h0 (by refine ⟨?_, ?_⟩ <;> omega) (by decide +kernel)) ok_X9_of (mW425 : Cond.methodLink RX9 161 yX9_of ∈ wsT) ⟨Nat.le_of_ble_eq_true rfl, Nat.le_of_ble_eq_true rfl⟩ hP hD hK hN hm_h0 hk_h0 (by decide) rfl rfl rfl hl.1 rfl (Nat.le_of_ble_eq_true rfl) ⟨Nat.le_of_ble_eq_true rfl, Nat.le_of_ble_eq_true rfl⟩ dX9_teller_100 (fun r_317 hr_317 => ?_)
              have hOr_317 : (r_317 : Int32).toInt = yOf S d h0 (p0 : Int32).toInt.toNat 1 := by rw [hr_317, show (1 : Int32).toInt.toNat = 1 by decide +kernel]; rfl
              have hbr_317 := xof1 hI (p := p0) (by refine ⟨?_, ?_⟩ <;> omega) hr_317
              refine lv_iload hx hb dX9_teller_103 (lv_at hl 14 rfl) ?_
              refine lv_icmp_ne (tgt := 120) hx hb dX9_teller_105 (by decide) (fun c_318 => ?_) (fun c_318 => ?_)
              · refine lv_iload hx hb dX9_teller_120 (lv_at hl 0 rfl) ?_
                refine lv_istore (lv' := [(15, .int v_295), (14, .int v_295), (13, .int v_294), (9, .int v_6), (12, .int p5), (11, .int v_6), (10, .int v_5), (8, .int z_3), (0, .ref h0), (1, .int p0), (2, .int p1), (3, .int p2), (4, .int p3), (5, .int p4), (6, .int p5), (7, .int p6)]) hx hb dX9_teller_122 hl (by decide) rfl (fun ls hl => ?_)
                refine lv_iload hx hb dX9_teller_124 (lv_at hl 1 rfl) ?_
                refine lv_iload hx hb dX9_teller_126 (lv_at hl 5 rfl) ?_
                refine lv_icmp_eq (tgt := 178) hx hb dX9_teller_128 (by decide) (fun c_319 => ?_) (fun c_319 => ?_)
                · refine lv_iconst (v := 0) hx hb dX9_teller_178 (by decide) ?_
                  refine lv_istore (lv' := [(13, .int 0), (15, .int v_295), (14, .int v_295), (9, .int v_6), (12, .int p5), (11, .int v_6), (10, .int v_5), (8, .int z_3), (0, .ref h0), (1, .int p0), (2, .int p1), (3, .int p2), (4, .int p3), (5, .int p4), (6, .int p5), (7, .int p6)]) hx hb dX9_teller_179 hl (by decide) rfl (fun ls hl => ?_)
                  refine lv_iinc (v := v_295 + 1) (lv' := [(14, .int (v_295 + 1)), (13, .int 0), (15, .int v_295), (9, .int v_6), (12, .int p5), (11, .int v_6), (10, .int v_5), (8, .int z_3), (0, .ref h0), (1, .int p0), (2, .int p1), (3, .int p2), (4, .int p3), (5, .int p4), (6, .int p5), (7, .int p6)]) hx hb dX9_teller_181 hl (k := 2) rfl rfl (by decide) rfl (fun ls hl => ?_)
                  refine lv_goto (tgt := 85) hx hb dX9_teller_184 (by decide) ?_
                  have F_321 := fne (rfl : (r_317 : Int32).toInt = (r_317 : Int32).toInt) (rfl : (p6 : Int32).toInt = (p6 : Int32).toInt) c_318
                  have F_322 := feq (rfl : (v_295 : Int32).toInt = (v_295 : Int32).toInt) (rfl : (v_6 : Int32).toInt = (v_6 : Int32).toInt) c_319
                  have T_323 : ((v_295 + 1) : Int32).toInt = (v_295 : Int32).toInt + 1 := tadd rfl (rfl : (v_295 : Int32).toInt = (v_295 : Int32).toInt) (by decide +kernel : (1 : Int32).toInt = 1) (by omega) (by omega)
                  exact hnext_296 (0, v_295 + 1) ls (xup c_298) ⟨(show (0 ≤ (((v_295 + 1)) : Int32).toInt) from by have hl0_ : (0 : Int32).toInt = 0 := (by decide +kernel); have hq0_ : (0 : Int32).toInt = 0 := (by decide +kernel); omega), (lv_sub hl [0, 1, 3, 4, 5, 6, 7, 8, 9, 10, 11, 12, 13, 14, 15] rfl)⟩
                · refine lv_aload_n hx hb dX9_teller_131 rfl (lv_at hl 8 rfl) ?_
                  refine lv_iload hx hb dX9_teller_132 (lv_at hl 7 rfl) ?_
                  refine lv_iload hx hb dX9_teller_134 (lv_at hl 0 rfl) ?_
                  refine lv_iload_n hx hb dX9_teller_136 rfl (lv_at hl 9 rfl) ?_
                  refine lv_iload_n hx hb dX9_teller_137 rfl (lv_at hl 10 rfl) ?_
                  refine lv_iload_n hx hb dX9_teller_138 rfl (lv_at hl 11 rfl) ?_
                  refine lv_iload hx hb dX9_teller_139 (lv_at hl 12 rfl) ?_
                  have F_324 := fne (rfl : (r_317 : Int32).toInt = (r_317 : Int32).toInt) (rfl : (p6 : Int32).toInt = (p6 : Int32).toInt) c_318
                  have F_325 := fne (rfl : (v_295 : Int32).toInt = (v_295 : Int32).toInt) (rfl : (v_6 : Int32).toInt = (v_6 : Int32).toInt) c_319
                  refine yVri (As := [.int z_3, .int v_295, .int p0, .int p1, .int p2, .int p3]) (rest := []) C0 (g_X9_isAsked l G S d h0 z_3 v_295 p0 p1 p2 p3 hSh hm_h0 hk_h0 hI (by refine ⟨?_, ?_⟩ <;> omega) (by refine ⟨?_, ?_⟩ <;> omega) (by refine ⟨?_, ?_⟩ <;> omega) (by refine ⟨?_, ?_⟩ <;> omega)) ok_X9_isAsked (mW893 : Cond.methodLink RX9 239 yX9_isAsked ∈ wsT) ⟨Nat.le_of_ble_eq_true rfl, Nat.le_of_ble_eq_true rfl⟩ hP hD hK hN hm_h0 hk_h0 (by decide) rfl rfl rfl hl.1 rfl (Nat.le_of_ble_eq_true rfl) ⟨Nat.le_of_ble_eq_true rfl, Nat.le_of_ble_eq_true rfl⟩ dX9_teller_141 (fun r_326 hr_326 => ?_)
                  refine lv_if_eq (tgt := 178) hx hb dX9_teller_144 (by decide) (fun c_327 => ?_) (fun c_327 => ?_)
                  · refine lv_iconst (v := 0) hx hb dX9_teller_178 (by decide) ?_
                    refine lv_istore (lv' := [(13, .int 0), (15, .int v_295), (14, .int v_295), (9, .int v_6), (12, .int p5), (11, .int v_6), (10, .int v_5), (8, .int z_3), (0, .ref h0), (1, .int p0), (2, .int p1), (3, .int p2), (4, .int p3), (5, .int p4), (6, .int p5), (7, .int p6)]) hx hb dX9_teller_179 hl (by decide) rfl (fun ls hl => ?_)
                    refine lv_iinc (v := v_295 + 1) (lv' := [(14, .int (v_295 + 1)), (13, .int 0), (15, .int v_295), (9, .int v_6), (12, .int p5), (11, .int v_6), (10, .int v_5), (8, .int z_3), (0, .ref h0), (1, .int p0), (2, .int p1), (3, .int p2), (4, .int p3), (5, .int p4), (6, .int p5), (7, .int p6)]) hx hb dX9_teller_181 hl (k := 2) rfl rfl (by decide) rfl (fun ls hl => ?_)
                    refine lv_goto (tgt := 85) hx hb dX9_teller_184 (by decide) ?_
                    have F_329 := feq (rfl : (r_326 : Int32).toInt = (r_326 : Int32).toInt) (by decide +kernel : (0 : Int32).toInt = 0) c_327
                    have T_330 : ((v_295 + 1) : Int32).toInt = (v_295 : Int32).toInt + 1 := tadd rfl (rfl : (v_295 : Int32).toInt = (v_295 : Int32).toInt) (by decide +kernel : (1 : Int32).toInt = 1) (by omega) (by omega)
                    exact hnext_296 (0, v_295 + 1) ls (xup c_298) ⟨(show (0 ≤ (((v_295 + 1)) : Int32).toInt) from by have hl0_ : (0 : Int32).toInt = 0 := (by decide +kernel); have hq0_ : (0 : Int32).toInt = 0 := (by decide +kernel); omega), (lv_sub hl [0, 1, 3, 4, 5, 6, 7, 8, 9, 10, 11, 12, 13, 14, 15] rfl)⟩
                  · refine lv_aload_n hx hb dX9_teller_147 rfl (lv_at hl 8 rfl) ?_
                    refine yget (ci := 9) (k := 9) (v := .ref (S.2.2.1 h0 9)) (C := RX9) (T := TX9) (N := 67) C0 hK hP hm_h0 hk_h0 (by decide) rfl inlX9 (by decide) mW113 (fun _ h9 => h9) rfl dX9_teller_148 ?_
                    obtain ⟨hmy_331, hky_331⟩ := ySh.f9_9 hSh _ hm_h0 hk_h0
                    refine lv_iload hx hb dX9_teller_151 (lv_at hl 7 rfl) ?_
                    refine lv_iload hx hb dX9_teller_153 (lv_at hl 4 rfl) ?_
                    refine lv_iadd hx hb dX9_teller_155 ?_
                    refine lv_topi (fun z_332 ez_332 => ?_)
                    have F_333 := fne (rfl : (r_326 : Int32).toInt = (r_326 : Int32).toInt) (by decide +kernel : (0 : Int32).toInt = 0) c_327
                    have T_334 : (z_332 : Int32).toInt = (z_3 : Int32).toInt + (p5 : Int32).toInt := tadd ez_332 (rfl : (z_3 : Int32).toInt = (z_3 : Int32).toInt) (rfl : (p5 : Int32).toInt = (p5 : Int32).toInt) (by omega) (by omega)
                    refine yaldB C0 hK hP hmy_331 hky_331 (by decide) rfl 1 rfl (xinT 2400 rfl (by omega) (by omega)) dX9_teller_156 ?_
                    refine lv_topi (fun z_335 ez_335 => ?_)
                    refine lv_aload_n hx hb dX9_teller_157 rfl (lv_at hl 8 rfl) ?_
                    refine yget (ci := 9) (k := 5) (v := .ref (S.2.2.1 h0 5)) (C := RX9) (T := TX9) (N := 67) C0 hK hP hm_h0 hk_h0 (by decide) rfl inlX9 (by decide) mW109 (fun _ h9 => h9) rfl dX9_teller_158 ?_
                    obtain ⟨hmy_336, hky_336⟩ := ySh.f9_5 hSh _ hm_h0 hk_h0
                    refine lv_iload hx hb dX9_teller_161 (lv_at hl 7 rfl) ?_
                    refine lv_iload hx hb dX9_teller_163 (lv_at hl 0 rfl) ?_
                    refine lv_iadd hx hb dX9_teller_165 ?_
                    refine lv_topi (fun z_337 ez_337 => ?_)
                    have T_338 : (z_337 : Int32).toInt = (z_3 : Int32).toInt + (v_295 : Int32).toInt := tadd ez_337 (rfl : (z_3 : Int32).toInt = (z_3 : Int32).toInt) (rfl : (v_295 : Int32).toInt = (v_295 : Int32).toInt) (by omega) (by omega)
                    refine yaldB C0 hK hP hmy_336 hky_336 (by decide) rfl 1 rfl (xinT 2400 rfl (by omega) (by omega)) dX9_teller_166 ?_
                    refine lv_topi (fun z_339 ez_339 => ?_)
                    refine lv_ishr hx hb dX9_teller_167 ?_
                    refine lv_topi (fun z_340 ez_340 => ?_)
                    refine lv_iconst (v := 1) hx hb dX9_teller_168 (by decide) ?_
                    refine lv_iand hx hb dX9_teller_169 ?_
                    refine lv_topi (fun z_341 ez_341 => ?_)
                    refine lv_iconst (v := 1) hx hb dX9_teller_170 (by decide) ?_
                    refine lv_icmp_ne (tgt := 178) hx hb dX9_teller_171 (by decide) (fun c_342 => ?_) (fun c_342 => ?_)
                    · refine lv_iconst (v := 0) hx hb dX9_teller_178 (by decide) ?_
                      refine lv_istore (lv' := [(13, .int 0), (15, .int v_295), (14, .int v_295), (9, .int v_6), (12, .int p5), (11, .int v_6), (10, .int v_5), (8, .int z_3), (0, .ref h0), (1, .int p0), (2, .int p1), (3, .int p2), (4, .int p3), (5, .int p4), (6, .int p5), (7, .int p6)]) hx hb dX9_teller_179 hl (by decide) rfl (fun ls hl => ?_)
                      refine lv_iinc (v := v_295 + 1) (lv' := [(14, .int (v_295 + 1)), (13, .int 0), (15, .int v_295), (9, .int v_6), (12, .int p5), (11, .int v_6), (10, .int v_5), (8, .int z_3), (0, .ref h0), (1, .int p0), (2, .int p1), (3, .int p2), (4, .int p3), (5, .int p4), (6, .int p5), (7, .int p6)]) hx hb dX9_teller_181 hl (k := 2) rfl rfl (by decide) rfl (fun ls hl => ?_)
                      refine lv_goto (tgt := 85) hx hb dX9_teller_184 (by decide) ?_
                      have F_345 := fne (rfl : (z_341 : Int32).toInt = (z_341 : Int32).toInt) (by decide +kernel : (1 : Int32).toInt = 1) c_342
                      have T_346 : ((v_295 + 1) : Int32).toInt = (v_295 : Int32).toInt + 1 := tadd rfl (rfl : (v_295 : Int32).toInt = (v_295 : Int32).toInt) (by decide +kernel : (1 : Int32).toInt = 1) (by omega) (by omega)
                      exact hnext_296 (0, v_295 + 1) ls (xup c_298) ⟨(show (0 ≤ (((v_295 + 1)) : Int32).toInt) from by have hl0_ : (0 : Int32).toInt = 0 := (by decide +kernel); have hq0_ : (0 : Int32).toInt = 0 := (by decide +kernel); omega), (lv_sub hl [0, 1, 3, 4, 5, 6, 7, 8, 9, 10, 11, 12, 13, 14, 15] rfl)⟩
                    · refine lv_iconst (v := 1) hx hb dX9_teller_174 (by decide) ?_
                      refine lv_goto (tgt := 179) hx hb dX9_teller_175 (by decide) ?_
                      refine lv_istore (lv' := [(13, .int 1), (15, .int v_295), (14, .int v_295), (9, .int v_6), (12, .int p5), (11, .int v_6), (10, .int v_5), (8, .int z_3), (0, .ref h0), (1, .int p0), (2, .int p1), (3, .int p2), (4, .int p3), (5, .int p4), (6, .int p5), (7, .int p6)]) hx hb dX9_teller_179 hl (by decide) rfl (fun ls hl => ?_)
                      refine lv_iinc (v := v_295 + 1) (lv' := [(14, .int (v_295 + 1)), (13, .int 1), (15, .int v_295), (9, .int v_6), (12, .int p5), (11, .int v_6), (10, .int v_5), (8, .int z_3), (0, .ref h0), (1, .int p0), (2, .int p1), (3, .int p2), (4, .int p3), (5, .int p4), (6, .int p5), (7, .int p6)]) hx hb dX9_teller_181 hl (k := 2) rfl rfl (by decide) rfl (fun ls hl => ?_)
                      refine lv_goto (tgt := 85) hx hb dX9_teller_184 (by decide) ?_
                      have F_349 := feq (rfl : (z_341 : Int32).toInt = (z_341 : Int32).toInt) (by decide +kernel : (1 : Int32).toInt = 1) c_342
                      have T_350 : ((v_295 + 1) : Int32).toInt = (v_295 : Int32).toInt + 1 := tadd rfl (rfl : (v_295 : Int32).toInt = (v_295 : Int32).toInt) (by decide +kernel : (1 : Int32).toInt = 1) (by omega) (by omega)
                      exact hnext_296 (1, v_295 + 1) ls (xup c_298) ⟨(show (0 ≤ (((v_295 + 1)) : Int32).toInt) from by have hl0_ : (1 : Int32).toInt = 1 := (by decide +kernel); have hq0_ : (0 : Int32).toInt = 0 := (by decide +kernel); omega), (lv_sub hl [0, 1, 3, 4, 5, 6, 7, 8, 9, 10, 11, 12, 13, 14, 15] rfl)⟩
              · refine lv_iload hx hb dX9_teller_108 (lv_at hl 0 rfl) ?_
                refine lv_iload hx hb dX9_teller_110 (lv_at hl 12 rfl) ?_
                refine lv_icmp_ne (tgt := 120) hx hb dX9_teller_112 (by decide) (fun c_351 => ?_) (fun c_351 => ?_)
                · refine lv_iload hx hb dX9_teller_120 (lv_at hl 0 rfl) ?_
                  refine lv_istore (lv' := [(15, .int v_295), (14, .int v_295), (13, .int v_294), (9, .int v_6), (12, .int p5), (11, .int v_6), (10, .int v_5), (8, .int z_3), (0, .ref h0), (1, .int p0), (2, .int p1), (3, .int p2), (4, .int p3), (5, .int p4), (6, .int p5), (7, .int p6)]) hx hb dX9_teller_122 hl (by decide) rfl (fun ls hl => ?_)
                  refine lv_iload hx hb dX9_teller_124 (lv_at hl 1 rfl) ?_
                  refine lv_iload hx hb dX9_teller_126 (lv_at hl 5 rfl) ?_
                  refine lv_icmp_eq (tgt := 178) hx hb dX9_teller_128 (by decide) (fun c_352 => ?_) (fun c_352 => ?_)
                  · refine lv_iconst (v := 0) hx hb dX9_teller_178 (by decide) ?_
                    refine lv_istore (lv' := [(13, .int 0), (15, .int v_295), (14, .int v_295), (9, .int v_6), (12, .int p5), (11, .int v_6), (10, .int v_5), (8, .int z_3), (0, .ref h0), (1, .int p0), (2, .int p1), (3, .int p2), (4, .int p3), (5, .int p4), (6, .int p5), (7, .int p6)]) hx hb dX9_teller_179 hl (by decide) rfl (fun ls hl => ?_)
                    refine lv_iinc (v := v_295 + 1) (lv' := [(14, .int (v_295 + 1)), (13, .int 0), (15, .int v_295), (9, .int v_6), (12, .int p5), (11, .int v_6), (10, .int v_5), (8, .int z_3), (0, .ref h0), (1, .int p0), (2, .int p1), (3, .int p2), (4, .int p3), (5, .int p4), (6, .int p5), (7, .int p6)]) hx hb dX9_teller_181 hl (k := 2) rfl rfl (by decide) rfl (fun ls hl => ?_)
                    refine lv_goto (tgt := 85) hx hb dX9_teller_184 (by decide) ?_
                    have F_354 := feq (rfl : (r_317 : Int32).toInt = (r_317 : Int32).toInt) (rfl : (p6 : Int32).toInt = (p6 : Int32).toInt) c_318
                    have F_355 := fne (rfl : (v_295 : Int32).toInt = (v_295 : Int32).toInt) (rfl : (p4 : Int32).toInt = (p4 : Int32).toInt) c_351
                    have F_356 := feq (rfl : (v_295 : Int32).toInt = (v_295 : Int32).toInt) (rfl : (v_6 : Int32).toInt = (v_6 : Int32).toInt) c_352
                    have T_357 : ((v_295 + 1) : Int32).toInt = (v_295 : Int32).toInt + 1 := tadd rfl (rfl : (v_295 : Int32).toInt = (v_295 : Int32).toInt) (by decide +kernel : (1 : Int32).toInt = 1) (by omega) (by omega)
                    exact hnext_296 (0, v_295 + 1) ls (xup c_298) ⟨(show (0 ≤ (((v_295 + 1)) : Int32).toInt) from by have hl0_ : (0 : Int32).toInt = 0 := (by decide +kernel); have hq0_ : (0 : Int32).toInt = 0 := (by decide +kernel); omega), (lv_sub hl [0, 1, 3, 4, 5, 6, 7, 8, 9, 10, 11, 12, 13, 14, 15] rfl)⟩
                  · refine lv_aload_n hx hb dX9_teller_131 rfl (lv_at hl 8 rfl) ?_
                    refine lv_iload hx hb dX9_teller_132 (lv_at hl 7 rfl) ?_
                    refine lv_iload hx hb dX9_teller_134 (lv_at hl 0 rfl) ?_
                    refine lv_iload_n hx hb dX9_teller_136 rfl (lv_at hl 9 rfl) ?_
                    refine lv_iload_n hx hb dX9_teller_137 rfl (lv_at hl 10 rfl) ?_
                    refine lv_iload_n hx hb dX9_teller_138 rfl (lv_at hl 11 rfl) ?_
                    refine lv_iload hx hb dX9_teller_139 (lv_at hl 12 rfl) ?_
                    have F_358 := feq (rfl : (r_317 : Int32).toInt = (r_317 : Int32).toInt) (rfl : (p6 : Int32).toInt = (p6 : Int32).toInt) c_318
                    have F_359 := fne (rfl : (v_295 : Int32).toInt = (v_295 : Int32).toInt) (rfl : (p4 : Int32).toInt = (p4 : Int32).toInt) c_351
                    have F_360 := fne (rfl : (v_295 : Int32).toInt = (v_295 : Int32).toInt) (rfl : (v_6 : Int32).toInt = (v_6 : Int32).toInt) c_352
                    refine yVri (As := [.int z_3, .int v_295, .int p0, .int p1, .int p2, .int p3]) (rest := []) C0 (g_X9_isAsked l G S d h0 z_3 v_295 p0 p1 p2 p3 hSh hm_h0 hk_h0 hI (by refine ⟨?_, ?_⟩ <;> omega) (by refine ⟨?_, ?_⟩ <;> omega) (by refine ⟨?_, ?_⟩ <;> omega) (by refine ⟨?_, ?_⟩ <;> omega)) ok_X9_isAsked (mW893 : Cond.methodLink RX9 239 yX9_isAsked ∈ wsT) ⟨Nat.le_of_ble_eq_true rfl, Nat.le_of_ble_eq_true rfl⟩ hP hD hK hN hm_h0 hk_h0 (by decide) rfl rfl rfl hl.1 rfl (Nat.le_of_ble_eq_true rfl) ⟨Nat.le_of_ble_eq_true rfl, Nat.le_of_ble_eq_true rfl⟩ dX9_teller_141 (fun r_361 hr_361 => ?_)
                    refine lv_if_eq (tgt := 178) hx hb dX9_teller_144 (by decide) (fun c_362 => ?_) (fun c_362 => ?_)
                    · refine lv_iconst (v := 0) hx hb dX9_teller_178 (by decide) ?_
                      refine lv_istore (lv' := [(13, .int 0), (15, .int v_295), (14, .int v_295), (9, .int v_6), (12, .int p5), (11, .int v_6), (10, .int v_5), (8, .int z_3), (0, .ref h0), (1, .int p0), (2, .int p1), (3, .int p2), (4, .int p3), (5, .int p4), (6, .int p5), (7, .int p6)]) hx hb dX9_teller_179 hl (by decide) rfl (fun ls hl => ?_)
                      refine lv_iinc (v := v_295 + 1) (lv' := [(14, .int (v_295 + 1)), (13, .int 0), (15, .int v_295), (9, .int v_6), (12, .int p5), (11, .int v_6), (10, .int v_5), (8, .int z_3), (0, .ref h0), (1, .int p0), (2, .int p1), (3, .int p2), (4, .int p3), (5, .int p4), (6, .int p5), (7, .int p6)]) hx hb dX9_teller_181 hl (k := 2) rfl rfl (by decide) rfl (fun ls hl => ?_)
                      refine lv_goto (tgt := 85) hx hb dX9_teller_184 (by decide) ?_
                      have F_364 := feq (rfl : (r_361 : Int32).toInt = (r_361 : Int32).toInt) (by decide +kernel : (0 : Int32).toInt = 0) c_362
                      have T_365 : ((v_295 + 1) : Int32).toInt = (v_295 : Int32).toInt + 1 := tadd rfl (rfl : (v_295 : Int32).toInt = (v_295 : Int32).toInt) (by decide +kernel : (1 : Int32).toInt = 1) (by omega) (by omega)
                      exact hnext_296 (0, v_295 + 1) ls (xup c_298) ⟨(show (0 ≤ (((v_295 + 1)) : Int32).toInt) from by have hl0_ : (0 : Int32).toInt = 0 := (by decide +kernel); have hq0_ : (0 : Int32).toInt = 0 := (by decide +kernel); omega), (lv_sub hl [0, 1, 3, 4, 5, 6, 7, 8, 9, 10, 11, 12, 13, 14, 15] rfl)⟩
                    · refine lv_aload_n hx hb dX9_teller_147 rfl (lv_at hl 8 rfl) ?_
                      refine yget (ci := 9) (k := 9) (v := .ref (S.2.2.1 h0 9)) (C := RX9) (T := TX9) (N := 67) C0 hK hP hm_h0 hk_h0 (by decide) rfl inlX9 (by decide) mW113 (fun _ h9 => h9) rfl dX9_teller_148 ?_
                      obtain ⟨hmy_366, hky_366⟩ := ySh.f9_9 hSh _ hm_h0 hk_h0
                      refine lv_iload hx hb dX9_teller_151 (lv_at hl 7 rfl) ?_
                      refine lv_iload hx hb dX9_teller_153 (lv_at hl 4 rfl) ?_
                      refine lv_iadd hx hb dX9_teller_155 ?_
                      refine lv_topi (fun z_367 ez_367 => ?_)
                      have F_368 := fne (rfl : (r_361 : Int32).toInt = (r_361 : Int32).toInt) (by decide +kernel : (0 : Int32).toInt = 0) c_362
                      have T_369 : (z_367 : Int32).toInt = (z_3 : Int32).toInt + (p5 : Int32).toInt := tadd ez_367 (rfl : (z_3 : Int32).toInt = (z_3 : Int32).toInt) (rfl : (p5 : Int32).toInt = (p5 : Int32).toInt) (by omega) (by omega)
                      refine yaldB C0 hK hP hmy_366 hky_366 (by decide) rfl 1 rfl (xinT 2400 rfl (by omega) (by omega)) dX9_teller_156 ?_
                      refine lv_topi (fun z_370 ez_370 => ?_)
                      refine lv_aload_n hx hb dX9_teller_157 rfl (lv_at hl 8 rfl) ?_
                      refine yget (ci := 9) (k := 5) (v := .ref (S.2.2.1 h0 5)) (C := RX9) (T := TX9) (N := 67) C0 hK hP hm_h0 hk_h0 (by decide) rfl inlX9 (by decide) mW109 (fun _ h9 => h9) rfl dX9_teller_158 ?_
                      obtain ⟨hmy_371, hky_371⟩ := ySh.f9_5 hSh _ hm_h0 hk_h0
                      refine lv_iload hx hb dX9_teller_161 (lv_at hl 7 rfl) ?_
                      refine lv_iload hx hb dX9_teller_163 (lv_at hl 0 rfl) ?_
                      refine lv_iadd hx hb dX9_teller_165 ?_
                      refine lv_topi (fun z_372 ez_372 => ?_)
                      have T_373 : (z_372 : Int32).toInt = (z_3 : Int32).toInt + (v_295 : Int32).toInt := tadd ez_372 (rfl : (z_3 : Int32).toInt = (z_3 : Int32).toInt) (rfl : (v_295 : Int32).toInt = (v_295 : Int32).toInt) (by omega) (by omega)
                      refine yaldB C0 hK hP hmy_371 hky_371 (by decide) rfl 1 rfl (xinT 2400 rfl (by omega) (by omega)) dX9_teller_166 ?_
                      refine lv_topi (fun z_374 ez_374 => ?_)
                      refine lv_ishr hx hb dX9_teller_167 ?_
                      refine lv_topi (fun z_375 ez_375 => ?_)
                      refine lv_iconst (v := 1) hx hb dX9_teller_168 (by decide) ?_
                      refine lv_iand hx hb dX9_teller_169 ?_
                      refine lv_topi (fun z_376 ez_376 => ?_)
                      refine lv_iconst (v := 1) hx hb dX9_teller_170 (by decide) ?_
                      refine lv_icmp_ne (tgt := 178) hx hb dX9_teller_171 (by decide) (fun c_377 => ?_) (fun c_377 => ?_)
                      · refine lv_iconst (v := 0) hx hb dX9_teller_178 (by decide) ?_
                        refine lv_istore (lv' := [(13, .int 0), (15, .int v_295), (14, .int v_295), (9, .int v_6), (12, .int p5), (11, .int v_6), (10, .int v_5), (8, .int z_3), (0, .ref h0), (1, .int p0), (2, .int p1), (3, .int p2), (4, .int p3), (5, .int p4), (6, .int p5), (7, .int p6)]) hx hb dX9_teller_179 hl (by decide) rfl (fun ls hl => ?_)
                        refine lv_iinc (v := v_295 + 1) (lv' := [(14, .int (v_295 + 1)), (13, .int 0), (15, .int v_295), (9, .int v_6), (12, .int p5), (11, .int v_6), (10, .int v_5), (8, .int z_3), (0, .ref h0), (1, .int p0), (2, .int p1), (3, .int p2), (4, .int p3), (5, .int p4), (6, .int p5), (7, .int p6)]) hx hb dX9_teller_181 hl (k := 2) rfl rfl (by decide) rfl (fun ls hl => ?_)
                        refine lv_goto (tgt := 85) hx hb dX9_teller_184 (by decide) ?_
                        have F_380 := fne (rfl : (z_376 : Int32).toInt = (z_376 : Int32).toInt) (by decide +kernel : (1 : Int32).toInt = 1) c_377
                        have T_381 : ((v_295 + 1) : Int32).toInt = (v_295 : Int32).toInt + 1 := tadd rfl (rfl : (v_295 : Int32).toInt = (v_295 : Int32).toInt) (by decide +kernel : (1 : Int32).toInt = 1) (by omega) (by omega)
                        exact hnext_296 (0, v_295 + 1) ls (xup c_298) ⟨(show (0 ≤ (((v_295 + 1)) : Int32).toInt) from by have hl0_ : (0 : Int32).toInt = 0 := (by decide +kernel); have hq0_ : (0 : Int32).toInt = 0 := (by decide +kernel); omega), (lv_sub hl [0, 1, 3, 4, 5, 6, 7, 8, 9, 10, 11, 12, 13, 14, 15] rfl)⟩
                      · refine lv_iconst (v := 1) hx hb dX9_teller_174 (by decide) ?_
                        refine lv_goto (tgt := 179) hx hb dX9_teller_175 (by decide) ?_
                        refine lv_istore (lv' := [(13, .int 1), (15, .int v_295), (14, .int v_295), (9, .int v_6), (12, .int p5), (11, .int v_6), (10, .int v_5), (8, .int z_3), (0, .ref h0), (1, .int p0), (2, .int p1), (3, .int p2), (4, .int p3), (5, .int p4), (6, .int p5), (7, .int p6)]) hx hb dX9_teller_179 hl (by decide) rfl (fun ls hl => ?_)
                        refine lv_iinc (v := v_295 + 1) (lv' := [(14, .int (v_295 + 1)), (13, .int 1), (15, .int v_295), (9, .int v_6), (12, .int p5), (11, .int v_6), (10, .int v_5), (8, .int z_3), (0, .ref h0), (1, .int p0), (2, .int p1), (3, .int p2), (4, .int p3), (5, .int p4), (6, .int p5), (7, .int p6)]) hx hb dX9_teller_181 hl (k := 2) rfl rfl (by decide) rfl (fun ls hl => ?_)
                        refine lv_goto (tgt := 85) hx hb dX9_teller_184 (by decide) ?_
                        have F_384 := feq (rfl : (z_376 : Int32).toInt = (z_376 : Int32).toInt) (by decide +kernel : (1 : Int32).toInt = 1) c_377
                        have T_385 : ((v_295 + 1) : Int32).toInt = (v_295 : Int32).toInt + 1 := tadd rfl (rfl : (v_295 : Int32).toInt = (v_295 : Int32).toInt) (by decide +kernel : (1 : Int32).toInt = 1) (by omega) (by omega)
                        exact hnext_296 (1, v_295 + 1) ls (xup c_298) ⟨(show (0 ≤ (((v_295 + 1)) : Int32).toInt) from by have hl0_ : (1 : Int32).toInt = 1 := (by decide +kernel); have hq0_ : (0 : Int32).toInt = 0 := (by decide +kernel); omega), (lv_sub hl [0, 1, 3, 4, 5, 6, 7, 8, 9, 10, 11, 12, 13, 14, 15] rfl)⟩
                · refine lv_iload hx hb dX9_teller_115 (lv_at hl 13 rfl) ?_
                  refine lv_goto (tgt := 122) hx hb dX9_teller_117 (by decide) ?_
                  refine lv_istore (lv' := [(15, .int p5), (14, .int v_295), (13, .int v_294), (9, .int v_6), (12, .int p5), (11, .int v_6), (10, .int v_5), (8, .int z_3), (0, .ref h0), (1, .int p0), (2, .int p1), (3, .int p2), (4, .int p3), (5, .int p4), (6, .int p5), (7, .int p6)]) hx hb dX9_teller_122 hl (by decide) rfl (fun ls hl => ?_)
                  refine lv_iload hx hb dX9_teller_124 (lv_at hl 1 rfl) ?_
                  refine lv_iload hx hb dX9_teller_126 (lv_at hl 5 rfl) ?_
                  refine lv_icmp_eq (tgt := 178) hx hb dX9_teller_128 (by decide) (fun c_386 => ?_) (fun c_386 => ?_)
                  · refine lv_iconst (v := 0) hx hb dX9_teller_178 (by decide) ?_
                    refine lv_istore (lv' := [(13, .int 0), (15, .int p5), (14, .int v_295), (9, .int v_6), (12, .int p5), (11, .int v_6), (10, .int v_5), (8, .int z_3), (0, .ref h0), (1, .int p0), (2, .int p1), (3, .int p2), (4, .int p3), (5, .int p4), (6, .int p5), (7, .int p6)]) hx hb dX9_teller_179 hl (by decide) rfl (fun ls hl => ?_)
                    refine lv_iinc (v := v_295 + 1) (lv' := [(14, .int (v_295 + 1)), (13, .int 0), (15, .int p5), (9, .int v_6), (12, .int p5), (11, .int v_6), (10, .int v_5), (8, .int z_3), (0, .ref h0), (1, .int p0), (2, .int p1), (3, .int p2), (4, .int p3), (5, .int p4), (6, .int p5), (7, .int p6)]) hx hb dX9_teller_181 hl (k := 2) rfl rfl (by decide) rfl (fun ls hl => ?_)
                    refine lv_goto (tgt := 85) hx hb dX9_teller_184 (by decide) ?_
                    have F_388 := feq (rfl : (r_317 : Int32).toInt = (r_317 : Int32).toInt) (rfl : (p6 : Int32).toInt = (p6 : Int32).toInt) c_318
                    have F_389 := feq (rfl : (v_295 : Int32).toInt = (v_295 : Int32).toInt) (rfl : (p4 : Int32).toInt = (p4 : Int32).toInt) c_351
                    have F_390 := feq (rfl : (v_295 : Int32).toInt = (v_295 : Int32).toInt) (rfl : (v_6 : Int32).toInt = (v_6 : Int32).toInt) c_386
                    have T_391 : ((v_295 + 1) : Int32).toInt = (v_295 : Int32).toInt + 1 := tadd rfl (rfl : (v_295 : Int32).toInt = (v_295 : Int32).toInt) (by decide +kernel : (1 : Int32).toInt = 1) (by omega) (by omega)
                    exact hnext_296 (0, v_295 + 1) ls (xup c_298) ⟨(show (0 ≤ (((v_295 + 1)) : Int32).toInt) from by have hl0_ : (0 : Int32).toInt = 0 := (by decide +kernel); have hq0_ : (0 : Int32).toInt = 0 := (by decide +kernel); omega), (lv_sub hl [0, 1, 3, 4, 5, 6, 7, 8, 9, 10, 11, 12, 13, 14, 15] rfl)⟩
                  · refine lv_aload_n hx hb dX9_teller_131 rfl (lv_at hl 8 rfl) ?_
                    refine lv_iload hx hb dX9_teller_132 (lv_at hl 7 rfl) ?_
                    refine lv_iload hx hb dX9_teller_134 (lv_at hl 0 rfl) ?_
                    refine lv_iload_n hx hb dX9_teller_136 rfl (lv_at hl 9 rfl) ?_
                    refine lv_iload_n hx hb dX9_teller_137 rfl (lv_at hl 10 rfl) ?_
                    refine lv_iload_n hx hb dX9_teller_138 rfl (lv_at hl 11 rfl) ?_
                    refine lv_iload hx hb dX9_teller_139 (lv_at hl 12 rfl) ?_
                    have F_392 := feq (rfl : (r_317 : Int32).toInt = (r_317 : Int32).toInt) (rfl : (p6 : Int32).toInt = (p6 : Int32).toInt) c_318
                    have F_393 := feq (rfl : (v_295 : Int32).toInt = (v_295 : Int32).toInt) (rfl : (p4 : Int32).toInt = (p4 : Int32).toInt) c_351
                    have F_394 := fne (rfl : (v_295 : Int32).toInt = (v_295 : Int32).toInt) (rfl : (v_6 : Int32).toInt = (v_6 : Int32).toInt) c_386
                    refine yVri (As := [.int z_3, .int p5, .int p0, .int p1, .int p2, .int p3]) (rest := []) C0 (g_X9_isAsked l G S d h0 z_3 p5 p0 p1 p2 p3 hSh hm_h0 hk_h0 hI (by refine ⟨?_, ?_⟩ <;> omega) (by refine ⟨?_, ?_⟩ <;> omega) (by refine ⟨?_, ?_⟩ <;> omega) (by refine ⟨?_, ?_⟩ <;> omega)) ok_X9_isAsked (mW893 : Cond.methodLink RX9 239 yX9_isAsked ∈ wsT) ⟨Nat.le_of_ble_eq_true rfl, Nat.le_of_ble_eq_true rfl⟩ hP hD hK hN hm_h0 hk_h0 (by decide) rfl rfl rfl hl.1 rfl (Nat.le_of_ble_eq_true rfl) ⟨Nat.le_of_ble_eq_true rfl, Nat.le_of_ble_eq_true rfl⟩ dX9_teller_141 (fun r_395 hr_395 => ?_)
                    refine lv_if_eq (tgt := 178) hx hb dX9_teller_144 (by decide) (fun c_396 => ?_) (fun c_396 => ?_)
                    · refine lv_iconst (v := 0) hx hb dX9_teller_178 (by decide) ?_
                      refine lv_istore (lv' := [(13, .int 0), (15, .int p5), (14, .int v_295), (9, .int v_6), (12, .int p5), (11, .int v_6), (10, .int v_5), (8, .int z_3), (0, .ref h0), (1, .int p0), (2, .int p1), (3, .int p2), (4, .int p3), (5, .int p4), (6, .int p5), (7, .int p6)]) hx hb dX9_teller_179 hl (by decide) rfl (fun ls hl => ?_)
                      refine lv_iinc (v := v_295 + 1) (lv' := [(14, .int (v_295 + 1)), (13, .int 0), (15, .int p5), (9, .int v_6), (12, .int p5), (11, .int v_6), (10, .int v_5), (8, .int z_3), (0, .ref h0), (1, .int p0), (2, .int p1), (3, .int p2), (4, .int p3), (5, .int p4), (6, .int p5), (7, .int p6)]) hx hb dX9_teller_181 hl (k := 2) rfl rfl (by decide) rfl (fun ls hl => ?_)
                      refine lv_goto (tgt := 85) hx hb dX9_teller_184 (by decide) ?_
                      have F_398 := feq (rfl : (r_395 : Int32).toInt = (r_395 : Int32).toInt) (by decide +kernel : (0 : Int32).toInt = 0) c_396
                      have T_399 : ((v_295 + 1) : Int32).toInt = (v_295 : Int32).toInt + 1 := tadd rfl (rfl : (v_295 : Int32).toInt = (v_295 : Int32).toInt) (by decide +kernel : (1 : Int32).toInt = 1) (by omega) (by omega)
                      exact hnext_296 (0, v_295 + 1) ls (xup c_298) ⟨(show (0 ≤ (((v_295 + 1)) : Int32).toInt) from by have hl0_ : (0 : Int32).toInt = 0 := (by decide +kernel); have hq0_ : (0 : Int32).toInt = 0 := (by decide +kernel); omega), (lv_sub hl [0, 1, 3, 4, 5, 6, 7, 8, 9, 10, 11, 12, 13, 14, 15] rfl)⟩
                    · refine lv_aload_n hx hb dX9_teller_147 rfl (lv_at hl 8 rfl) ?_
                      refine yget (ci := 9) (k := 9) (v := .ref (S.2.2.1 h0 9)) (C := RX9) (T := TX9) (N := 67) C0 hK hP hm_h0 hk_h0 (by decide) rfl inlX9 (by decide) mW113 (fun _ h9 => h9) rfl dX9_teller_148 ?_
                      obtain ⟨hmy_400, hky_400⟩ := ySh.f9_9 hSh _ hm_h0 hk_h0
                      refine lv_iload hx hb dX9_teller_151 (lv_at hl 7 rfl) ?_
                      refine lv_iload hx hb dX9_teller_153 (lv_at hl 4 rfl) ?_
                      refine lv_iadd hx hb dX9_teller_155 ?_
                      refine lv_topi (fun z_401 ez_401 => ?_)
                      have F_402 := fne (rfl : (r_395 : Int32).toInt = (r_395 : Int32).toInt) (by decide +kernel : (0 : Int32).toInt = 0) c_396
                      have T_403 : (z_401 : Int32).toInt = (z_3 : Int32).toInt + (p5 : Int32).toInt := tadd ez_401 (rfl : (z_3 : Int32).toInt = (z_3 : Int32).toInt) (rfl : (p5 : Int32).toInt = (p5 : Int32).toInt) (by omega) (by omega)
                      refine yaldB C0 hK hP hmy_400 hky_400 (by decide) rfl 1 rfl (xinT 2400 rfl (by omega) (by omega)) dX9_teller_156 ?_
                      refine lv_topi (fun z_404 ez_404 => ?_)
                      refine lv_aload_n hx hb dX9_teller_157 rfl (lv_at hl 8 rfl) ?_
                      refine yget (ci := 9) (k := 5) (v := .ref (S.2.2.1 h0 5)) (C := RX9) (T := TX9) (N := 67) C0 hK hP hm_h0 hk_h0 (by decide) rfl inlX9 (by decide) mW109 (fun _ h9 => h9) rfl dX9_teller_158 ?_
                      obtain ⟨hmy_405, hky_405⟩ := ySh.f9_5 hSh _ hm_h0 hk_h0
                      refine lv_iload hx hb dX9_teller_161 (lv_at hl 7 rfl) ?_
                      refine lv_iload hx hb dX9_teller_163 (lv_at hl 0 rfl) ?_
                      refine lv_iadd hx hb dX9_teller_165 ?_
                      refine lv_topi (fun z_406 ez_406 => ?_)
                      have T_407 : (z_406 : Int32).toInt = (z_3 : Int32).toInt + (p5 : Int32).toInt := tadd ez_406 (rfl : (z_3 : Int32).toInt = (z_3 : Int32).toInt) (rfl : (p5 : Int32).toInt = (p5 : Int32).toInt) (by omega) (by omega)
                      refine yaldB C0 hK hP hmy_405 hky_405 (by decide) rfl 1 rfl (xinT 2400 rfl (by omega) (by omega)) dX9_teller_166 ?_
                      refine lv_topi (fun z_408 ez_408 => ?_)
                      refine lv_ishr hx hb dX9_teller_167 ?_
                      refine lv_topi (fun z_409 ez_409 => ?_)
                      refine lv_iconst (v := 1) hx hb dX9_teller_168 (by decide) ?_
                      refine lv_iand hx hb dX9_teller_169 ?_
                      refine lv_topi (fun z_410 ez_410 => ?_)
                      refine lv_iconst (v := 1) hx hb dX9_teller_170 (by decide) ?_
                      refine lv_icmp_ne (tgt := 178) hx hb dX9_teller_171 (by decide) (fun c_411 => ?_) (fun c_411 => ?_)
                      · refine lv_iconst (v := 0) hx hb dX9_teller_178 (by decide) ?_
                        refine lv_istore (lv' := [(13, .int 0), (15, .int p5), (14, .int v_295), (9, .int v_6), (12, .int p5), (11, .int v_6), (10, .int v_5), (8, .int z_3), (0, .ref h0), (1, .int p0), (2, .int p1), (3, .int p2), (4, .int p3), (5, .int p4), (6, .int p5), (7, .int p6)]) hx hb dX9_teller_179 hl (by decide) rfl (fun ls hl => ?_)
                        refine lv_iinc (v := v_295 + 1) (lv' := [(14, .int (v_295 + 1)), (13, .int 0), (15, .int p5), (9, .int v_6), (12, .int p5), (11, .int v_6), (10, .int v_5), (8, .int z_3), (0, .ref h0), (1, .int p0), (2, .int p1), (3, .int p2), (4, .int p3), (5, .int p4), (6, .int p5), (7, .int p6)]) hx hb dX9_teller_181 hl (k := 2) rfl rfl (by decide) rfl (fun ls hl => ?_)
                        refine lv_goto (tgt := 85) hx hb dX9_teller_184 (by decide) ?_
                        have F_414 := fne (rfl : (z_410 : Int32).toInt = (z_410 : Int32).toInt) (by decide +kernel : (1 : Int32).toInt = 1) c_411
                        have T_415 : ((v_295 + 1) : Int32).toInt = (v_295 : Int32).toInt + 1 := tadd rfl (rfl : (v_295 : Int32).toInt = (v_295 : Int32).toInt) (by decide +kernel : (1 : Int32).toInt = 1) (by omega) (by omega)
                        exact hnext_296 (0, v_295 + 1) ls (xup c_298) ⟨(show (0 ≤ (((v_295 + 1)) : Int32).toInt) from by have hl0_ : (0 : Int32).toInt = 0 := (by decide +kernel); have hq0_ : (0 : Int32).toInt = 0 := (by decide +kernel); omega), (lv_sub hl [0, 1, 3, 4, 5, 6, 7, 8, 9, 10, 11, 12, 13, 14, 15] rfl)⟩
                      · refine lv_iconst (v := 1) hx hb dX9_teller_174 (by decide) ?_
                        refine lv_goto (tgt := 179) hx hb dX9_teller_175 (by decide) ?_
                        refine lv_istore (lv' := [(13, .int 1), (15, .int p5), (14, .int v_295), (9, .int v_6), (12, .int p5), (11, .int v_6), (10, .int v_5), (8, .int z_3), (0, .ref h0), (1, .int p0), (2, .int p1), (3, .int p2), (4, .int p3), (5, .int p4), (6, .int p5), (7, .int p6)]) hx hb dX9_teller_179 hl (by decide) rfl (fun ls hl => ?_)
                        refine lv_iinc (v := v_295 + 1) (lv' := [(14, .int (v_295 + 1)), (13, .int 1), (15, .int p5), (9, .int v_6), (12, .int p5), (11, .int v_6), (10, .int v_5), (8, .int z_3), (0, .ref h0), (1, .int p0), (2, .int p1), (3, .int p2), (4, .int p3), (5, .int p4), (6, .int p5), (7, .int p6)]) hx hb dX9_teller_181 hl (k := 2) rfl rfl (by decide) rfl (fun ls hl => ?_)
                        refine lv_goto (tgt := 85) hx hb dX9_teller_184 (by decide) ?_
                        have F_418 := feq (rfl : (z_410 : Int32).toInt = (z_410 : Int32).toInt) (by decide +kernel : (1 : Int32).toInt = 1) c_411
                        have T_419 : ((v_295 + 1) : Int32).toInt = (v_295 : Int32).toInt + 1 := tadd rfl (rfl : (v_295 : Int32).toInt = (v_295 : Int32).toInt) (by decide +kernel : (1 : Int32).toInt = 1) (by omega) (by omega)
                        exact hnext_296 (1, v_295 + 1) ls (xup c_298) ⟨(show (0 ≤ (((v_295 + 1)) : Int32).toInt) from by have hl0_ : (1 : Int32).toInt = 1 := (by decide +kernel); have hq0_ : (0 : Int32).toInt = 0 := (by decide +kernel); omega), (lv_sub hl [0, 1, 3, 4, 5, 6, 7, 8, 9, 10, 11, 12, 13, 14, 15] rfl)⟩
        · refine lv_goto (tgt := 196) hx hb dX9_teller_72 (by decide) ?_
          refine lv_iinc (v := v_6 + 1) (lv' := [(11, .int (v_6 + 1)), (12, .int p5), (10, .int v_5), (9, .int v_4), (8, .int z_3), (0, .ref h0), (1, .int p0), (2, .int p1), (3, .int p2), (4, .int p3), (5, .int p4), (6, .int p5), (7, .int p6)]) hx hb dX9_teller_196 hl (k := 1) rfl rfl (by decide) rfl (fun ls hl => ?_)
          refine lv_goto (tgt := 22) hx hb dX9_teller_199 (by decide) ?_
          have F_421 := feq (rfl : (r_291 : Int32).toInt = (r_291 : Int32).toInt) (by decide +kernel : (0 : Int32).toInt = 0) c_292
          have T_422 : ((v_6 + 1) : Int32).toInt = (v_6 : Int32).toInt + 1 := tadd rfl (rfl : (v_6 : Int32).toInt = (v_6 : Int32).toInt) (by decide +kernel : (1 : Int32).toInt = 1) (by omega) (by omega)
          exact hnext_7 (v_4, v_5, v_6 + 1) ls (xup c_9) ⟨(show ((((v_4) : Int32).toInt = -2 ∨ 0 ≤ ((v_4) : Int32).toInt) ∧ ((v_4) : Int32).toInt ≤ 59 ∧ (0 ≤ ((v_4) : Int32).toInt → ((v_4) : Int32).toInt = p4.toInt → yOf S d h0 p0.toInt.toNat 1 = p6.toInt → 0 ≤ p5.toInt) ∧ (((v_5) : Int32).toInt = -2 ∨ 0 ≤ ((v_5) : Int32).toInt) ∧ ((v_5) : Int32).toInt ≤ 59 ∧ (0 ≤ ((v_5) : Int32).toInt → ((v_5) : Int32).toInt = p4.toInt → yOf S d h0 p0.toInt.toNat 1 = p6.toInt → 0 ≤ p5.toInt) ∧ 0 ≤ (((v_6 + 1)) : Int32).toInt) from by have hq0_ : (0 : Int32).toInt = 0 := (by decide +kernel); omega), (lv_sub hl [0, 2, 3, 4, 5, 6, 7, 8, 9, 10, 11, 12] rfl)⟩
