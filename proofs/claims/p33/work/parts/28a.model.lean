theorem dX9_insert_0 : decode cX9_insert 0 = .ok (.aload_n 0, 1) := by decide +kernel
theorem dX9_insert_1 : decode cX9_insert 1 = .ok (.getfield 180, 3) := by decide +kernel
theorem dX9_insert_4 : decode cX9_insert 4 = .ok (.istore 4, 2) := by decide +kernel
theorem dX9_insert_6 : decode cX9_insert 6 = .ok (.iload 4, 2) := by decide +kernel
theorem dX9_insert_8 : decode cX9_insert 8 = .ok (.ifCond .le 96, 3) := by decide +kernel
theorem dX9_insert_11 : decode cX9_insert 11 = .ok (.aload_n 0, 1) := by decide +kernel
theorem dX9_insert_12 : decode cX9_insert 12 = .ok (.getfield 51, 3) := by decide +kernel
theorem dX9_insert_15 : decode cX9_insert 15 = .ok (.iload 4, 2) := by decide +kernel
theorem dX9_insert_17 : decode cX9_insert 17 = .ok (.iconst 1, 1) := by decide +kernel
theorem dX9_insert_18 : decode cX9_insert 18 = .ok (.isub, 1) := by decide +kernel
theorem dX9_insert_19 : decode cX9_insert 19 = .ok (.baload, 1) := by decide +kernel
theorem dX9_insert_20 : decode cX9_insert 20 = .ok (.iload_n 1, 1) := by decide +kernel
theorem dX9_insert_21 : decode cX9_insert 21 = .ok (.if_icmp .gt 29, 3) := by decide +kernel
theorem dX9_insert_24 : decode cX9_insert 24 = .ok (.aload_n 0, 1) := by decide +kernel
theorem dX9_insert_25 : decode cX9_insert 25 = .ok (.getfield 51, 3) := by decide +kernel
theorem dX9_insert_28 : decode cX9_insert 28 = .ok (.iload 4, 2) := by decide +kernel
theorem dX9_insert_30 : decode cX9_insert 30 = .ok (.iconst 1, 1) := by decide +kernel
theorem dX9_insert_31 : decode cX9_insert 31 = .ok (.isub, 1) := by decide +kernel
theorem dX9_insert_32 : decode cX9_insert 32 = .ok (.baload, 1) := by decide +kernel
theorem dX9_insert_33 : decode cX9_insert 33 = .ok (.iload_n 1, 1) := by decide +kernel
theorem dX9_insert_34 : decode cX9_insert 34 = .ok (.if_icmp .ne 70, 3) := by decide +kernel
theorem dX9_insert_37 : decode cX9_insert 37 = .ok (.aload_n 0, 1) := by decide +kernel
theorem dX9_insert_38 : decode cX9_insert 38 = .ok (.getfield 54, 3) := by decide +kernel
theorem dX9_insert_41 : decode cX9_insert 41 = .ok (.iload 4, 2) := by decide +kernel
theorem dX9_insert_43 : decode cX9_insert 43 = .ok (.iconst 1, 1) := by decide +kernel
theorem dX9_insert_44 : decode cX9_insert 44 = .ok (.isub, 1) := by decide +kernel
theorem dX9_insert_45 : decode cX9_insert 45 = .ok (.iaload, 1) := by decide +kernel
theorem dX9_insert_46 : decode cX9_insert 46 = .ok (.iload_n 2, 1) := by decide +kernel
theorem dX9_insert_47 : decode cX9_insert 47 = .ok (.if_icmp .le 57, 3) := by decide +kernel
theorem dX9_insert_50 : decode cX9_insert 50 = .ok (.aload_n 0, 1) := by decide +kernel
theorem dX9_insert_51 : decode cX9_insert 51 = .ok (.getfield 51, 3) := by decide +kernel
theorem dX9_insert_54 : decode cX9_insert 54 = .ok (.iload 4, 2) := by decide +kernel
theorem dX9_insert_56 : decode cX9_insert 56 = .ok (.aload_n 0, 1) := by decide +kernel
theorem dX9_insert_57 : decode cX9_insert 57 = .ok (.getfield 51, 3) := by decide +kernel
theorem dX9_insert_60 : decode cX9_insert 60 = .ok (.iload 4, 2) := by decide +kernel
theorem dX9_insert_62 : decode cX9_insert 62 = .ok (.iconst 1, 1) := by decide +kernel
theorem dX9_insert_63 : decode cX9_insert 63 = .ok (.isub, 1) := by decide +kernel
theorem dX9_insert_64 : decode cX9_insert 64 = .ok (.baload, 1) := by decide +kernel
theorem dX9_insert_65 : decode cX9_insert 65 = .ok (.bastore, 1) := by decide +kernel
theorem dX9_insert_66 : decode cX9_insert 66 = .ok (.aload_n 0, 1) := by decide +kernel
theorem dX9_insert_67 : decode cX9_insert 67 = .ok (.getfield 54, 3) := by decide +kernel
theorem dX9_insert_70 : decode cX9_insert 70 = .ok (.iload 4, 2) := by decide +kernel
theorem dX9_insert_72 : decode cX9_insert 72 = .ok (.aload_n 0, 1) := by decide +kernel
theorem dX9_insert_73 : decode cX9_insert 73 = .ok (.getfield 54, 3) := by decide +kernel
theorem dX9_insert_76 : decode cX9_insert 76 = .ok (.iload 4, 2) := by decide +kernel
theorem dX9_insert_78 : decode cX9_insert 78 = .ok (.iconst 1, 1) := by decide +kernel
theorem dX9_insert_79 : decode cX9_insert 79 = .ok (.isub, 1) := by decide +kernel
theorem dX9_insert_80 : decode cX9_insert 80 = .ok (.iaload, 1) := by decide +kernel
theorem dX9_insert_81 : decode cX9_insert 81 = .ok (.iastore, 1) := by decide +kernel
theorem dX9_insert_82 : decode cX9_insert 82 = .ok (.aload_n 0, 1) := by decide +kernel
theorem dX9_insert_83 : decode cX9_insert 83 = .ok (.getfield 57, 3) := by decide +kernel
theorem dX9_insert_86 : decode cX9_insert 86 = .ok (.iload 4, 2) := by decide +kernel
theorem dX9_insert_88 : decode cX9_insert 88 = .ok (.aload_n 0, 1) := by decide +kernel
theorem dX9_insert_89 : decode cX9_insert 89 = .ok (.getfield 57, 3) := by decide +kernel
theorem dX9_insert_92 : decode cX9_insert 92 = .ok (.iload 4, 2) := by decide +kernel
theorem dX9_insert_94 : decode cX9_insert 94 = .ok (.iconst 1, 1) := by decide +kernel
theorem dX9_insert_95 : decode cX9_insert 95 = .ok (.isub, 1) := by decide +kernel
theorem dX9_insert_96 : decode cX9_insert 96 = .ok (.baload, 1) := by decide +kernel
theorem dX9_insert_97 : decode cX9_insert 97 = .ok (.bastore, 1) := by decide +kernel
theorem dX9_insert_98 : decode cX9_insert 98 = .ok (.iinc 4 (-1), 3) := by decide +kernel
theorem dX9_insert_101 : decode cX9_insert 101 = .ok (.goto (-95), 3) := by decide +kernel
theorem dX9_insert_104 : decode cX9_insert 104 = .ok (.aload_n 0, 1) := by decide +kernel
theorem dX9_insert_105 : decode cX9_insert 105 = .ok (.getfield 51, 3) := by decide +kernel
theorem dX9_insert_108 : decode cX9_insert 108 = .ok (.iload 4, 2) := by decide +kernel
theorem dX9_insert_110 : decode cX9_insert 110 = .ok (.iload_n 1, 1) := by decide +kernel
theorem dX9_insert_111 : decode cX9_insert 111 = .ok (.i2b, 1) := by decide +kernel
theorem dX9_insert_112 : decode cX9_insert 112 = .ok (.bastore, 1) := by decide +kernel
theorem dX9_insert_113 : decode cX9_insert 113 = .ok (.aload_n 0, 1) := by decide +kernel
theorem dX9_insert_114 : decode cX9_insert 114 = .ok (.getfield 54, 3) := by decide +kernel
theorem dX9_insert_117 : decode cX9_insert 117 = .ok (.iload 4, 2) := by decide +kernel
theorem dX9_insert_119 : decode cX9_insert 119 = .ok (.iload_n 2, 1) := by decide +kernel
theorem dX9_insert_120 : decode cX9_insert 120 = .ok (.iastore, 1) := by decide +kernel
theorem dX9_insert_121 : decode cX9_insert 121 = .ok (.aload_n 0, 1) := by decide +kernel
theorem dX9_insert_122 : decode cX9_insert 122 = .ok (.getfield 57, 3) := by decide +kernel
theorem dX9_insert_125 : decode cX9_insert 125 = .ok (.iload 4, 2) := by decide +kernel
theorem dX9_insert_127 : decode cX9_insert 127 = .ok (.iload_n 3, 1) := by decide +kernel
theorem dX9_insert_128 : decode cX9_insert 128 = .ok (.i2b, 1) := by decide +kernel
theorem dX9_insert_129 : decode cX9_insert 129 = .ok (.bastore, 1) := by decide +kernel
theorem dX9_insert_130 : decode cX9_insert 130 = .ok (.aload_n 0, 1) := by decide +kernel
theorem dX9_insert_131 : decode cX9_insert 131 = .ok (.dup, 1) := by decide +kernel
theorem dX9_insert_132 : decode cX9_insert 132 = .ok (.getfield 180, 3) := by decide +kernel
theorem dX9_insert_135 : decode cX9_insert 135 = .ok (.iconst 1, 1) := by decide +kernel
theorem dX9_insert_136 : decode cX9_insert 136 = .ok (.iadd, 1) := by decide +kernel
theorem dX9_insert_137 : decode cX9_insert 137 = .ok (.putfield 180, 3) := by decide +kernel
theorem dX9_insert_140 : decode cX9_insert 140 = .ok (.return_, 1) := by decide +kernel
set_option maxHeartbeats 4000000 in
set_option maxRecDepth 100000 in
theorem g_X9_insert (l : Launch) (G : xG) (S : yS) (d : yD) (h0 : Nat) (p0 : Int32) (p1 : Int32) (p2 : Int32) (hSh : ySh S) (hPo : yPo S d) (hm_h0 : h0 ∈ S.1) (hk_h0 : S.2.1 h0 = 9) (hI : yMI S d h0) (hev : (d.1 h0 1).toInt ≤ 4999) (hr_p1 : 0 ≤ (p1 : Int32).toInt ∧ (p1 : Int32).toInt ≤ 129599) : xWv l G yX9_insert cX9_insert 5 none 0 0 0 0 [.ref h0, .int p0, .int p1, .int p2] (yW G S d) (fun u : yD => yAg S [9, 45, 46, 47] d u ∧ (yPo S d → yPo S u) ∧ yK [1] d u h0 ∧ (yMI S u h0 ∧ (u.1 h0 1).toInt = (d.1 h0 1).toInt + 1)) (fun u => yW G S u) := by
  intro sz
  refine xstart (by decide) (Nat.le_of_ble_eq_true rfl) (fun p e s m args below meth c ls C0 hr hlocks hin hsz hP hK hD hN hl => ?_)
  obtain ⟨hx, hb, hml, hown, htl⟩ := id C0
  subst hsz
  have hD := hD.self (sz := s.heap.size)
  generalize hAe : va_A (yW G S d) s.heap.size = A at hD ⊢
  have hA : ∀ q : Nat, s.heap.size ≤ q → A q := fun q h => by rw [← hAe]; exact Or.inr h
  have hS : va_S A s.heap s.heap [] := va_S.rf
  have hg0 : yAg S [9, 45, 46, 47] d d := yAg.rf
  have hl : lv_has ls 5 [(0, .ref h0), (1, .int p0), (2, .int p1), (3, .int p2)] := hl
  refine lv_aload_n hx hb dX9_insert_0 rfl (lv_at hl 0 rfl) ?_
  refine yget (ci := 9) (k := 1) (v := .int (d.1 h0 1)) (C := RX9) (T := TX9) (N := 67) C0 hK hP hm_h0 hk_h0 (by decide) rfl inlX9 (by decide) mW364 (fun _ h9 => h9) rfl dX9_insert_1 ?_
  refine lv_topi (fun z_1 ez_1 => ?_)
  refine lv_istore (lv' := [(4, .int z_1), (0, .ref h0), (1, .int p0), (2, .int p1), (3, .int p2)]) hx hb dX9_insert_4 hl (by decide) rfl (fun ls hl => ?_)
  have hCC_2 := yMI.c hI
  have T_3 : (z_1 : Int32).toInt = (d.1 h0 1).toInt := by rw [ez_1]
  refine yloop (σ := Int32 × yD) (fun x => ((x.1 : Int32).toInt + 2147483648).toNat) 6 (fun x H locs ls => va_P G.1 xcl (yW G S x.2) H ∧ va_D A (yW G S x.2) ∧ va_S A s.heap H locs ∧ yAg S [9, 45, 46, 47] d x.2 ∧ yPo S x.2 ∧ yK [1] d x.2 h0 ∧ yMI S x.2 h0 ∧ yAg S [45, 46, 47] d x.2 ∧ yK [] d x.2 h0 ∧ (0 ≤ ((x.1) : Int32).toInt ∧ ((x.1) : Int32).toInt ≤ 4999 ∧ (x.2.1 h0 1).toInt = (d.1 h0 1).toInt) ∧ lv_has ls 5 [(4, .int x.1), (0, .ref h0), (1, .int p0), (2, .int p1), (3, .int p2)]) (fun x H locs ls hI hnext_6 => ?_) (z_1, d) ⟨hP, hD, hS, hg0, hPo, yK.rf, hI, yAg.rf, yK.rf, (show (0 ≤ ((z_1) : Int32).toInt ∧ ((z_1) : Int32).toInt ≤ 4999 ∧ (d.1 h0 1).toInt = (d.1 h0 1).toInt) from by have hq0_ : (0 : Int32).toInt = 0 := (by decide +kernel); omega), lv_sub hl [0, 1, 2, 3, 4] rfl⟩
  obtain ⟨v_4, d_5⟩ := x
  obtain ⟨hP, hD, hS, hgd_5, hPod_5, hfd_5, hId_5, hLJd_5, hKJd_5, hex_7, hl⟩ := hI
  have hId_5 : yMI S d_5 h0 := hId_5
  have hex_7 : (0 ≤ ((v_4) : Int32).toInt ∧ ((v_4) : Int32).toInt ≤ 4999 ∧ (d_5.1 h0 1).toInt = (d.1 h0 1).toInt) := hex_7
  have hl : lv_has ls 5 [(4, .int v_4), (0, .ref h0), (1, .int p0), (2, .int p1), (3, .int p2)] := hl
  have hLJd_5 : yAg S [45, 46, 47] d d_5 := hLJd_5
  have hKJd_5 : yK [] d d_5 h0 := hKJd_5
  have hE0d_5 : (d_5.1 h0 0).toInt = (d.1 h0 0).toInt := congrArg Int32.toInt (hKJd_5 0 (by decide))
  have hE1d_5 : (d_5.1 h0 1).toInt = (d.1 h0 1).toInt := congrArg Int32.toInt (hKJd_5 1 (by decide))
  have hE2d_5 : (d_5.1 h0 2).toInt = (d.1 h0 2).toInt := congrArg Int32.toInt (hKJd_5 2 (by decide))
  have hE3d_5 : (d_5.1 h0 3).toInt = (d.1 h0 3).toInt := congrArg Int32.toInt (hKJd_5 3 (by decide))
  have hE63d_5 : (d_5.1 h0 63).toInt = (d.1 h0 63).toInt := congrArg Int32.toInt (hKJd_5 63 (by decide))
  refine lv_iload hx hb dX9_insert_6 (lv_at hl 0 rfl) ?_
  refine lv_if_le (tgt := 104) hx hb dX9_insert_8 (by decide) (fun c_8 => ?_) (fun c_8 => ?_)
  · refine lv_aload_n hx hb dX9_insert_104 rfl (lv_at hl 1 rfl) ?_
    refine yget (ci := 9) (k := 15) (v := .ref (S.2.2.1 h0 15)) (C := RX9) (T := TX9) (N := 67) C0 hK hP hm_h0 hk_h0 (by decide) rfl inlX9 (by decide) mW122 (fun _ h9 => h9) rfl dX9_insert_105 ?_
    obtain ⟨hmy_9, hky_9⟩ := ySh.f9_15 hSh _ hm_h0 hk_h0
    refine lv_iload hx hb dX9_insert_108 (lv_at hl 0 rfl) ?_
    refine lv_iload_n hx hb dX9_insert_110 rfl (lv_at hl 2 rfl) ?_
    refine lv_i2b hx hb dX9_insert_111 rfl ?_
    refine lv_topi (fun z_10 ez_10 => ?_)
    have hCC_11 := yMI.c hId_5
    have F_12 := fle (rfl : (v_4 : Int32).toInt = (v_4 : Int32).toInt) (by decide +kernel : (0 : Int32).toInt = 0) c_8
    refine yastB C0 hK hP hD hS hmy_9 hky_9 (by decide) rfl 1 rfl (xinT 5000 rfl (by omega) (by omega)) dX9_insert_112 (fun H locs hP hD hS => ?_)
    obtain ⟨d_13, ed_13⟩ : ∃ z : yD, z = ycs d_5 (S.2.2.1 h0 15) (upd (d_5.2.2.2.1 (S.2.2.1 h0 15)) (v_4 : Int32).toNatClampNeg (vp_nar .byte z_10)) := ⟨_, rfl⟩
    rw [← ed_13] at hP hD
    have hgd_13 : yAg S [9, 45, 46, 47] d d_13 := by rw [ed_13]; exact yAg.cs hgd_5 (by rw [hky_9]; decide)
    have hPod_13 : yPo S d_13 := by rw [ed_13]; exact hPod_5
    have hfd_13 : yK [1] d d_13 h0 := yK.ag hfd_5 (show yAg S [45] d_5 d_13 from by rw [ed_13]; exact yAg.cs yAg.rf (by rw [hky_9]; decide)) (by rw [hk_h0]; decide)
    have hId_13 : yMI S d_13 h0 := yMI.ag hId_5 hSh hm_h0 hk_h0 (show yAg S [45] d_5 d_13 from by rw [ed_13]; exact yAg.cs yAg.rf (by rw [hky_9]; decide)) (yK.ag (F := []) yK.rf (show yAg S [45] d_5 d_13 from by rw [ed_13]; exact yAg.cs yAg.rf (by rw [hky_9]; decide)) (by rw [hk_h0]; decide)) (by decide) (by decide)
    have hE0d_13 : (d_13.1 h0 0).toInt = (d_5.1 h0 0).toInt := congrArg Int32.toInt ((yK.ag (F := []) yK.rf (show yAg S [45] d_5 d_13 from by rw [ed_13]; exact yAg.cs yAg.rf (by rw [hky_9]; decide)) (by rw [hk_h0]; decide)) 0 (by decide))
    have hE1d_13 : (d_13.1 h0 1).toInt = (d_5.1 h0 1).toInt := congrArg Int32.toInt ((yK.ag (F := []) yK.rf (show yAg S [45] d_5 d_13 from by rw [ed_13]; exact yAg.cs yAg.rf (by rw [hky_9]; decide)) (by rw [hk_h0]; decide)) 1 (by decide))
    have hE2d_13 : (d_13.1 h0 2).toInt = (d_5.1 h0 2).toInt := congrArg Int32.toInt ((yK.ag (F := []) yK.rf (show yAg S [45] d_5 d_13 from by rw [ed_13]; exact yAg.cs yAg.rf (by rw [hky_9]; decide)) (by rw [hk_h0]; decide)) 2 (by decide))
    have hE3d_13 : (d_13.1 h0 3).toInt = (d_5.1 h0 3).toInt := congrArg Int32.toInt ((yK.ag (F := []) yK.rf (show yAg S [45] d_5 d_13 from by rw [ed_13]; exact yAg.cs yAg.rf (by rw [hky_9]; decide)) (by rw [hk_h0]; decide)) 3 (by decide))
    have hE63d_13 : (d_13.1 h0 63).toInt = (d_5.1 h0 63).toInt := congrArg Int32.toInt ((yK.ag (F := []) yK.rf (show yAg S [45] d_5 d_13 from by rw [ed_13]; exact yAg.cs yAg.rf (by rw [hky_9]; decide)) (by rw [hk_h0]; decide)) 63 (by decide))
    refine lv_aload_n hx hb dX9_insert_113 rfl (lv_at hl 1 rfl) ?_
    refine yget (ci := 9) (k := 16) (v := .ref (S.2.2.1 h0 16)) (C := RX9) (T := TX9) (N := 67) C0 hK hP hm_h0 hk_h0 (by decide) rfl inlX9 (by decide) mW123 (fun _ h9 => h9) rfl dX9_insert_114 ?_
    obtain ⟨hmy_14, hky_14⟩ := ySh.f9_16 hSh _ hm_h0 hk_h0
    refine lv_iload hx hb dX9_insert_117 (lv_at hl 0 rfl) ?_
    refine lv_iload_n hx hb dX9_insert_119 rfl (lv_at hl 3 rfl) ?_
    have hCC_15 := yMI.c hId_13
    refine yast C0 hK hP hD hS hmy_14 hky_14 (by decide) rfl 0 rfl (xinT 5000 rfl (by omega) (by omega)) dX9_insert_120 (fun H locs hP hD hS => ?_)
    obtain ⟨d_16, ed_16⟩ : ∃ z : yD, z = ycs d_13 (S.2.2.1 h0 16) (upd (d_13.2.2.2.1 (S.2.2.1 h0 16)) (v_4 : Int32).toNatClampNeg p1) := ⟨_, rfl⟩
    rw [← ed_16] at hP hD
    have hgd_16 : yAg S [9, 45, 46, 47] d d_16 := by rw [ed_16]; exact yAg.cs hgd_13 (by rw [hky_14]; decide)
    have hPod_16 : yPo S d_16 := by rw [ed_16]; exact hPod_13
    have hfd_16 : yK [1] d d_16 h0 := yK.ag hfd_13 (show yAg S [46] d_13 d_16 from by rw [ed_16]; exact yAg.cs yAg.rf (by rw [hky_14]; decide)) (by rw [hk_h0]; decide)
    have hId_16 : yMI S d_16 h0 := by rw [ed_16]; exact yMI.w16 hId_13 hSh hm_h0 hk_h0 (yBr.up (yMI.em_ hId_13) ⟨by omega, by omega⟩)
    have hE0d_16 : (d_16.1 h0 0).toInt = (d_13.1 h0 0).toInt := congrArg Int32.toInt ((yK.ag (F := []) yK.rf (show yAg S [46] d_13 d_16 from by rw [ed_16]; exact yAg.cs yAg.rf (by rw [hky_14]; decide)) (by rw [hk_h0]; decide)) 0 (by decide))
    have hE1d_16 : (d_16.1 h0 1).toInt = (d_13.1 h0 1).toInt := congrArg Int32.toInt ((yK.ag (F := []) yK.rf (show yAg S [46] d_13 d_16 from by rw [ed_16]; exact yAg.cs yAg.rf (by rw [hky_14]; decide)) (by rw [hk_h0]; decide)) 1 (by decide))
    have hE2d_16 : (d_16.1 h0 2).toInt = (d_13.1 h0 2).toInt := congrArg Int32.toInt ((yK.ag (F := []) yK.rf (show yAg S [46] d_13 d_16 from by rw [ed_16]; exact yAg.cs yAg.rf (by rw [hky_14]; decide)) (by rw [hk_h0]; decide)) 2 (by decide))
    have hE3d_16 : (d_16.1 h0 3).toInt = (d_13.1 h0 3).toInt := congrArg Int32.toInt ((yK.ag (F := []) yK.rf (show yAg S [46] d_13 d_16 from by rw [ed_16]; exact yAg.cs yAg.rf (by rw [hky_14]; decide)) (by rw [hk_h0]; decide)) 3 (by decide))
    have hE63d_16 : (d_16.1 h0 63).toInt = (d_13.1 h0 63).toInt := congrArg Int32.toInt ((yK.ag (F := []) yK.rf (show yAg S [46] d_13 d_16 from by rw [ed_16]; exact yAg.cs yAg.rf (by rw [hky_14]; decide)) (by rw [hk_h0]; decide)) 63 (by decide))
    refine lv_aload_n hx hb dX9_insert_121 rfl (lv_at hl 1 rfl) ?_
    refine yget (ci := 9) (k := 17) (v := .ref (S.2.2.1 h0 17)) (C := RX9) (T := TX9) (N := 67) C0 hK hP hm_h0 hk_h0 (by decide) rfl inlX9 (by decide) mW124 (fun _ h9 => h9) rfl dX9_insert_122 ?_
    obtain ⟨hmy_17, hky_17⟩ := ySh.f9_17 hSh _ hm_h0 hk_h0
    refine lv_iload hx hb dX9_insert_125 (lv_at hl 0 rfl) ?_
    refine lv_iload_n hx hb dX9_insert_127 rfl (lv_at hl 4 rfl) ?_
    refine lv_i2b hx hb dX9_insert_128 rfl ?_
    refine lv_topi (fun z_18 ez_18 => ?_)
    have hCC_19 := yMI.c hId_16
    refine yastB C0 hK hP hD hS hmy_17 hky_17 (by decide) rfl 1 rfl (xinT 5000 rfl (by omega) (by omega)) dX9_insert_129 (fun H locs hP hD hS => ?_)
    obtain ⟨d_20, ed_20⟩ : ∃ z : yD, z = ycs d_16 (S.2.2.1 h0 17) (upd (d_16.2.2.2.1 (S.2.2.1 h0 17)) (v_4 : Int32).toNatClampNeg (vp_nar .byte z_18)) := ⟨_, rfl⟩
    rw [← ed_20] at hP hD
    have hgd_20 : yAg S [9, 45, 46, 47] d d_20 := by rw [ed_20]; exact yAg.cs hgd_16 (by rw [hky_17]; decide)
    have hPod_20 : yPo S d_20 := by rw [ed_20]; exact hPod_16
    have hfd_20 : yK [1] d d_20 h0 := yK.ag hfd_16 (show yAg S [47] d_16 d_20 from by rw [ed_20]; exact yAg.cs yAg.rf (by rw [hky_17]; decide)) (by rw [hk_h0]; decide)
    have hId_20 : yMI S d_20 h0 := yMI.ag hId_16 hSh hm_h0 hk_h0 (show yAg S [47] d_16 d_20 from by rw [ed_20]; exact yAg.cs yAg.rf (by rw [hky_17]; decide)) (yK.ag (F := []) yK.rf (show yAg S [47] d_16 d_20 from by rw [ed_20]; exact yAg.cs yAg.rf (by rw [hky_17]; decide)) (by rw [hk_h0]; decide)) (by decide) (by decide)
    have hE0d_20 : (d_20.1 h0 0).toInt = (d_16.1 h0 0).toInt := congrArg Int32.toInt ((yK.ag (F := []) yK.rf (show yAg S [47] d_16 d_20 from by rw [ed_20]; exact yAg.cs yAg.rf (by rw [hky_17]; decide)) (by rw [hk_h0]; decide)) 0 (by decide))
    have hE1d_20 : (d_20.1 h0 1).toInt = (d_16.1 h0 1).toInt := congrArg Int32.toInt ((yK.ag (F := []) yK.rf (show yAg S [47] d_16 d_20 from by rw [ed_20]; exact yAg.cs yAg.rf (by rw [hky_17]; decide)) (by rw [hk_h0]; decide)) 1 (by decide))
    have hE2d_20 : (d_20.1 h0 2).toInt = (d_16.1 h0 2).toInt := congrArg Int32.toInt ((yK.ag (F := []) yK.rf (show yAg S [47] d_16 d_20 from by rw [ed_20]; exact yAg.cs yAg.rf (by rw [hky_17]; decide)) (by rw [hk_h0]; decide)) 2 (by decide))
    have hE3d_20 : (d_20.1 h0 3).toInt = (d_16.1 h0 3).toInt := congrArg Int32.toInt ((yK.ag (F := []) yK.rf (show yAg S [47] d_16 d_20 from by rw [ed_20]; exact yAg.cs yAg.rf (by rw [hky_17]; decide)) (by rw [hk_h0]; decide)) 3 (by decide))
    have hE63d_20 : (d_20.1 h0 63).toInt = (d_16.1 h0 63).toInt := congrArg Int32.toInt ((yK.ag (F := []) yK.rf (show yAg S [47] d_16 d_20 from by rw [ed_20]; exact yAg.cs yAg.rf (by rw [hky_17]; decide)) (by rw [hk_h0]; decide)) 63 (by decide))
    refine lv_aload_n hx hb dX9_insert_130 rfl (lv_at hl 1 rfl) ?_
    refine lv_dup hx hb dX9_insert_131 rfl ?_
    refine yget (ci := 9) (k := 1) (v := .int (d_20.1 h0 1)) (C := RX9) (T := TX9) (N := 67) C0 hK hP hm_h0 hk_h0 (by decide) rfl inlX9 (by decide) mW364 (fun _ h9 => h9) rfl dX9_insert_132 ?_
    refine lv_topi (fun z_21 ez_21 => ?_)
    refine lv_iconst (v := 1) hx hb dX9_insert_135 (by decide) ?_
    refine lv_iadd hx hb dX9_insert_136 ?_
    refine lv_topi (fun z_22 ez_22 => ?_)
    refine yputI (ci := 9) (k := 1) (ty := .int) (C := RX9) (T := TX9) (N := 67) C0 hK hP hD hS hm_h0 hk_h0 (by decide) rfl inlX9 tyX9 tyX9_ok nmX9 (by decide) mW364 (fun _ h9 => h9) rfl (by decide +kernel) rfl rfl (Nat.le_of_ble_eq_true rfl) ysi_9_1 dX9_insert_137 (fun H locs hP hD hS => ?_)
    obtain ⟨d_23, ed_23⟩ : ∃ z : yD, z = yi d_20 h0 1 z_22 := ⟨_, rfl⟩
    rw [← ed_23] at hP hD
    have hgd_23 : yAg S [9, 45, 46, 47] d d_23 := by rw [ed_23]; exact yAg.i hgd_20 (by rw [hk_h0]; decide)
    have hPod_23 : yPo S d_23 := by rw [ed_23]; exact yPo.i hPod_20 hk_h0 (Or.inl rfl)
    have hfd_23 : yK [1] d d_23 h0 := by rw [ed_23]; exact yK.i hfd_20 (by decide)
    have hCC_24 := yMI.c hId_20
    have T_26 : (z_21 : Int32).toInt = (d_20.1 h0 1).toInt := by rw [ez_21]
    have T_25 : (z_22 : Int32).toInt = (z_21 : Int32).toInt + 1 := tadd ez_22 (rfl : (z_21 : Int32).toInt = (z_21 : Int32).toInt) (by decide +kernel : (1 : Int32).toInt = 1) (by omega) (by omega)
    have hId_23 : yMI S d_23 h0 := by rw [ed_23]; exact yMI.i1 hId_20 ⟨by omega, by omega⟩
    have hE0d_23 : (d_23.1 h0 0).toInt = (d_20.1 h0 0).toInt := congrArg Int32.toInt ((show yK [1] d_20 d_23 h0 from by rw [ed_23]; exact yK.i yK.rf (by decide)) 0 (by decide))
    have hE1d_23 : (d_23.1 h0 1).toInt = (z_22 : Int32).toInt := by rw [ed_23, yi_self]
    have hE2d_23 : (d_23.1 h0 2).toInt = (d_20.1 h0 2).toInt := congrArg Int32.toInt ((show yK [1] d_20 d_23 h0 from by rw [ed_23]; exact yK.i yK.rf (by decide)) 2 (by decide))
    have hE3d_23 : (d_23.1 h0 3).toInt = (d_20.1 h0 3).toInt := congrArg Int32.toInt ((show yK [1] d_20 d_23 h0 from by rw [ed_23]; exact yK.i yK.rf (by decide)) 3 (by decide))
    have hE63d_23 : (d_23.1 h0 63).toInt = (d_20.1 h0 63).toInt := congrArg Int32.toInt ((show yK [1] d_20 d_23 h0 from by rw [ed_23]; exact yK.i yK.rf (by decide)) 63 (by decide))
    have hCC_27 := yMI.c hId_23
    exact W.vret hx hb hr (fun t ht hW => ⟨⟨d_23, rfl, ⟨hgd_23, (fun _ => hPod_23), hfd_23, ⟨hId_23, by omega⟩⟩, by rw [ht]; exact hP, hD⟩, hS.F ht⟩) hS.2.2 dX9_insert_140
  · refine lv_aload_n hx hb dX9_insert_11 rfl (lv_at hl 1 rfl) ?_
    refine yget (ci := 9) (k := 15) (v := .ref (S.2.2.1 h0 15)) (C := RX9) (T := TX9) (N := 67) C0 hK hP hm_h0 hk_h0 (by decide) rfl inlX9 (by decide) mW122 (fun _ h9 => h9) rfl dX9_insert_12 ?_
    obtain ⟨hmy_28, hky_28⟩ := ySh.f9_15 hSh _ hm_h0 hk_h0
    refine lv_iload hx hb dX9_insert_15 (lv_at hl 0 rfl) ?_
    refine lv_iconst (v := 1) hx hb dX9_insert_17 (by decide) ?_
    refine lv_isub hx hb dX9_insert_18 ?_
    refine lv_topi (fun z_29 ez_29 => ?_)
    have hCC_30 := yMI.c hId_5
    have F_31 := fnle (rfl : (v_4 : Int32).toInt = (v_4 : Int32).toInt) (by decide +kernel : (0 : Int32).toInt = 0) c_8
    have T_32 : (z_29 : Int32).toInt = (v_4 : Int32).toInt - 1 := tsub ez_29 (rfl : (v_4 : Int32).toInt = (v_4 : Int32).toInt) (by decide +kernel : (1 : Int32).toInt = 1) (by omega) (by omega)
    refine yaldB C0 hK hP hmy_28 hky_28 (by decide) rfl 1 rfl (xinT 5000 rfl (by omega) (by omega)) dX9_insert_19 ?_
    refine lv_topi (fun z_33 ez_33 => ?_)
    refine lv_iload_n hx hb dX9_insert_20 rfl (lv_at hl 2 rfl) ?_
    refine lv_icmp_gt (tgt := 50) hx hb dX9_insert_21 (by decide) (fun c_34 => ?_) (fun c_34 => ?_)
    · refine lv_aload_n hx hb dX9_insert_50 rfl (lv_at hl 1 rfl) ?_
      refine yget (ci := 9) (k := 15) (v := .ref (S.2.2.1 h0 15)) (C := RX9) (T := TX9) (N := 67) C0 hK hP hm_h0 hk_h0 (by decide) rfl inlX9 (by decide) mW122 (fun _ h9 => h9) rfl dX9_insert_51 ?_
      refine lv_iload hx hb dX9_insert_54 (lv_at hl 0 rfl) ?_
      refine lv_aload_n hx hb dX9_insert_56 rfl (lv_at hl 1 rfl) ?_
      refine yget (ci := 9) (k := 15) (v := .ref (S.2.2.1 h0 15)) (C := RX9) (T := TX9) (N := 67) C0 hK hP hm_h0 hk_h0 (by decide) rfl inlX9 (by decide) mW122 (fun _ h9 => h9) rfl dX9_insert_57 ?_
      refine lv_iload hx hb dX9_insert_60 (lv_at hl 0 rfl) ?_
      refine lv_iconst (v := 1) hx hb dX9_insert_62 (by decide) ?_
      refine lv_isub hx hb dX9_insert_63 ?_
      refine lv_topi (fun z_35 ez_35 => ?_)
      have F_37 := flt (rfl : (p0 : Int32).toInt = (p0 : Int32).toInt) (rfl : (z_33 : Int32).toInt = (z_33 : Int32).toInt) c_34
      have T_38 : (z_35 : Int32).toInt = (v_4 : Int32).toInt - 1 := tsub ez_35 (rfl : (v_4 : Int32).toInt = (v_4 : Int32).toInt) (by decide +kernel : (1 : Int32).toInt = 1) (by omega) (by omega)
      refine yaldB C0 hK hP hmy_28 hky_28 (by decide) rfl 1 rfl (xinT 5000 rfl (by omega) (by omega)) dX9_insert_64 ?_
      refine lv_topi (fun z_39 ez_39 => ?_)
      refine yastB C0 hK hP hD hS hmy_28 hky_28 (by decide) rfl 1 rfl (xinT 5000 rfl (by omega) (by omega)) dX9_insert_65 (fun H locs hP hD hS => ?_)
      obtain ⟨d_40, ed_40⟩ : ∃ z : yD, z = ycs d_5 (S.2.2.1 h0 15) (upd (d_5.2.2.2.1 (S.2.2.1 h0 15)) (v_4 : Int32).toNatClampNeg (vp_nar .byte z_39)) := ⟨_, rfl⟩
      rw [← ed_40] at hP hD
      have hgd_40 : yAg S [9, 45, 46, 47] d d_40 := by rw [ed_40]; exact yAg.cs hgd_5 (by rw [hky_28]; decide)
      have hPod_40 : yPo S d_40 := by rw [ed_40]; exact hPod_5
      have hfd_40 : yK [1] d d_40 h0 := yK.ag hfd_5 (show yAg S [45] d_5 d_40 from by rw [ed_40]; exact yAg.cs yAg.rf (by rw [hky_28]; decide)) (by rw [hk_h0]; decide)
      have hL0d_40 : yAg S [45, 46, 47] d d_40 := by rw [ed_40]; exact yAg.cs hLJd_5 (by rw [hky_28]; decide)
      have hK0d_40 : yK [] d d_40 h0 := yK.ag hKJd_5 (show yAg S [45] d_5 d_40 from by rw [ed_40]; exact yAg.cs yAg.rf (by rw [hky_28]; decide)) (by rw [hk_h0]; decide)
      have hId_40 : yMI S d_40 h0 := yMI.ag hId_5 hSh hm_h0 hk_h0 (show yAg S [45] d_5 d_40 from by rw [ed_40]; exact yAg.cs yAg.rf (by rw [hky_28]; decide)) (yK.ag (F := []) yK.rf (show yAg S [45] d_5 d_40 from by rw [ed_40]; exact yAg.cs yAg.rf (by rw [hky_28]; decide)) (by rw [hk_h0]; decide)) (by decide) (by decide)
      have hE0d_40 : (d_40.1 h0 0).toInt = (d_5.1 h0 0).toInt := congrArg Int32.toInt ((yK.ag (F := []) yK.rf (show yAg S [45] d_5 d_40 from by rw [ed_40]; exact yAg.cs yAg.rf (by rw [hky_28]; decide)) (by rw [hk_h0]; decide)) 0 (by decide))
      have hE1d_40 : (d_40.1 h0 1).toInt = (d_5.1 h0 1).toInt := congrArg Int32.toInt ((yK.ag (F := []) yK.rf (show yAg S [45] d_5 d_40 from by rw [ed_40]; exact yAg.cs yAg.rf (by rw [hky_28]; decide)) (by rw [hk_h0]; decide)) 1 (by decide))
      have hE2d_40 : (d_40.1 h0 2).toInt = (d_5.1 h0 2).toInt := congrArg Int32.toInt ((yK.ag (F := []) yK.rf (show yAg S [45] d_5 d_40 from by rw [ed_40]; exact yAg.cs yAg.rf (by rw [hky_28]; decide)) (by rw [hk_h0]; decide)) 2 (by decide))
      have hE3d_40 : (d_40.1 h0 3).toInt = (d_5.1 h0 3).toInt := congrArg Int32.toInt ((yK.ag (F := []) yK.rf (show yAg S [45] d_5 d_40 from by rw [ed_40]; exact yAg.cs yAg.rf (by rw [hky_28]; decide)) (by rw [hk_h0]; decide)) 3 (by decide))
      have hE63d_40 : (d_40.1 h0 63).toInt = (d_5.1 h0 63).toInt := congrArg Int32.toInt ((yK.ag (F := []) yK.rf (show yAg S [45] d_5 d_40 from by rw [ed_40]; exact yAg.cs yAg.rf (by rw [hky_28]; decide)) (by rw [hk_h0]; decide)) 63 (by decide))
      refine lv_aload_n hx hb dX9_insert_66 rfl (lv_at hl 1 rfl) ?_
      refine yget (ci := 9) (k := 16) (v := .ref (S.2.2.1 h0 16)) (C := RX9) (T := TX9) (N := 67) C0 hK hP hm_h0 hk_h0 (by decide) rfl inlX9 (by decide) mW123 (fun _ h9 => h9) rfl dX9_insert_67 ?_
      obtain ⟨hmy_41, hky_41⟩ := ySh.f9_16 hSh _ hm_h0 hk_h0
      refine lv_iload hx hb dX9_insert_70 (lv_at hl 0 rfl) ?_
      refine lv_aload_n hx hb dX9_insert_72 rfl (lv_at hl 1 rfl) ?_
      refine yget (ci := 9) (k := 16) (v := .ref (S.2.2.1 h0 16)) (C := RX9) (T := TX9) (N := 67) C0 hK hP hm_h0 hk_h0 (by decide) rfl inlX9 (by decide) mW123 (fun _ h9 => h9) rfl dX9_insert_73 ?_
      refine lv_iload hx hb dX9_insert_76 (lv_at hl 0 rfl) ?_
      refine lv_iconst (v := 1) hx hb dX9_insert_78 (by decide) ?_
      refine lv_isub hx hb dX9_insert_79 ?_
      refine lv_topi (fun z_42 ez_42 => ?_)
      have hCC_43 := yMI.c hId_40
      have T_44 : (z_42 : Int32).toInt = (v_4 : Int32).toInt - 1 := tsub ez_42 (rfl : (v_4 : Int32).toInt = (v_4 : Int32).toInt) (by decide +kernel : (1 : Int32).toInt = 1) (by omega) (by omega)
      refine yald C0 hK hP hmy_41 hky_41 (by decide) rfl 0 rfl (xinT 5000 rfl (by omega) (by omega)) dX9_insert_80 ?_
      refine lv_topi (fun z_45 ez_45 => ?_)
      have hvz_45 : 0 ≤ (z_45 : Int32).toInt ∧ (z_45 : Int32).toInt ≤ 129599 := by rw [ez_45]; exact yMI.em_ hId_40 _
      refine yast C0 hK hP hD hS hmy_41 hky_41 (by decide) rfl 0 rfl (xinT 5000 rfl (by omega) (by omega)) dX9_insert_81 (fun H locs hP hD hS => ?_)
      obtain ⟨d_46, ed_46⟩ : ∃ z : yD, z = ycs d_40 (S.2.2.1 h0 16) (upd (d_40.2.2.2.1 (S.2.2.1 h0 16)) (v_4 : Int32).toNatClampNeg z_45) := ⟨_, rfl⟩
      rw [← ed_46] at hP hD
      have hgd_46 : yAg S [9, 45, 46, 47] d d_46 := by rw [ed_46]; exact yAg.cs hgd_40 (by rw [hky_41]; decide)
      have hPod_46 : yPo S d_46 := by rw [ed_46]; exact hPod_40
      have hfd_46 : yK [1] d d_46 h0 := yK.ag hfd_40 (show yAg S [46] d_40 d_46 from by rw [ed_46]; exact yAg.cs yAg.rf (by rw [hky_41]; decide)) (by rw [hk_h0]; decide)
      have hL0d_46 : yAg S [45, 46, 47] d d_46 := by rw [ed_46]; exact yAg.cs hL0d_40 (by rw [hky_41]; decide)
      have hK0d_46 : yK [] d d_46 h0 := yK.ag hK0d_40 (show yAg S [46] d_40 d_46 from by rw [ed_46]; exact yAg.cs yAg.rf (by rw [hky_41]; decide)) (by rw [hk_h0]; decide)
      have hId_46 : yMI S d_46 h0 := by rw [ed_46]; exact yMI.w16 hId_40 hSh hm_h0 hk_h0 (yBr.up (yMI.em_ hId_40) ⟨by omega, by omega⟩)
      have hE0d_46 : (d_46.1 h0 0).toInt = (d_40.1 h0 0).toInt := congrArg Int32.toInt ((yK.ag (F := []) yK.rf (show yAg S [46] d_40 d_46 from by rw [ed_46]; exact yAg.cs yAg.rf (by rw [hky_41]; decide)) (by rw [hk_h0]; decide)) 0 (by decide))
      have hE1d_46 : (d_46.1 h0 1).toInt = (d_40.1 h0 1).toInt := congrArg Int32.toInt ((yK.ag (F := []) yK.rf (show yAg S [46] d_40 d_46 from by rw [ed_46]; exact yAg.cs yAg.rf (by rw [hky_41]; decide)) (by rw [hk_h0]; decide)) 1 (by decide))
      have hE2d_46 : (d_46.1 h0 2).toInt = (d_40.1 h0 2).toInt := congrArg Int32.toInt ((yK.ag (F := []) yK.rf (show yAg S [46] d_40 d_46 from by rw [ed_46]; exact yAg.cs yAg.rf (by rw [hky_41]; decide)) (by rw [hk_h0]; decide)) 2 (by decide))
      have hE3d_46 : (d_46.1 h0 3).toInt = (d_40.1 h0 3).toInt := congrArg Int32.toInt ((yK.ag (F := []) yK.rf (show yAg S [46] d_40 d_46 from by rw [ed_46]; exact yAg.cs yAg.rf (by rw [hky_41]; decide)) (by rw [hk_h0]; decide)) 3 (by decide))
      have hE63d_46 : (d_46.1 h0 63).toInt = (d_40.1 h0 63).toInt := congrArg Int32.toInt ((yK.ag (F := []) yK.rf (show yAg S [46] d_40 d_46 from by rw [ed_46]; exact yAg.cs yAg.rf (by rw [hky_41]; decide)) (by rw [hk_h0]; decide)) 63 (by decide))
      refine lv_aload_n hx hb dX9_insert_82 rfl (lv_at hl 1 rfl) ?_
      refine yget (ci := 9) (k := 17) (v := .ref (S.2.2.1 h0 17)) (C := RX9) (T := TX9) (N := 67) C0 hK hP hm_h0 hk_h0 (by decide) rfl inlX9 (by decide) mW124 (fun _ h9 => h9) rfl dX9_insert_83 ?_
      obtain ⟨hmy_48, hky_48⟩ := ySh.f9_17 hSh _ hm_h0 hk_h0
      refine lv_iload hx hb dX9_insert_86 (lv_at hl 0 rfl) ?_
      refine lv_aload_n hx hb dX9_insert_88 rfl (lv_at hl 1 rfl) ?_
      refine yget (ci := 9) (k := 17) (v := .ref (S.2.2.1 h0 17)) (C := RX9) (T := TX9) (N := 67) C0 hK hP hm_h0 hk_h0 (by decide) rfl inlX9 (by decide) mW124 (fun _ h9 => h9) rfl dX9_insert_89 ?_
      refine lv_iload hx hb dX9_insert_92 (lv_at hl 0 rfl) ?_
      refine lv_iconst (v := 1) hx hb dX9_insert_94 (by decide) ?_
      refine lv_isub hx hb dX9_insert_95 ?_
      refine lv_topi (fun z_49 ez_49 => ?_)
      have hCC_50 := yMI.c hId_46
      have T_51 : (z_49 : Int32).toInt = (v_4 : Int32).toInt - 1 := tsub ez_49 (rfl : (v_4 : Int32).toInt = (v_4 : Int32).toInt) (by decide +kernel : (1 : Int32).toInt = 1) (by omega) (by omega)
      refine yaldB C0 hK hP hmy_48 hky_48 (by decide) rfl 1 rfl (xinT 5000 rfl (by omega) (by omega)) dX9_insert_96 ?_
      refine lv_topi (fun z_52 ez_52 => ?_)
      refine yastB C0 hK hP hD hS hmy_48 hky_48 (by decide) rfl 1 rfl (xinT 5000 rfl (by omega) (by omega)) dX9_insert_97 (fun H locs hP hD hS => ?_)
      obtain ⟨d_53, ed_53⟩ : ∃ z : yD, z = ycs d_46 (S.2.2.1 h0 17) (upd (d_46.2.2.2.1 (S.2.2.1 h0 17)) (v_4 : Int32).toNatClampNeg (vp_nar .byte z_52)) := ⟨_, rfl⟩
      rw [← ed_53] at hP hD
      have hgd_53 : yAg S [9, 45, 46, 47] d d_53 := by rw [ed_53]; exact yAg.cs hgd_46 (by rw [hky_48]; decide)
      have hPod_53 : yPo S d_53 := by rw [ed_53]; exact hPod_46
      have hfd_53 : yK [1] d d_53 h0 := yK.ag hfd_46 (show yAg S [47] d_46 d_53 from by rw [ed_53]; exact yAg.cs yAg.rf (by rw [hky_48]; decide)) (by rw [hk_h0]; decide)
      have hL0d_53 : yAg S [45, 46, 47] d d_53 := by rw [ed_53]; exact yAg.cs hL0d_46 (by rw [hky_48]; decide)
      have hK0d_53 : yK [] d d_53 h0 := yK.ag hK0d_46 (show yAg S [47] d_46 d_53 from by rw [ed_53]; exact yAg.cs yAg.rf (by rw [hky_48]; decide)) (by rw [hk_h0]; decide)
      have hId_53 : yMI S d_53 h0 := yMI.ag hId_46 hSh hm_h0 hk_h0 (show yAg S [47] d_46 d_53 from by rw [ed_53]; exact yAg.cs yAg.rf (by rw [hky_48]; decide)) (yK.ag (F := []) yK.rf (show yAg S [47] d_46 d_53 from by rw [ed_53]; exact yAg.cs yAg.rf (by rw [hky_48]; decide)) (by rw [hk_h0]; decide)) (by decide) (by decide)
      have hE0d_53 : (d_53.1 h0 0).toInt = (d_46.1 h0 0).toInt := congrArg Int32.toInt ((yK.ag (F := []) yK.rf (show yAg S [47] d_46 d_53 from by rw [ed_53]; exact yAg.cs yAg.rf (by rw [hky_48]; decide)) (by rw [hk_h0]; decide)) 0 (by decide))
      have hE1d_53 : (d_53.1 h0 1).toInt = (d_46.1 h0 1).toInt := congrArg Int32.toInt ((yK.ag (F := []) yK.rf (show yAg S [47] d_46 d_53 from by rw [ed_53]; exact yAg.cs yAg.rf (by rw [hky_48]; decide)) (by rw [hk_h0]; decide)) 1 (by decide))
      have hE2d_53 : (d_53.1 h0 2).toInt = (d_46.1 h0 2).toInt := congrArg Int32.toInt ((yK.ag (F := []) yK.rf (show yAg S [47] d_46 d_53 from by rw [ed_53]; exact yAg.cs yAg.rf (by rw [hky_48]; decide)) (by rw [hk_h0]; decide)) 2 (by decide))
      have hE3d_53 : (d_53.1 h0 3).toInt = (d_46.1 h0 3).toInt := congrArg Int32.toInt ((yK.ag (F := []) yK.rf (show yAg S [47] d_46 d_53 from by rw [ed_53]; exact yAg.cs yAg.rf (by rw [hky_48]; decide)) (by rw [hk_h0]; decide)) 3 (by decide))
      have hE63d_53 : (d_53.1 h0 63).toInt = (d_46.1 h0 63).toInt := congrArg Int32.toInt ((yK.ag (F := []) yK.rf (show yAg S [47] d_46 d_53 from by rw [ed_53]; exact yAg.cs yAg.rf (by rw [hky_48]; decide)) (by rw [hk_h0]; decide)) 63 (by decide))
      refine lv_iinc (v := v_4 + (-1)) (lv' := [(4, .int (v_4 + (-1))), (0, .ref h0), (1, .int p0), (2, .int p1), (3, .int p2)]) hx hb dX9_insert_98 hl (k := 0) rfl rfl (by decide) rfl (fun ls hl => ?_)
      obtain ⟨z_54, ez_54⟩ : ∃ z : Int32, z = v_4 + (-1) := ⟨_, rfl⟩
      rw [← ez_54] at hl
      refine lv_goto (tgt := 6) hx hb dX9_insert_101 (by decide) ?_
      have hCC_55 := yMI.c hId_53
      have T_56 : (z_54 : Int32).toInt = (v_4 : Int32).toInt + (-1) := tadd ez_54 (rfl : (v_4 : Int32).toInt = (v_4 : Int32).toInt) (by decide +kernel : ((-1) : Int32).toInt = (-1)) (by omega) (by omega)
      exact hnext_6 (z_54, d_53) _ _ ls (xdnl2 ez_54 c_8) ⟨hP, hD, hS, hgd_53, hPod_53, hfd_53, hId_53, hL0d_53, hK0d_53, (show (0 ≤ ((z_54) : Int32).toInt ∧ ((z_54) : Int32).toInt ≤ 4999 ∧ (d_53.1 h0 1).toInt = (d.1 h0 1).toInt) from by have hq0_ : (0 : Int32).toInt = 0 := (by decide +kernel); omega), lv_sub hl [0, 1, 2, 3, 4] rfl⟩
    · refine lv_aload_n hx hb dX9_insert_24 rfl (lv_at hl 1 rfl) ?_
      refine yget (ci := 9) (k := 15) (v := .ref (S.2.2.1 h0 15)) (C := RX9) (T := TX9) (N := 67) C0 hK hP hm_h0 hk_h0 (by decide) rfl inlX9 (by decide) mW122 (fun _ h9 => h9) rfl dX9_insert_25 ?_
      refine lv_iload hx hb dX9_insert_28 (lv_at hl 0 rfl) ?_
      refine lv_iconst (v := 1) hx hb dX9_insert_30 (by decide) ?_
      refine lv_isub hx hb dX9_insert_31 ?_
      refine lv_topi (fun z_57 ez_57 => ?_)
      have F_59 := fnlt (rfl : (p0 : Int32).toInt = (p0 : Int32).toInt) (rfl : (z_33 : Int32).toInt = (z_33 : Int32).toInt) c_34
      have T_60 : (z_57 : Int32).toInt = (v_4 : Int32).toInt - 1 := tsub ez_57 (rfl : (v_4 : Int32).toInt = (v_4 : Int32).toInt) (by decide +kernel : (1 : Int32).toInt = 1) (by omega) (by omega)
      refine yaldB C0 hK hP hmy_28 hky_28 (by decide) rfl 1 rfl (xinT 5000 rfl (by omega) (by omega)) dX9_insert_32 ?_
      refine lv_topi (fun z_61 ez_61 => ?_)
      refine lv_iload_n hx hb dX9_insert_33 rfl (lv_at hl 2 rfl) ?_
      refine lv_icmp_ne (tgt := 104) hx hb dX9_insert_34 (by decide) (fun c_62 => ?_) (fun c_62 => ?_)
      · refine lv_aload_n hx hb dX9_insert_104 rfl (lv_at hl 1 rfl) ?_
        refine yget (ci := 9) (k := 15) (v := .ref (S.2.2.1 h0 15)) (C := RX9) (T := TX9) (N := 67) C0 hK hP hm_h0 hk_h0 (by decide) rfl inlX9 (by decide) mW122 (fun _ h9 => h9) rfl dX9_insert_105 ?_
        refine lv_iload hx hb dX9_insert_108 (lv_at hl 0 rfl) ?_
        refine lv_iload_n hx hb dX9_insert_110 rfl (lv_at hl 2 rfl) ?_
        refine lv_i2b hx hb dX9_insert_111 rfl ?_
        refine lv_topi (fun z_63 ez_63 => ?_)
        have F_65 := fne (rfl : (z_61 : Int32).toInt = (z_61 : Int32).toInt) (rfl : (p0 : Int32).toInt = (p0 : Int32).toInt) c_62
        refine yastB C0 hK hP hD hS hmy_28 hky_28 (by decide) rfl 1 rfl (xinT 5000 rfl (by omega) (by omega)) dX9_insert_112 (fun H locs hP hD hS => ?_)
        obtain ⟨d_66, ed_66⟩ : ∃ z : yD, z = ycs d_5 (S.2.2.1 h0 15) (upd (d_5.2.2.2.1 (S.2.2.1 h0 15)) (v_4 : Int32).toNatClampNeg (vp_nar .byte z_63)) := ⟨_, rfl⟩
        rw [← ed_66] at hP hD
        have hgd_66 : yAg S [9, 45, 46, 47] d d_66 := by rw [ed_66]; exact yAg.cs hgd_5 (by rw [hky_28]; decide)
        have hPod_66 : yPo S d_66 := by rw [ed_66]; exact hPod_5
        have hfd_66 : yK [1] d d_66 h0 := yK.ag hfd_5 (show yAg S [45] d_5 d_66 from by rw [ed_66]; exact yAg.cs yAg.rf (by rw [hky_28]; decide)) (by rw [hk_h0]; decide)
        have hId_66 : yMI S d_66 h0 := yMI.ag hId_5 hSh hm_h0 hk_h0 (show yAg S [45] d_5 d_66 from by rw [ed_66]; exact yAg.cs yAg.rf (by rw [hky_28]; decide)) (yK.ag (F := []) yK.rf (show yAg S [45] d_5 d_66 from by rw [ed_66]; exact yAg.cs yAg.rf (by rw [hky_28]; decide)) (by rw [hk_h0]; decide)) (by decide) (by decide)
        have hE0d_66 : (d_66.1 h0 0).toInt = (d_5.1 h0 0).toInt := congrArg Int32.toInt ((yK.ag (F := []) yK.rf (show yAg S [45] d_5 d_66 from by rw [ed_66]; exact yAg.cs yAg.rf (by rw [hky_28]; decide)) (by rw [hk_h0]; decide)) 0 (by decide))
        have hE1d_66 : (d_66.1 h0 1).toInt = (d_5.1 h0 1).toInt := congrArg Int32.toInt ((yK.ag (F := []) yK.rf (show yAg S [45] d_5 d_66 from by rw [ed_66]; exact yAg.cs yAg.rf (by rw [hky_28]; decide)) (by rw [hk_h0]; decide)) 1 (by decide))
        have hE2d_66 : (d_66.1 h0 2).toInt = (d_5.1 h0 2).toInt := congrArg Int32.toInt ((yK.ag (F := []) yK.rf (show yAg S [45] d_5 d_66 from by rw [ed_66]; exact yAg.cs yAg.rf (by rw [hky_28]; decide)) (by rw [hk_h0]; decide)) 2 (by decide))
        have hE3d_66 : (d_66.1 h0 3).toInt = (d_5.1 h0 3).toInt := congrArg Int32.toInt ((yK.ag (F := []) yK.rf (show yAg S [45] d_5 d_66 from by rw [ed_66]; exact yAg.cs yAg.rf (by rw [hky_28]; decide)) (by rw [hk_h0]; decide)) 3 (by decide))
        have hE63d_66 : (d_66.1 h0 63).toInt = (d_5.1 h0 63).toInt := congrArg Int32.toInt ((yK.ag (F := []) yK.rf (show yAg S [45] d_5 d_66 from by rw [ed_66]; exact yAg.cs yAg.rf (by rw [hky_28]; decide)) (by rw [hk_h0]; decide)) 63 (by decide))
        refine lv_aload_n hx hb dX9_insert_113 rfl (lv_at hl 1 rfl) ?_
        refine yget (ci := 9) (k := 16) (v := .ref (S.2.2.1 h0 16)) (C := RX9) (T := TX9) (N := 67) C0 hK hP hm_h0 hk_h0 (by decide) rfl inlX9 (by decide) mW123 (fun _ h9 => h9) rfl dX9_insert_114 ?_
        obtain ⟨hmy_67, hky_67⟩ := ySh.f9_16 hSh _ hm_h0 hk_h0
        refine lv_iload hx hb dX9_insert_117 (lv_at hl 0 rfl) ?_
        refine lv_iload_n hx hb dX9_insert_119 rfl (lv_at hl 3 rfl) ?_
        have hCC_68 := yMI.c hId_66
        refine yast C0 hK hP hD hS hmy_67 hky_67 (by decide) rfl 0 rfl (xinT 5000 rfl (by omega) (by omega)) dX9_insert_120 (fun H locs hP hD hS => ?_)
        obtain ⟨d_69, ed_69⟩ : ∃ z : yD, z = ycs d_66 (S.2.2.1 h0 16) (upd (d_66.2.2.2.1 (S.2.2.1 h0 16)) (v_4 : Int32).toNatClampNeg p1) := ⟨_, rfl⟩
        rw [← ed_69] at hP hD
        have hgd_69 : yAg S [9, 45, 46, 47] d d_69 := by rw [ed_69]; exact yAg.cs hgd_66 (by rw [hky_67]; decide)
        have hPod_69 : yPo S d_69 := by rw [ed_69]; exact hPod_66
        have hfd_69 : yK [1] d d_69 h0 := yK.ag hfd_66 (show yAg S [46] d_66 d_69 from by rw [ed_69]; exact yAg.cs yAg.rf (by rw [hky_67]; decide)) (by rw [hk_h0]; decide)
        have hId_69 : yMI S d_69 h0 := by rw [ed_69]; exact yMI.w16 hId_66 hSh hm_h0 hk_h0 (yBr.up (yMI.em_ hId_66) ⟨by omega, by omega⟩)
        have hE0d_69 : (d_69.1 h0 0).toInt = (d_66.1 h0 0).toInt := congrArg Int32.toInt ((yK.ag (F := []) yK.rf (show yAg S [46] d_66 d_69 from by rw [ed_69]; exact yAg.cs yAg.rf (by rw [hky_67]; decide)) (by rw [hk_h0]; decide)) 0 (by decide))
        have hE1d_69 : (d_69.1 h0 1).toInt = (d_66.1 h0 1).toInt := congrArg Int32.toInt ((yK.ag (F := []) yK.rf (show yAg S [46] d_66 d_69 from by rw [ed_69]; exact yAg.cs yAg.rf (by rw [hky_67]; decide)) (by rw [hk_h0]; decide)) 1 (by decide))
        have hE2d_69 : (d_69.1 h0 2).toInt = (d_66.1 h0 2).toInt := congrArg Int32.toInt ((yK.ag (F := []) yK.rf (show yAg S [46] d_66 d_69 from by rw [ed_69]; exact yAg.cs yAg.rf (by rw [hky_67]; decide)) (by rw [hk_h0]; decide)) 2 (by decide))
        have hE3d_69 : (d_69.1 h0 3).toInt = (d_66.1 h0 3).toInt := congrArg Int32.toInt ((yK.ag (F := []) yK.rf (show yAg S [46] d_66 d_69 from by rw [ed_69]; exact yAg.cs yAg.rf (by rw [hky_67]; decide)) (by rw [hk_h0]; decide)) 3 (by decide))
        have hE63d_69 : (d_69.1 h0 63).toInt = (d_66.1 h0 63).toInt := congrArg Int32.toInt ((yK.ag (F := []) yK.rf (show yAg S [46] d_66 d_69 from by rw [ed_69]; exact yAg.cs yAg.rf (by rw [hky_67]; decide)) (by rw [hk_h0]; decide)) 63 (by decide))
        refine lv_aload_n hx hb dX9_insert_121 rfl (lv_at hl 1 rfl) ?_
        refine yget (ci := 9) (k := 17) (v := .ref (S.2.2.1 h0 17)) (C := RX9) (T := TX9) (N := 67) C0 hK hP hm_h0 hk_h0 (by decide) rfl inlX9 (by decide) mW124 (fun _ h9 => h9) rfl dX9_insert_122 ?_
        obtain ⟨hmy_70, hky_70⟩ := ySh.f9_17 hSh _ hm_h0 hk_h0
        refine lv_iload hx hb dX9_insert_125 (lv_at hl 0 rfl) ?_
        refine lv_iload_n hx hb dX9_insert_127 rfl (lv_at hl 4 rfl) ?_
        refine lv_i2b hx hb dX9_insert_128 rfl ?_
        refine lv_topi (fun z_71 ez_71 => ?_)
        have hCC_72 := yMI.c hId_69
        refine yastB C0 hK hP hD hS hmy_70 hky_70 (by decide) rfl 1 rfl (xinT 5000 rfl (by omega) (by omega)) dX9_insert_129 (fun H locs hP hD hS => ?_)
        obtain ⟨d_73, ed_73⟩ : ∃ z : yD, z = ycs d_69 (S.2.2.1 h0 17) (upd (d_69.2.2.2.1 (S.2.2.1 h0 17)) (v_4 : Int32).toNatClampNeg (vp_nar .byte z_71)) := ⟨_, rfl⟩
        rw [← ed_73] at hP hD
        have hgd_73 : yAg S [9, 45, 46, 47] d d_73 := by rw [ed_73]; exact yAg.cs hgd_69 (by rw [hky_70]; decide)
        have hPod_73 : yPo S d_73 := by rw [ed_73]; exact hPod_69
        have hfd_73 : yK [1] d d_73 h0 := yK.ag hfd_69 (show yAg S [47] d_69 d_73 from by rw [ed_73]; exact yAg.cs yAg.rf (by rw [hky_70]; decide)) (by rw [hk_h0]; decide)
        have hId_73 : yMI S d_73 h0 := yMI.ag hId_69 hSh hm_h0 hk_h0 (show yAg S [47] d_69 d_73 from by rw [ed_73]; exact yAg.cs yAg.rf (by rw [hky_70]; decide)) (yK.ag (F := []) yK.rf (show yAg S [47] d_69 d_73 from by rw [ed_73]; exact yAg.cs yAg.rf (by rw [hky_70]; decide)) (by rw [hk_h0]; decide)) (by decide) (by decide)
        have hE0d_73 : (d_73.1 h0 0).toInt = (d_69.1 h0 0).toInt := congrArg Int32.toInt ((yK.ag (F := []) yK.rf (show yAg S [47] d_69 d_73 from by rw [ed_73]; exact yAg.cs yAg.rf (by rw [hky_70]; decide)) (by rw [hk_h0]; decide)) 0 (by decide))
        have hE1d_73 : (d_73.1 h0 1).toInt = (d_69.1 h0 1).toInt := congrArg Int32.toInt ((yK.ag (F := []) yK.rf (show yAg S [47] d_69 d_73 from by rw [ed_73]; exact yAg.cs yAg.rf (by rw [hky_70]; decide)) (by rw [hk_h0]; decide)) 1 (by decide))
        have hE2d_73 : (d_73.1 h0 2).toInt = (d_69.1 h0 2).toInt := congrArg Int32.toInt ((yK.ag (F := []) yK.rf (show yAg S [47] d_69 d_73 from by rw [ed_73]; exact yAg.cs yAg.rf (by rw [hky_70]; decide)) (by rw [hk_h0]; decide)) 2 (by decide))
        have hE3d_73 : (d_73.1 h0 3).toInt = (d_69.1 h0 3).toInt := congrArg Int32.toInt ((yK.ag (F := []) yK.rf (show yAg S [47] d_69 d_73 from by rw [ed_73]; exact yAg.cs yAg.rf (by rw [hky_70]; decide)) (by rw [hk_h0]; decide)) 3 (by decide))
        have hE63d_73 : (d_73.1 h0 63).toInt = (d_69.1 h0 63).toInt := congrArg Int32.toInt ((yK.ag (F := []) yK.rf (show yAg S [47] d_69 d_73 from by rw [ed_73]; exact yAg.cs yAg.rf (by rw [hky_70]; decide)) (by rw [hk_h0]; decide)) 63 (by decide))
        refine lv_aload_n hx hb dX9_insert_130 rfl (lv_at hl 1 rfl) ?_
        refine lv_dup hx hb dX9_insert_131 rfl ?_
        refine yget (ci := 9) (k := 1) (v := .int (d_73.1 h0 1)) (C := RX9) (T := TX9) (N := 67) C0 hK hP hm_h0 hk_h0 (by decide) rfl inlX9 (by decide) mW364 (fun _ h9 => h9) rfl dX9_insert_132 ?_
        refine lv_topi (fun z_74 ez_74 => ?_)
        refine lv_iconst (v := 1) hx hb dX9_insert_135 (by decide) ?_
        refine lv_iadd hx hb dX9_insert_136 ?_
        refine lv_topi (fun z_75 ez_75 => ?_)
        refine yputI (ci := 9) (k := 1) (ty := .int) (C := RX9) (T := TX9) (N := 67) C0 hK hP hD hS hm_h0 hk_h0 (by decide) rfl inlX9 tyX9 tyX9_ok nmX9 (by decide) mW364 (fun _ h9 => h9) rfl (by decide +kernel) rfl rfl (Nat.le_of_ble_eq_true rfl) ysi_9_1 dX9_insert_137 (fun H locs hP hD hS => ?_)
        obtain ⟨d_76, ed_76⟩ : ∃ z : yD, z = yi d_73 h0 1 z_75 := ⟨_, rfl⟩
        rw [← ed_76] at hP hD
        have hgd_76 : yAg S [9, 45, 46, 47] d d_76 := by rw [ed_76]; exact yAg.i hgd_73 (by rw [hk_h0]; decide)
        have hPod_76 : yPo S d_76 := by rw [ed_76]; exact yPo.i hPod_73 hk_h0 (Or.inl rfl)
        have hfd_76 : yK [1] d d_76 h0 := by rw [ed_76]; exact yK.i hfd_73 (by decide)
        have hCC_77 := yMI.c hId_73
        have T_79 : (z_74 : Int32).toInt = (d_73.1 h0 1).toInt := by rw [ez_74]
        have T_78 : (z_75 : Int32).toInt = (z_74 : Int32).toInt + 1 := tadd ez_75 (rfl : (z_74 : Int32).toInt = (z_74 : Int32).toInt) (by decide +kernel : (1 : Int32).toInt = 1) (by omega) (by omega)
        have hId_76 : yMI S d_76 h0 := by rw [ed_76]; exact yMI.i1 hId_73 ⟨by omega, by omega⟩
        have hE0d_76 : (d_76.1 h0 0).toInt = (d_73.1 h0 0).toInt := congrArg Int32.toInt ((show yK [1] d_73 d_76 h0 from by rw [ed_76]; exact yK.i yK.rf (by decide)) 0 (by decide))
        have hE1d_76 : (d_76.1 h0 1).toInt = (z_75 : Int32).toInt := by rw [ed_76, yi_self]
        have hE2d_76 : (d_76.1 h0 2).toInt = (d_73.1 h0 2).toInt := congrArg Int32.toInt ((show yK [1] d_73 d_76 h0 from by rw [ed_76]; exact yK.i yK.rf (by decide)) 2 (by decide))
        have hE3d_76 : (d_76.1 h0 3).toInt = (d_73.1 h0 3).toInt := congrArg Int32.toInt ((show yK [1] d_73 d_76 h0 from by rw [ed_76]; exact yK.i yK.rf (by decide)) 3 (by decide))
        have hE63d_76 : (d_76.1 h0 63).toInt = (d_73.1 h0 63).toInt := congrArg Int32.toInt ((show yK [1] d_73 d_76 h0 from by rw [ed_76]; exact yK.i yK.rf (by decide)) 63 (by decide))
        have hCC_80 := yMI.c hId_76
        exact W.vret hx hb hr (fun t ht hW => ⟨⟨d_76, rfl, ⟨hgd_76, (fun _ => hPod_76), hfd_76, ⟨hId_76, by omega⟩⟩, by rw [ht]; exact hP, hD⟩, hS.F ht⟩) hS.2.2 dX9_insert_140
      · refine lv_aload_n hx hb dX9_insert_37 rfl (lv_at hl 1 rfl) ?_
        refine yget (ci := 9) (k := 16) (v := .ref (S.2.2.1 h0 16)) (C := RX9) (T := TX9) (N := 67) C0 hK hP hm_h0 hk_h0 (by decide) rfl inlX9 (by decide) mW123 (fun _ h9 => h9) rfl dX9_insert_38 ?_
        obtain ⟨hmy_81, hky_81⟩ := ySh.f9_16 hSh _ hm_h0 hk_h0
        refine lv_iload hx hb dX9_insert_41 (lv_at hl 0 rfl) ?_
        refine lv_iconst (v := 1) hx hb dX9_insert_43 (by decide) ?_
        refine lv_isub hx hb dX9_insert_44 ?_
        refine lv_topi (fun z_82 ez_82 => ?_)
        have F_84 := feq (rfl : (z_61 : Int32).toInt = (z_61 : Int32).toInt) (rfl : (p0 : Int32).toInt = (p0 : Int32).toInt) c_62
        have T_85 : (z_82 : Int32).toInt = (v_4 : Int32).toInt - 1 := tsub ez_82 (rfl : (v_4 : Int32).toInt = (v_4 : Int32).toInt) (by decide +kernel : (1 : Int32).toInt = 1) (by omega) (by omega)
        refine yald C0 hK hP hmy_81 hky_81 (by decide) rfl 0 rfl (xinT 5000 rfl (by omega) (by omega)) dX9_insert_45 ?_
        refine lv_topi (fun z_86 ez_86 => ?_)
        have hvz_86 : 0 ≤ (z_86 : Int32).toInt ∧ (z_86 : Int32).toInt ≤ 129599 := by rw [ez_86]; exact yMI.em_ hId_5 _
        refine lv_iload_n hx hb dX9_insert_46 rfl (lv_at hl 3 rfl) ?_
        refine lv_icmp_le (tgt := 104) hx hb dX9_insert_47 (by decide) (fun c_87 => ?_) (fun c_87 => ?_)
        · refine lv_aload_n hx hb dX9_insert_104 rfl (lv_at hl 1 rfl) ?_
          refine yget (ci := 9) (k := 15) (v := .ref (S.2.2.1 h0 15)) (C := RX9) (T := TX9) (N := 67) C0 hK hP hm_h0 hk_h0 (by decide) rfl inlX9 (by decide) mW122 (fun _ h9 => h9) rfl dX9_insert_105 ?_
          refine lv_iload hx hb dX9_insert_108 (lv_at hl 0 rfl) ?_
          refine lv_iload_n hx hb dX9_insert_110 rfl (lv_at hl 2 rfl) ?_
          refine lv_i2b hx hb dX9_insert_111 rfl ?_
          refine lv_topi (fun z_88 ez_88 => ?_)
          have F_90 := fle (rfl : (z_86 : Int32).toInt = (z_86 : Int32).toInt) (rfl : (p1 : Int32).toInt = (p1 : Int32).toInt) c_87
          refine yastB C0 hK hP hD hS hmy_28 hky_28 (by decide) rfl 1 rfl (xinT 5000 rfl (by omega) (by omega)) dX9_insert_112 (fun H locs hP hD hS => ?_)
          obtain ⟨d_91, ed_91⟩ : ∃ z : yD, z = ycs d_5 (S.2.2.1 h0 15) (upd (d_5.2.2.2.1 (S.2.2.1 h0 15)) (v_4 : Int32).toNatClampNeg (vp_nar .byte z_88)) := ⟨_, rfl⟩
          rw [← ed_91] at hP hD
          have hgd_91 : yAg S [9, 45, 46, 47] d d_91 := by rw [ed_91]; exact yAg.cs hgd_5 (by rw [hky_28]; decide)
          have hPod_91 : yPo S d_91 := by rw [ed_91]; exact hPod_5
          have hfd_91 : yK [1] d d_91 h0 := yK.ag hfd_5 (show yAg S [45] d_5 d_91 from by rw [ed_91]; exact yAg.cs yAg.rf (by rw [hky_28]; decide)) (by rw [hk_h0]; decide)
          have hId_91 : yMI S d_91 h0 := yMI.ag hId_5 hSh hm_h0 hk_h0 (show yAg S [45] d_5 d_91 from by rw [ed_91]; exact yAg.cs yAg.rf (by rw [hky_28]; decide)) (yK.ag (F := []) yK.rf (show yAg S [45] d_5 d_91 from by rw [ed_91]; exact yAg.cs yAg.rf (by rw [hky_28]; decide)) (by rw [hk_h0]; decide)) (by decide) (by decide)
          have hE0d_91 : (d_91.1 h0 0).toInt = (d_5.1 h0 0).toInt := congrArg Int32.toInt ((yK.ag (F := []) yK.rf (show yAg S [45] d_5 d_91 from by rw [ed_91]; exact yAg.cs yAg.rf (by rw [hky_28]; decide)) (by rw [hk_h0]; decide)) 0 (by decide))
          have hE1d_91 : (d_91.1 h0 1).toInt = (d_5.1 h0 1).toInt := congrArg Int32.toInt ((yK.ag (F := []) yK.rf (show yAg S [45] d_5 d_91 from by rw [ed_91]; exact yAg.cs yAg.rf (by rw [hky_28]; decide)) (by rw [hk_h0]; decide)) 1 (by decide))
          have hE2d_91 : (d_91.1 h0 2).toInt = (d_5.1 h0 2).toInt := congrArg Int32.toInt ((yK.ag (F := []) yK.rf (show yAg S [45] d_5 d_91 from by rw [ed_91]; exact yAg.cs yAg.rf (by rw [hky_28]; decide)) (by rw [hk_h0]; decide)) 2 (by decide))
          have hE3d_91 : (d_91.1 h0 3).toInt = (d_5.1 h0 3).toInt := congrArg Int32.toInt ((yK.ag (F := []) yK.rf (show yAg S [45] d_5 d_91 from by rw [ed_91]; exact yAg.cs yAg.rf (by rw [hky_28]; decide)) (by rw [hk_h0]; decide)) 3 (by decide))
          have hE63d_91 : (d_91.1 h0 63).toInt = (d_5.1 h0 63).toInt := congrArg Int32.toInt ((yK.ag (F := []) yK.rf (show yAg S [45] d_5 d_91 from by rw [ed_91]; exact yAg.cs yAg.rf (by rw [hky_28]; decide)) (by rw [hk_h0]; decide)) 63 (by decide))
          refine lv_aload_n hx hb dX9_insert_113 rfl (lv_at hl 1 rfl) ?_
          refine yget (ci := 9) (k := 16) (v := .ref (S.2.2.1 h0 16)) (C := RX9) (T := TX9) (N := 67) C0 hK hP hm_h0 hk_h0 (by decide) rfl inlX9 (by decide) mW123 (fun _ h9 => h9) rfl dX9_insert_114 ?_
          refine lv_iload hx hb dX9_insert_117 (lv_at hl 0 rfl) ?_
          refine lv_iload_n hx hb dX9_insert_119 rfl (lv_at hl 3 rfl) ?_
          have hCC_92 := yMI.c hId_91
          refine yast C0 hK hP hD hS hmy_81 hky_81 (by decide) rfl 0 rfl (xinT 5000 rfl (by omega) (by omega)) dX9_insert_120 (fun H locs hP hD hS => ?_)
          obtain ⟨d_93, ed_93⟩ : ∃ z : yD, z = ycs d_91 (S.2.2.1 h0 16) (upd (d_91.2.2.2.1 (S.2.2.1 h0 16)) (v_4 : Int32).toNatClampNeg p1) := ⟨_, rfl⟩
          rw [← ed_93] at hP hD
          have hgd_93 : yAg S [9, 45, 46, 47] d d_93 := by rw [ed_93]; exact yAg.cs hgd_91 (by rw [hky_81]; decide)
          have hPod_93 : yPo S d_93 := by rw [ed_93]; exact hPod_91
          have hfd_93 : yK [1] d d_93 h0 := yK.ag hfd_91 (show yAg S [46] d_91 d_93 from by rw [ed_93]; exact yAg.cs yAg.rf (by rw [hky_81]; decide)) (by rw [hk_h0]; decide)
          have hId_93 : yMI S d_93 h0 := by rw [ed_93]; exact yMI.w16 hId_91 hSh hm_h0 hk_h0 (yBr.up (yMI.em_ hId_91) ⟨by omega, by omega⟩)
          have hE0d_93 : (d_93.1 h0 0).toInt = (d_91.1 h0 0).toInt := congrArg Int32.toInt ((yK.ag (F := []) yK.rf (show yAg S [46] d_91 d_93 from by rw [ed_93]; exact yAg.cs yAg.rf (by rw [hky_81]; decide)) (by rw [hk_h0]; decide)) 0 (by decide))
          have hE1d_93 : (d_93.1 h0 1).toInt = (d_91.1 h0 1).toInt := congrArg Int32.toInt ((yK.ag (F := []) yK.rf (show yAg S [46] d_91 d_93 from by rw [ed_93]; exact yAg.cs yAg.rf (by rw [hky_81]; decide)) (by rw [hk_h0]; decide)) 1 (by decide))
          have hE2d_93 : (d_93.1 h0 2).toInt = (d_91.1 h0 2).toInt := congrArg Int32.toInt ((yK.ag (F := []) yK.rf (show yAg S [46] d_91 d_93 from by rw [ed_93]; exact yAg.cs yAg.rf (by rw [hky_81]; decide)) (by rw [hk_h0]; decide)) 2 (by decide))
          have hE3d_93 : (d_93.1 h0 3).toInt = (d_91.1 h0 3).toInt := congrArg Int32.toInt ((yK.ag (F := []) yK.rf (show yAg S [46] d_91 d_93 from by rw [ed_93]; exact yAg.cs yAg.rf (by rw [hky_81]; decide)) (by rw [hk_h0]; decide)) 3 (by decide))
          have hE63d_93 : (d_93.1 h0 63).toInt = (d_91.1 h0 63).toInt := congrArg Int32.toInt ((yK.ag (F := []) yK.rf (show yAg S [46] d_91 d_93 from by rw [ed_93]; exact yAg.cs yAg.rf (by rw [hky_81]; decide)) (by rw [hk_h0]; decide)) 63 (by decide))
          refine lv_aload_n hx hb dX9_insert_121 rfl (lv_at hl 1 rfl) ?_
          refine yget (ci := 9) (k := 17) (v := .ref (S.2.2.1 h0 17)) (C := RX9) (T := TX9) (N := 67) C0 hK hP hm_h0 hk_h0 (by decide) rfl inlX9 (by decide) mW124 (fun _ h9 => h9) rfl dX9_insert_122 ?_
          obtain ⟨hmy_94, hky_94⟩ := ySh.f9_17 hSh _ hm_h0 hk_h0
          refine lv_iload hx hb dX9_insert_125 (lv_at hl 0 rfl) ?_
          refine lv_iload_n hx hb dX9_insert_127 rfl (lv_at hl 4 rfl) ?_
          refine lv_i2b hx hb dX9_insert_128 rfl ?_
          refine lv_topi (fun z_95 ez_95 => ?_)
          have hCC_96 := yMI.c hId_93
          refine yastB C0 hK hP hD hS hmy_94 hky_94 (by decide) rfl 1 rfl (xinT 5000 rfl (by omega) (by omega)) dX9_insert_129 (fun H locs hP hD hS => ?_)
          obtain ⟨d_97, ed_97⟩ : ∃ z : yD, z = ycs d_93 (S.2.2.1 h0 17) (upd (d_93.2.2.2.1 (S.2.2.1 h0 17)) (v_4 : Int32).toNatClampNeg (vp_nar .byte z_95)) := ⟨_, rfl⟩
          rw [← ed_97] at hP hD
          have hgd_97 : yAg S [9, 45, 46, 47] d d_97 := by rw [ed_97]; exact yAg.cs hgd_93 (by rw [hky_94]; decide)
          have hPod_97 : yPo S d_97 := by rw [ed_97]; exact hPod_93
          have hfd_97 : yK [1] d d_97 h0 := yK.ag hfd_93 (show yAg S [47] d_93 d_97 from by rw [ed_97]; exact yAg.cs yAg.rf (by rw [hky_94]; decide)) (by rw [hk_h0]; decide)
          have hId_97 : yMI S d_97 h0 := yMI.ag hId_93 hSh hm_h0 hk_h0 (show yAg S [47] d_93 d_97 from by rw [ed_97]; exact yAg.cs yAg.rf (by rw [hky_94]; decide)) (yK.ag (F := []) yK.rf (show yAg S [47] d_93 d_97 from by rw [ed_97]; exact yAg.cs yAg.rf (by rw [hky_94]; decide)) (by rw [hk_h0]; decide)) (by decide) (by decide)
          have hE0d_97 : (d_97.1 h0 0).toInt = (d_93.1 h0 0).toInt := congrArg Int32.toInt ((yK.ag (F := []) yK.rf (show yAg S [47] d_93 d_97 from by rw [ed_97]; exact yAg.cs yAg.rf (by rw [hky_94]; decide)) (by rw [hk_h0]; decide)) 0 (by decide))
          have hE1d_97 : (d_97.1 h0 1).toInt = (d_93.1 h0 1).toInt := congrArg Int32.toInt ((yK.ag (F := []) yK.rf (show yAg S [47] d_93 d_97 from by rw [ed_97]; exact yAg.cs yAg.rf (by rw [hky_94]; decide)) (by rw [hk_h0]; decide)) 1 (by decide))
          have hE2d_97 : (d_97.1 h0 2).toInt = (d_93.1 h0 2).toInt := congrArg Int32.toInt ((yK.ag (F := []) yK.rf (show yAg S [47] d_93 d_97 from by rw [ed_97]; exact yAg.cs yAg.rf (by rw [hky_94]; decide)) (by rw [hk_h0]; decide)) 2 (by decide))
          have hE3d_97 : (d_97.1 h0 3).toInt = (d_93.1 h0 3).toInt := congrArg Int32.toInt ((yK.ag (F := []) yK.rf (show yAg S [47] d_93 d_97 from by rw [ed_97]; exact yAg.cs yAg.rf (by rw [hky_94]; decide)) (by rw [hk_h0]; decide)) 3 (by decide))
          have hE63d_97 : (d_97.1 h0 63).toInt = (d_93.1 h0 63).toInt := congrArg Int32.toInt ((yK.ag (F := []) yK.rf (show yAg S [47] d_93 d_97 from by rw [ed_97]; exact yAg.cs yAg.rf (by rw [hky_94]; decide)) (by rw [hk_h0]; decide)) 63 (by decide))
          refine lv_aload_n hx hb dX9_insert_130 rfl (lv_at hl 1 rfl) ?_
          refine lv_dup hx hb dX9_insert_131 rfl ?_
          refine yget (ci := 9) (k := 1) (v := .int (d_97.1 h0 1)) (C := RX9) (T := TX9) (N := 67) C0 hK hP hm_h0 hk_h0 (by decide) rfl inlX9 (by decide) mW364 (fun _ h9 => h9) rfl dX9_insert_132 ?_
          refine lv_topi (fun z_98 ez_98 => ?_)
          refine lv_iconst (v := 1) hx hb dX9_insert_135 (by decide) ?_
          refine lv_iadd hx hb dX9_insert_136 ?_
          refine lv_topi (fun z_99 ez_99 => ?_)
          refine yputI (ci := 9) (k := 1) (ty := .int) (C := RX9) (T := TX9) (N := 67) C0 hK hP hD hS hm_h0 hk_h0 (by decide) rfl inlX9 tyX9 tyX9_ok nmX9 (by decide) mW364 (fun _ h9 => h9) rfl (by decide +kernel) rfl rfl (Nat.le_of_ble_eq_true rfl) ysi_9_1 dX9_insert_137 (fun H locs hP hD hS => ?_)
          obtain ⟨d_100, ed_100⟩ : ∃ z : yD, z = yi d_97 h0 1 z_99 := ⟨_, rfl⟩
          rw [← ed_100] at hP hD
          have hgd_100 : yAg S [9, 45, 46, 47] d d_100 := by rw [ed_100]; exact yAg.i hgd_97 (by rw [hk_h0]; decide)
          have hPod_100 : yPo S d_100 := by rw [ed_100]; exact yPo.i hPod_97 hk_h0 (Or.inl rfl)
          have hfd_100 : yK [1] d d_100 h0 := by rw [ed_100]; exact yK.i hfd_97 (by decide)
          have hCC_101 := yMI.c hId_97
          have T_103 : (z_98 : Int32).toInt = (d_97.1 h0 1).toInt := by rw [ez_98]
          have T_102 : (z_99 : Int32).toInt = (z_98 : Int32).toInt + 1 := tadd ez_99 (rfl : (z_98 : Int32).toInt = (z_98 : Int32).toInt) (by decide +kernel : (1 : Int32).toInt = 1) (by omega) (by omega)
          have hId_100 : yMI S d_100 h0 := by rw [ed_100]; exact yMI.i1 hId_97 ⟨by omega, by omega⟩
          have hE0d_100 : (d_100.1 h0 0).toInt = (d_97.1 h0 0).toInt := congrArg Int32.toInt ((show yK [1] d_97 d_100 h0 from by rw [ed_100]; exact yK.i yK.rf (by decide)) 0 (by decide))
          have hE1d_100 : (d_100.1 h0 1).toInt = (z_99 : Int32).toInt := by rw [ed_100, yi_self]
          have hE2d_100 : (d_100.1 h0 2).toInt = (d_97.1 h0 2).toInt := congrArg Int32.toInt ((show yK [1] d_97 d_100 h0 from by rw [ed_100]; exact yK.i yK.rf (by decide)) 2 (by decide))
          have hE3d_100 : (d_100.1 h0 3).toInt = (d_97.1 h0 3).toInt := congrArg Int32.toInt ((show yK [1] d_97 d_100 h0 from by rw [ed_100]; exact yK.i yK.rf (by decide)) 3 (by decide))
          have hE63d_100 : (d_100.1 h0 63).toInt = (d_97.1 h0 63).toInt := congrArg Int32.toInt ((show yK [1] d_97 d_100 h0 from by rw [ed_100]; exact yK.i yK.rf (by decide)) 63 (by decide))
          have hCC_104 := yMI.c hId_100
          exact W.vret hx hb hr (fun t ht hW => ⟨⟨d_100, rfl, ⟨hgd_100, (fun _ => hPod_100), hfd_100, ⟨hId_100, by omega⟩⟩, by rw [ht]; exact hP, hD⟩, hS.F ht⟩) hS.2.2 dX9_insert_140
        · refine lv_aload_n hx hb dX9_insert_50 rfl (lv_at hl 1 rfl) ?_
          refine yget (ci := 9) (k := 15) (v := .ref (S.2.2.1 h0 15)) (C := RX9) (T := TX9) (N := 67) C0 hK hP hm_h0 hk_h0 (by decide) rfl inlX9 (by decide) mW122 (fun _ h9 => h9) rfl dX9_insert_51 ?_
          refine lv_iload hx hb dX9_insert_54 (lv_at hl 0 rfl) ?_
          refine lv_aload_n hx hb dX9_insert_56 rfl (lv_at hl 1 rfl) ?_
          refine yget (ci := 9) (k := 15) (v := .ref (S.2.2.1 h0 15)) (C := RX9) (T := TX9) (N := 67) C0 hK hP hm_h0 hk_h0 (by decide) rfl inlX9 (by decide) mW122 (fun _ h9 => h9) rfl dX9_insert_57 ?_
          refine lv_iload hx hb dX9_insert_60 (lv_at hl 0 rfl) ?_
          refine lv_iconst (v := 1) hx hb dX9_insert_62 (by decide) ?_
          refine lv_isub hx hb dX9_insert_63 ?_
          refine lv_topi (fun z_105 ez_105 => ?_)
          have F_107 := fnle (rfl : (z_86 : Int32).toInt = (z_86 : Int32).toInt) (rfl : (p1 : Int32).toInt = (p1 : Int32).toInt) c_87
          have T_108 : (z_105 : Int32).toInt = (v_4 : Int32).toInt - 1 := tsub ez_105 (rfl : (v_4 : Int32).toInt = (v_4 : Int32).toInt) (by decide +kernel : (1 : Int32).toInt = 1) (by omega) (by omega)
          refine yaldB C0 hK hP hmy_28 hky_28 (by decide) rfl 1 rfl (xinT 5000 rfl (by omega) (by omega)) dX9_insert_64 ?_
          refine lv_topi (fun z_109 ez_109 => ?_)
          refine yastB C0 hK hP hD hS hmy_28 hky_28 (by decide) rfl 1 rfl (xinT 5000 rfl (by omega) (by omega)) dX9_insert_65 (fun H locs hP hD hS => ?_)
          obtain ⟨d_110, ed_110⟩ : ∃ z : yD, z = ycs d_5 (S.2.2.1 h0 15) (upd (d_5.2.2.2.1 (S.2.2.1 h0 15)) (v_4 : Int32).toNatClampNeg (vp_nar .byte z_109)) := ⟨_, rfl⟩
          rw [← ed_110] at hP hD
          have hgd_110 : yAg S [9, 45, 46, 47] d d_110 := by rw [ed_110]; exact yAg.cs hgd_5 (by rw [hky_28]; decide)
          have hPod_110 : yPo S d_110 := by rw [ed_110]; exact hPod_5
          have hfd_110 : yK [1] d d_110 h0 := yK.ag hfd_5 (show yAg S [45] d_5 d_110 from by rw [ed_110]; exact yAg.cs yAg.rf (by rw [hky_28]; decide)) (by rw [hk_h0]; decide)
          have hL0d_110 : yAg S [45, 46, 47] d d_110 := by rw [ed_110]; exact yAg.cs hLJd_5 (by rw [hky_28]; decide)
          have hK0d_110 : yK [] d d_110 h0 := yK.ag hKJd_5 (show yAg S [45] d_5 d_110 from by rw [ed_110]; exact yAg.cs yAg.rf (by rw [hky_28]; decide)) (by rw [hk_h0]; decide)
          have hId_110 : yMI S d_110 h0 := yMI.ag hId_5 hSh hm_h0 hk_h0 (show yAg S [45] d_5 d_110 from by rw [ed_110]; exact yAg.cs yAg.rf (by rw [hky_28]; decide)) (yK.ag (F := []) yK.rf (show yAg S [45] d_5 d_110 from by rw [ed_110]; exact yAg.cs yAg.rf (by rw [hky_28]; decide)) (by rw [hk_h0]; decide)) (by decide) (by decide)
          have hE0d_110 : (d_110.1 h0 0).toInt = (d_5.1 h0 0).toInt := congrArg Int32.toInt ((yK.ag (F := []) yK.rf (show yAg S [45] d_5 d_110 from by rw [ed_110]; exact yAg.cs yAg.rf (by rw [hky_28]; decide)) (by rw [hk_h0]; decide)) 0 (by decide))
          have hE1d_110 : (d_110.1 h0 1).toInt = (d_5.1 h0 1).toInt := congrArg Int32.toInt ((yK.ag (F := []) yK.rf (show yAg S [45] d_5 d_110 from by rw [ed_110]; exact yAg.cs yAg.rf (by rw [hky_28]; decide)) (by rw [hk_h0]; decide)) 1 (by decide))
          have hE2d_110 : (d_110.1 h0 2).toInt = (d_5.1 h0 2).toInt := congrArg Int32.toInt ((yK.ag (F := []) yK.rf (show yAg S [45] d_5 d_110 from by rw [ed_110]; exact yAg.cs yAg.rf (by rw [hky_28]; decide)) (by rw [hk_h0]; decide)) 2 (by decide))
          have hE3d_110 : (d_110.1 h0 3).toInt = (d_5.1 h0 3).toInt := congrArg Int32.toInt ((yK.ag (F := []) yK.rf (show yAg S [45] d_5 d_110 from by rw [ed_110]; exact yAg.cs yAg.rf (by rw [hky_28]; decide)) (by rw [hk_h0]; decide)) 3 (by decide))
          have hE63d_110 : (d_110.1 h0 63).toInt = (d_5.1 h0 63).toInt := congrArg Int32.toInt ((yK.ag (F := []) yK.rf (show yAg S [45] d_5 d_110 from by rw [ed_110]; exact yAg.cs yAg.rf (by rw [hky_28]; decide)) (by rw [hk_h0]; decide)) 63 (by decide))
          refine lv_aload_n hx hb dX9_insert_66 rfl (lv_at hl 1 rfl) ?_
          refine yget (ci := 9) (k := 16) (v := .ref (S.2.2.1 h0 16)) (C := RX9) (T := TX9) (N := 67) C0 hK hP hm_h0 hk_h0 (by decide) rfl inlX9 (by decide) mW123 (fun _ h9 => h9) rfl dX9_insert_67 ?_
          refine lv_iload hx hb dX9_insert_70 (lv_at hl 0 rfl) ?_
          refine lv_aload_n hx hb dX9_insert_72 rfl (lv_at hl 1 rfl) ?_
          refine yget (ci := 9) (k := 16) (v := .ref (S.2.2.1 h0 16)) (C := RX9) (T := TX9) (N := 67) C0 hK hP hm_h0 hk_h0 (by decide) rfl inlX9 (by decide) mW123 (fun _ h9 => h9) rfl dX9_insert_73 ?_
          refine lv_iload hx hb dX9_insert_76 (lv_at hl 0 rfl) ?_
          refine lv_iconst (v := 1) hx hb dX9_insert_78 (by decide) ?_
          refine lv_isub hx hb dX9_insert_79 ?_
          refine lv_topi (fun z_111 ez_111 => ?_)
          have hCC_112 := yMI.c hId_110
          have T_113 : (z_111 : Int32).toInt = (v_4 : Int32).toInt - 1 := tsub ez_111 (rfl : (v_4 : Int32).toInt = (v_4 : Int32).toInt) (by decide +kernel : (1 : Int32).toInt = 1) (by omega) (by omega)
          refine yald C0 hK hP hmy_81 hky_81 (by decide) rfl 0 rfl (xinT 5000 rfl (by omega) (by omega)) dX9_insert_80 ?_
          refine lv_topi (fun z_114 ez_114 => ?_)
          have hvz_114 : 0 ≤ (z_114 : Int32).toInt ∧ (z_114 : Int32).toInt ≤ 129599 := by rw [ez_114]; exact yMI.em_ hId_110 _
          refine yast C0 hK hP hD hS hmy_81 hky_81 (by decide) rfl 0 rfl (xinT 5000 rfl (by omega) (by omega)) dX9_insert_81 (fun H locs hP hD hS => ?_)
          obtain ⟨d_115, ed_115⟩ : ∃ z : yD, z = ycs d_110 (S.2.2.1 h0 16) (upd (d_110.2.2.2.1 (S.2.2.1 h0 16)) (v_4 : Int32).toNatClampNeg z_114) := ⟨_, rfl⟩
          rw [← ed_115] at hP hD
          have hgd_115 : yAg S [9, 45, 46, 47] d d_115 := by rw [ed_115]; exact yAg.cs hgd_110 (by rw [hky_81]; decide)
          have hPod_115 : yPo S d_115 := by rw [ed_115]; exact hPod_110
          have hfd_115 : yK [1] d d_115 h0 := yK.ag hfd_110 (show yAg S [46] d_110 d_115 from by rw [ed_115]; exact yAg.cs yAg.rf (by rw [hky_81]; decide)) (by rw [hk_h0]; decide)
          have hL0d_115 : yAg S [45, 46, 47] d d_115 := by rw [ed_115]; exact yAg.cs hL0d_110 (by rw [hky_81]; decide)
          have hK0d_115 : yK [] d d_115 h0 := yK.ag hK0d_110 (show yAg S [46] d_110 d_115 from by rw [ed_115]; exact yAg.cs yAg.rf (by rw [hky_81]; decide)) (by rw [hk_h0]; decide)
          have hId_115 : yMI S d_115 h0 := by rw [ed_115]; exact yMI.w16 hId_110 hSh hm_h0 hk_h0 (yBr.up (yMI.em_ hId_110) ⟨by omega, by omega⟩)
          have hE0d_115 : (d_115.1 h0 0).toInt = (d_110.1 h0 0).toInt := congrArg Int32.toInt ((yK.ag (F := []) yK.rf (show yAg S [46] d_110 d_115 from by rw [ed_115]; exact yAg.cs yAg.rf (by rw [hky_81]; decide)) (by rw [hk_h0]; decide)) 0 (by decide))
          have hE1d_115 : (d_115.1 h0 1).toInt = (d_110.1 h0 1).toInt := congrArg Int32.toInt ((yK.ag (F := []) yK.rf (show yAg S [46] d_110 d_115 from by rw [ed_115]; exact yAg.cs yAg.rf (by rw [hky_81]; decide)) (by rw [hk_h0]; decide)) 1 (by decide))
          have hE2d_115 : (d_115.1 h0 2).toInt = (d_110.1 h0 2).toInt := congrArg Int32.toInt ((yK.ag (F := []) yK.rf (show yAg S [46] d_110 d_115 from by rw [ed_115]; exact yAg.cs yAg.rf (by rw [hky_81]; decide)) (by rw [hk_h0]; decide)) 2 (by decide))
          have hE3d_115 : (d_115.1 h0 3).toInt = (d_110.1 h0 3).toInt := congrArg Int32.toInt ((yK.ag (F := []) yK.rf (show yAg S [46] d_110 d_115 from by rw [ed_115]; exact yAg.cs yAg.rf (by rw [hky_81]; decide)) (by rw [hk_h0]; decide)) 3 (by decide))
          have hE63d_115 : (d_115.1 h0 63).toInt = (d_110.1 h0 63).toInt := congrArg Int32.toInt ((yK.ag (F := []) yK.rf (show yAg S [46] d_110 d_115 from by rw [ed_115]; exact yAg.cs yAg.rf (by rw [hky_81]; decide)) (by rw [hk_h0]; decide)) 63 (by decide))
          refine lv_aload_n hx hb dX9_insert_82 rfl (lv_at hl 1 rfl) ?_
          refine yget (ci := 9) (k := 17) (v := .ref (S.2.2.1 h0 17)) (C := RX9) (T := TX9) (N := 67) C0 hK hP hm_h0 hk_h0 (by decide) rfl inlX9 (by decide) mW124 (fun _ h9 => h9) rfl dX9_insert_83 ?_
          obtain ⟨hmy_117, hky_117⟩ := ySh.f9_17 hSh _ hm_h0 hk_h0
          refine lv_iload hx hb dX9_insert_86 (lv_at hl 0 rfl) ?_
          refine lv_aload_n hx hb dX9_insert_88 rfl (lv_at hl 1 rfl) ?_
          refine yget (ci := 9) (k := 17) (v := .ref (S.2.2.1 h0 17)) (C := RX9) (T := TX9) (N := 67) C0 hK hP hm_h0 hk_h0 (by decide) rfl inlX9 (by decide) mW124 (fun _ h9 => h9) rfl dX9_insert_89 ?_
          refine lv_iload hx hb dX9_insert_92 (lv_at hl 0 rfl) ?_
          refine lv_iconst (v := 1) hx hb dX9_insert_94 (by decide) ?_
          refine lv_isub hx hb dX9_insert_95 ?_
          refine lv_topi (fun z_118 ez_118 => ?_)
          have hCC_119 := yMI.c hId_115
          have T_120 : (z_118 : Int32).toInt = (v_4 : Int32).toInt - 1 := tsub ez_118 (rfl : (v_4 : Int32).toInt = (v_4 : Int32).toInt) (by decide +kernel : (1 : Int32).toInt = 1) (by omega) (by omega)
          refine yaldB C0 hK hP hmy_117 hky_117 (by decide) rfl 1 rfl (xinT 5000 rfl (by omega) (by omega)) dX9_insert_96 ?_
          refine lv_topi (fun z_121 ez_121 => ?_)
          refine yastB C0 hK hP hD hS hmy_117 hky_117 (by decide) rfl 1 rfl (xinT 5000 rfl (by omega) (by omega)) dX9_insert_97 (fun H locs hP hD hS => ?_)
          obtain ⟨d_122, ed_122⟩ : ∃ z : yD, z = ycs d_115 (S.2.2.1 h0 17) (upd (d_115.2.2.2.1 (S.2.2.1 h0 17)) (v_4 : Int32).toNatClampNeg (vp_nar .byte z_121)) := ⟨_, rfl⟩
          rw [← ed_122] at hP hD
          have hgd_122 : yAg S [9, 45, 46, 47] d d_122 := by rw [ed_122]; exact yAg.cs hgd_115 (by rw [hky_117]; decide)
          have hPod_122 : yPo S d_122 := by rw [ed_122]; exact hPod_115
          have hfd_122 : yK [1] d d_122 h0 := yK.ag hfd_115 (show yAg S [47] d_115 d_122 from by rw [ed_122]; exact yAg.cs yAg.rf (by rw [hky_117]; decide)) (by rw [hk_h0]; decide)
          have hL0d_122 : yAg S [45, 46, 47] d d_122 := by rw [ed_122]; exact yAg.cs hL0d_115 (by rw [hky_117]; decide)
          have hK0d_122 : yK [] d d_122 h0 := yK.ag hK0d_115 (show yAg S [47] d_115 d_122 from by rw [ed_122]; exact yAg.cs yAg.rf (by rw [hky_117]; decide)) (by rw [hk_h0]; decide)
          have hId_122 : yMI S d_122 h0 := yMI.ag hId_115 hSh hm_h0 hk_h0 (show yAg S [47] d_115 d_122 from by rw [ed_122]; exact yAg.cs yAg.rf (by rw [hky_117]; decide)) (yK.ag (F := []) yK.rf (show yAg S [47] d_115 d_122 from by rw [ed_122]; exact yAg.cs yAg.rf (by rw [hky_117]; decide)) (by rw [hk_h0]; decide)) (by decide) (by decide)
          have hE0d_122 : (d_122.1 h0 0).toInt = (d_115.1 h0 0).toInt := congrArg Int32.toInt ((yK.ag (F := []) yK.rf (show yAg S [47] d_115 d_122 from by rw [ed_122]; exact yAg.cs yAg.rf (by rw [hky_117]; decide)) (by rw [hk_h0]; decide)) 0 (by decide))
          have hE1d_122 : (d_122.1 h0 1).toInt = (d_115.1 h0 1).toInt := congrArg Int32.toInt ((yK.ag (F := []) yK.rf (show yAg S [47] d_115 d_122 from by rw [ed_122]; exact yAg.cs yAg.rf (by rw [hky_117]; decide)) (by rw [hk_h0]; decide)) 1 (by decide))
          have hE2d_122 : (d_122.1 h0 2).toInt = (d_115.1 h0 2).toInt := congrArg Int32.toInt ((yK.ag (F := []) yK.rf (show yAg S [47] d_115 d_122 from by rw [ed_122]; exact yAg.cs yAg.rf (by rw [hky_117]; decide)) (by rw [hk_h0]; decide)) 2 (by decide))
          have hE3d_122 : (d_122.1 h0 3).toInt = (d_115.1 h0 3).toInt := congrArg Int32.toInt ((yK.ag (F := []) yK.rf (show yAg S [47] d_115 d_122 from by rw [ed_122]; exact yAg.cs yAg.rf (by rw [hky_117]; decide)) (by rw [hk_h0]; decide)) 3 (by decide))
          have hE63d_122 : (d_122.1 h0 63).toInt = (d_115.1 h0 63).toInt := congrArg Int32.toInt ((yK.ag (F := []) yK.rf (show yAg S [47] d_115 d_122 from by rw [ed_122]; exact yAg.cs yAg.rf (by rw [hky_117]; decide)) (by rw [hk_h0]; decide)) 63 (by decide))
          refine lv_iinc (v := v_4 + (-1)) (lv' := [(4, .int (v_4 + (-1))), (0, .ref h0), (1, .int p0), (2, .int p1), (3, .int p2)]) hx hb dX9_insert_98 hl (k := 0) rfl rfl (by decide) rfl (fun ls hl => ?_)
          obtain ⟨z_123, ez_123⟩ : ∃ z : Int32, z = v_4 + (-1) := ⟨_, rfl⟩
          rw [← ez_123] at hl
          refine lv_goto (tgt := 6) hx hb dX9_insert_101 (by decide) ?_
          have hCC_124 := yMI.c hId_122
          have T_125 : (z_123 : Int32).toInt = (v_4 : Int32).toInt + (-1) := tadd ez_123 (rfl : (v_4 : Int32).toInt = (v_4 : Int32).toInt) (by decide +kernel : ((-1) : Int32).toInt = (-1)) (by omega) (by omega)
          exact hnext_6 (z_123, d_122) _ _ ls (xdnl2 ez_123 c_8) ⟨hP, hD, hS, hgd_122, hPod_122, hfd_122, hId_122, hL0d_122, hK0d_122, (show (0 ≤ ((z_123) : Int32).toInt ∧ ((z_123) : Int32).toInt ≤ 4999 ∧ (d_122.1 h0 1).toInt = (d.1 h0 1).toInt) from by have hq0_ : (0 : Int32).toInt = 0 := (by decide +kernel); omega), lv_sub hl [0, 1, 2, 3, 4] rfl⟩
