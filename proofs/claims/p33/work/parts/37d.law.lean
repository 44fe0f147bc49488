theorem dL_law_1000 : decode cL_law 1000 = .ok (.aload_n 1, 1) := by decide +kernel
theorem dL_law_1001 : decode cL_law 1001 = .ok (.aload_n 0, 1) := by decide +kernel
theorem dL_law_1002 : decode cL_law 1002 = .ok (.iload_n 3, 1) := by decide +kernel
theorem dL_law_1003 : decode cL_law 1003 = .ok (.iconst 1, 1) := by decide +kernel
theorem dL_law_1004 : decode cL_law 1004 = .ok (.iadd, 1) := by decide +kernel
theorem dL_law_1005 : decode cL_law 1005 = .ok (.iaload, 1) := by decide +kernel
theorem dL_law_1006 : decode cL_law 1006 = .ok (.aload_n 0, 1) := by decide +kernel
theorem dL_law_1007 : decode cL_law 1007 = .ok (.iload_n 3, 1) := by decide +kernel
theorem dL_law_1008 : decode cL_law 1008 = .ok (.iconst 2, 1) := by decide +kernel
theorem dL_law_1009 : decode cL_law 1009 = .ok (.iadd, 1) := by decide +kernel
theorem dL_law_1010 : decode cL_law 1010 = .ok (.iaload, 1) := by decide +kernel
theorem dL_law_1011 : decode cL_law 1011 = .ok (.invokevirtual 98, 3) := by decide +kernel
theorem dL_law_1014 : decode cL_law 1014 = .ok (.pop, 1) := by decide +kernel
theorem dL_law_1015 : decode cL_law 1015 = .ok (.aload_n 2, 1) := by decide +kernel
theorem dL_law_1016 : decode cL_law 1016 = .ok (.aload_n 0, 1) := by decide +kernel
theorem dL_law_1017 : decode cL_law 1017 = .ok (.iload_n 3, 1) := by decide +kernel
theorem dL_law_1018 : decode cL_law 1018 = .ok (.iconst 1, 1) := by decide +kernel
theorem dL_law_1019 : decode cL_law 1019 = .ok (.iadd, 1) := by decide +kernel
theorem dL_law_1020 : decode cL_law 1020 = .ok (.iaload, 1) := by decide +kernel
theorem dL_law_1021 : decode cL_law 1021 = .ok (.aload_n 0, 1) := by decide +kernel
theorem dL_law_1022 : decode cL_law 1022 = .ok (.iload_n 3, 1) := by decide +kernel
theorem dL_law_1023 : decode cL_law 1023 = .ok (.iconst 2, 1) := by decide +kernel
theorem dL_law_1024 : decode cL_law 1024 = .ok (.iadd, 1) := by decide +kernel
theorem dL_law_1025 : decode cL_law 1025 = .ok (.iaload, 1) := by decide +kernel
theorem dL_law_1026 : decode cL_law 1026 = .ok (.invokevirtual 101, 3) := by decide +kernel
theorem dL_law_1029 : decode cL_law 1029 = .ok (.pop, 1) := by decide +kernel
theorem dL_law_1030 : decode cL_law 1030 = .ok (.goto 756, 3) := by decide +kernel
set_option maxHeartbeats 4000000 in
set_option maxRecDepth 100000 in
/-- case 18: offset -/
theorem law_18 {p : Program} {l : Launch} {e : Env} {s : State} {m : MethodId} {below : List Frame} {meth : Method} {c : Code} {G : xG} {sc L : Nat} {xs : Nat → Int32} {A : Nat → Prop} {S : yS} {q0 m0 : Nat} (C0 : CallFix p m c code 4 s #[Value.ref sc] wsT RL) (hr : meth.sig.returnType = ret) (hlocks : meth.locks = false) (hK : va_K G.1 xcl (xty G) s) (hN : xN s) (hX : va_X sc L xs s s.heap) (hbl : sc < s.heap.size) (hbA : ¬ A sc) (hA : ∀ q : Nat, s.heap.size ≤ q → A q) (hA2 : ∀ q, A q → s.heap.size ≤ q) (hL : L ≤ 3584) (hSh : ySh S) (hm_q0 : q0 ∈ S.1) (hk_q0 : S.2.1 q0 = 8) (hm_m0 : m0 ∈ S.1) (hk_m0 : S.2.1 m0 = 9) (hnk : S.2.2.1 q0 0 ≠ S.2.2.1 q0 1) {d : yD} {v : Int32} (hv0 : 0 ≤ v.toInt) (hv1 : v.toInt + 7 ≤ (L : Int)) (hPo : yPo S d) (hI : yMI S d m0) (hR : zR4 S d q0 m0) {H : Heap} {locs : List Loc} {ls : Array Slot} (hP : va_P G.1 xcl (yW G S d) H) (hD : va_D A (yW G S d)) (hS : va_S A s.heap H locs) (hl : lv_has ls 4 [(3, .int v), (2, .ref m0), (1, .ref q0), (0, .ref sc)]) (kk : ∀ (u : yD) (H1 : Heap) (locs1 : List Loc) (ls1 : Array Slot), va_P G.1 xcl (yW G S u) H1 → va_D A (yW G S u) → va_S A s.heap H1 locs1 → yPo S u → yMI S u m0 → zR4 S u q0 m0 → lv_has ls1 4 [(3, .int v), (2, .ref m0), (1, .ref q0), (0, .ref sc)] → W p l e room_1 s m #[Value.ref sc] below meth c H1 locs1 169 136076 (lw_Z below #[Value.ref sc] s) (F0 m 1786 ls1 [])) : W p l e room_1 s m #[Value.ref sc] below meth c H locs 169 136076 (lw_Z below #[Value.ref sc] s) (F0 m 1000 ls []) := by
  obtain ⟨hx, hb, hml, hown, htl⟩ := id C0
  refine lv_aload_n hx hb dL_law_1000 rfl (lv_at hl 2 rfl) ?_
  refine lv_aload_n hx hb dL_law_1001 rfl (lv_at hl 3 rfl) ?_
  refine lv_iload_n hx hb dL_law_1002 rfl (lv_at hl 0 rfl) ?_
  refine lv_iconst (v := 1) hx hb dL_law_1003 (by decide) ?_
  refine lv_iadd hx hb dL_law_1004 ?_
  refine lv_topi (fun z_1 ez_1 => ?_)
  have T_2 : (z_1 : Int32).toInt = (v : Int32).toInt + 1 := tadd ez_1 (rfl : (v : Int32).toInt = (v : Int32).toInt) (by decide +kernel : (1 : Int32).toInt = 1) (by omega) (by omega)
  refine va_sld hx hb hX hbl hbA hS (xinL (by omega) (by omega)) dL_law_1005 ?_
  refine lv_topi (fun z_3 ez_3 => ?_)
  refine lv_aload_n hx hb dL_law_1006 rfl (lv_at hl 3 rfl) ?_
  refine lv_iload_n hx hb dL_law_1007 rfl (lv_at hl 0 rfl) ?_
  refine lv_iconst (v := 2) hx hb dL_law_1008 (by decide) ?_
  refine lv_iadd hx hb dL_law_1009 ?_
  refine lv_topi (fun z_4 ez_4 => ?_)
  have T_5 : (z_4 : Int32).toInt = (v : Int32).toInt + 2 := tadd ez_4 (rfl : (v : Int32).toInt = (v : Int32).toInt) (by decide +kernel : (2 : Int32).toInt = 2) (by omega) (by omega)
  refine va_sld hx hb hX hbl hbA hS (xinL (by omega) (by omega)) dL_law_1010 ?_
  refine lv_topi (fun z_6 ez_6 => ?_)
  refine yVwi (As := [.int z_3, .int z_6]) (rest := []) C0 (g_X8_offset l G S d q0 z_3 z_6 hSh hPo hm_q0 hk_q0) ok_X8_offset (mW530 : Cond.methodLink RL 98 yX8_offset ∈ wsT) ⟨Nat.le_of_ble_eq_true rfl, Nat.le_of_ble_eq_true rfl⟩ hP hD hS hA hK hN hm_q0 hk_q0 (by decide) rfl rfl rfl hl.1 rfl (Nat.le_of_ble_eq_true rfl) ⟨Nat.le_of_ble_eq_true rfl, Nat.le_of_ble_eq_true rfl⟩ dL_law_1011 (fun r_7 d_8 H locs hr_7 hP hD hS => ?_)
  obtain ⟨hgad_8, hpad_8, hxd_8⟩ := hr_7
  have hPod_8 : yPo S d_8 := hpad_8 hPo
  have hId_8 : yMI S d_8 m0 := yMI.ag hI hSh hm_m0 hk_m0 hgad_8 (yK.ag (F := []) yK.rf hgad_8 (by rw [hk_m0]; decide)) (by decide) (by decide)
  refine lv_pop hx hb dL_law_1014 rfl ?_
  refine lv_aload_n hx hb dL_law_1015 rfl (lv_at hl 1 rfl) ?_
  refine lv_aload_n hx hb dL_law_1016 rfl (lv_at hl 3 rfl) ?_
  refine lv_iload_n hx hb dL_law_1017 rfl (lv_at hl 0 rfl) ?_
  refine lv_iconst (v := 1) hx hb dL_law_1018 (by decide) ?_
  refine lv_iadd hx hb dL_law_1019 ?_
  rw [← ez_1]
  refine va_sld hx hb hX hbl hbA hS (xinL (by omega) (by omega)) dL_law_1020 ?_
  rw [← ez_3]
  refine lv_aload_n hx hb dL_law_1021 rfl (lv_at hl 3 rfl) ?_
  refine lv_iload_n hx hb dL_law_1022 rfl (lv_at hl 0 rfl) ?_
  refine lv_iconst (v := 2) hx hb dL_law_1023 (by decide) ?_
  refine lv_iadd hx hb dL_law_1024 ?_
  rw [← ez_4]
  refine va_sld hx hb hX hbl hbA hS (xinL (by omega) (by omega)) dL_law_1025 ?_
  rw [← ez_6]
  refine yVwi (As := [.int z_3, .int z_6]) (rest := []) C0 (g_X9_offset l G S d_8 m0 z_3 z_6 hSh hPod_8 hm_m0 hk_m0 hId_8) ok_X9_offset (mW535 : Cond.methodLink RL 101 yX9_offset ∈ wsT) ⟨Nat.le_of_ble_eq_true rfl, Nat.le_of_ble_eq_true rfl⟩ hP hD hS hA hK hN hm_m0 hk_m0 (by decide) rfl rfl rfl hl.1 rfl (Nat.le_of_ble_eq_true rfl) ⟨Nat.le_of_ble_eq_true rfl, Nat.le_of_ble_eq_true rfl⟩ dL_law_1026 (fun r_9 d_10 H locs hr_9 hP hD hS => ?_)
  obtain ⟨hgad_10, hpad_10, hfad_10, hxd_10⟩ := hr_9
  have hPod_10 : yPo S d_10 := hpad_10 hPod_8
  have hId_10 : yMI S d_10 m0 := hxd_10.1
  refine lv_pop hx hb dL_law_1029 rfl ?_
  refine lv_goto (tgt := 1786) hx hb dL_law_1030 (by decide) ?_
  exact kk d_10 _ _ ls hP hD hS hPod_10 hId_10 (zR4.offset hR hId_8 hPo hSh hm_q0 hk_q0 hm_m0 hk_m0 hnk hgad_8 hgad_10 hfad_10 hxd_8 hxd_10).2 (lv_sub hl [0, 1, 2, 3] rfl)
theorem dL_law_1033 : decode cL_law 1033 = .ok (.aload_n 1, 1) := by decide +kernel
theorem dL_law_1034 : decode cL_law 1034 = .ok (.aload_n 0, 1) := by decide +kernel
theorem dL_law_1035 : decode cL_law 1035 = .ok (.iload_n 3, 1) := by decide +kernel
theorem dL_law_1036 : decode cL_law 1036 = .ok (.iconst 1, 1) := by decide +kernel
theorem dL_law_1037 : decode cL_law 1037 = .ok (.iadd, 1) := by decide +kernel
theorem dL_law_1038 : decode cL_law 1038 = .ok (.iaload, 1) := by decide +kernel
theorem dL_law_1039 : decode cL_law 1039 = .ok (.aload_n 0, 1) := by decide +kernel
theorem dL_law_1040 : decode cL_law 1040 = .ok (.iload_n 3, 1) := by decide +kernel
theorem dL_law_1041 : decode cL_law 1041 = .ok (.iconst 2, 1) := by decide +kernel
theorem dL_law_1042 : decode cL_law 1042 = .ok (.iadd, 1) := by decide +kernel
theorem dL_law_1043 : decode cL_law 1043 = .ok (.iaload, 1) := by decide +kernel
theorem dL_law_1044 : decode cL_law 1044 = .ok (.i2l, 1) := by decide +kernel
theorem dL_law_1045 : decode cL_law 1045 = .ok (.bipush 32, 2) := by decide +kernel
theorem dL_law_1047 : decode cL_law 1047 = .ok (.lshl, 1) := by decide +kernel
theorem dL_law_1048 : decode cL_law 1048 = .ok (.aload_n 0, 1) := by decide +kernel
theorem dL_law_1049 : decode cL_law 1049 = .ok (.iload_n 3, 1) := by decide +kernel
theorem dL_law_1050 : decode cL_law 1050 = .ok (.iconst 3, 1) := by decide +kernel
theorem dL_law_1051 : decode cL_law 1051 = .ok (.iadd, 1) := by decide +kernel
theorem dL_law_1052 : decode cL_law 1052 = .ok (.iaload, 1) := by decide +kernel
theorem dL_law_1053 : decode cL_law 1053 = .ok (.i2l, 1) := by decide +kernel
theorem dL_law_1054 : decode cL_law 1054 = .ok (.ldc2_w 86, 3) := by decide +kernel
theorem dL_law_1057 : decode cL_law 1057 = .ok (.land, 1) := by decide +kernel
theorem dL_law_1058 : decode cL_law 1058 = .ok (.lor, 1) := by decide +kernel
theorem dL_law_1059 : decode cL_law 1059 = .ok (.aload_n 0, 1) := by decide +kernel
theorem dL_law_1060 : decode cL_law 1060 = .ok (.iload_n 3, 1) := by decide +kernel
theorem dL_law_1061 : decode cL_law 1061 = .ok (.iconst 4, 1) := by decide +kernel
theorem dL_law_1062 : decode cL_law 1062 = .ok (.iadd, 1) := by decide +kernel
theorem dL_law_1063 : decode cL_law 1063 = .ok (.iaload, 1) := by decide +kernel
theorem dL_law_1064 : decode cL_law 1064 = .ok (.i2l, 1) := by decide +kernel
theorem dL_law_1065 : decode cL_law 1065 = .ok (.bipush 32, 2) := by decide +kernel
theorem dL_law_1067 : decode cL_law 1067 = .ok (.lshl, 1) := by decide +kernel
theorem dL_law_1068 : decode cL_law 1068 = .ok (.aload_n 0, 1) := by decide +kernel
theorem dL_law_1069 : decode cL_law 1069 = .ok (.iload_n 3, 1) := by decide +kernel
theorem dL_law_1070 : decode cL_law 1070 = .ok (.iconst 5, 1) := by decide +kernel
theorem dL_law_1071 : decode cL_law 1071 = .ok (.iadd, 1) := by decide +kernel
theorem dL_law_1072 : decode cL_law 1072 = .ok (.iaload, 1) := by decide +kernel
theorem dL_law_1073 : decode cL_law 1073 = .ok (.i2l, 1) := by decide +kernel
theorem dL_law_1074 : decode cL_law 1074 = .ok (.ldc2_w 86, 3) := by decide +kernel
theorem dL_law_1077 : decode cL_law 1077 = .ok (.land, 1) := by decide +kernel
theorem dL_law_1078 : decode cL_law 1078 = .ok (.lor, 1) := by decide +kernel
theorem dL_law_1079 : decode cL_law 1079 = .ok (.invokevirtual 102, 3) := by decide +kernel
theorem dL_law_1082 : decode cL_law 1082 = .ok (.pop, 1) := by decide +kernel
theorem dL_law_1083 : decode cL_law 1083 = .ok (.aload_n 2, 1) := by decide +kernel
theorem dL_law_1084 : decode cL_law 1084 = .ok (.aload_n 0, 1) := by decide +kernel
theorem dL_law_1085 : decode cL_law 1085 = .ok (.iload_n 3, 1) := by decide +kernel
theorem dL_law_1086 : decode cL_law 1086 = .ok (.iconst 1, 1) := by decide +kernel
theorem dL_law_1087 : decode cL_law 1087 = .ok (.iadd, 1) := by decide +kernel
theorem dL_law_1088 : decode cL_law 1088 = .ok (.iaload, 1) := by decide +kernel
theorem dL_law_1089 : decode cL_law 1089 = .ok (.aload_n 0, 1) := by decide +kernel
theorem dL_law_1090 : decode cL_law 1090 = .ok (.iload_n 3, 1) := by decide +kernel
theorem dL_law_1091 : decode cL_law 1091 = .ok (.iconst 2, 1) := by decide +kernel
theorem dL_law_1092 : decode cL_law 1092 = .ok (.iadd, 1) := by decide +kernel
theorem dL_law_1093 : decode cL_law 1093 = .ok (.iaload, 1) := by decide +kernel
theorem dL_law_1094 : decode cL_law 1094 = .ok (.i2l, 1) := by decide +kernel
theorem dL_law_1095 : decode cL_law 1095 = .ok (.bipush 32, 2) := by decide +kernel
theorem dL_law_1097 : decode cL_law 1097 = .ok (.lshl, 1) := by decide +kernel
theorem dL_law_1098 : decode cL_law 1098 = .ok (.aload_n 0, 1) := by decide +kernel
theorem dL_law_1099 : decode cL_law 1099 = .ok (.iload_n 3, 1) := by decide +kernel
theorem dL_law_1100 : decode cL_law 1100 = .ok (.iconst 3, 1) := by decide +kernel
theorem dL_law_1101 : decode cL_law 1101 = .ok (.iadd, 1) := by decide +kernel
theorem dL_law_1102 : decode cL_law 1102 = .ok (.iaload, 1) := by decide +kernel
theorem dL_law_1103 : decode cL_law 1103 = .ok (.i2l, 1) := by decide +kernel
theorem dL_law_1104 : decode cL_law 1104 = .ok (.ldc2_w 86, 3) := by decide +kernel
theorem dL_law_1107 : decode cL_law 1107 = .ok (.land, 1) := by decide +kernel
theorem dL_law_1108 : decode cL_law 1108 = .ok (.lor, 1) := by decide +kernel
theorem dL_law_1109 : decode cL_law 1109 = .ok (.aload_n 0, 1) := by decide +kernel
theorem dL_law_1110 : decode cL_law 1110 = .ok (.iload_n 3, 1) := by decide +kernel
theorem dL_law_1111 : decode cL_law 1111 = .ok (.iconst 4, 1) := by decide +kernel
theorem dL_law_1112 : decode cL_law 1112 = .ok (.iadd, 1) := by decide +kernel
theorem dL_law_1113 : decode cL_law 1113 = .ok (.iaload, 1) := by decide +kernel
theorem dL_law_1114 : decode cL_law 1114 = .ok (.i2l, 1) := by decide +kernel
theorem dL_law_1115 : decode cL_law 1115 = .ok (.bipush 32, 2) := by decide +kernel
theorem dL_law_1117 : decode cL_law 1117 = .ok (.lshl, 1) := by decide +kernel
theorem dL_law_1118 : decode cL_law 1118 = .ok (.aload_n 0, 1) := by decide +kernel
theorem dL_law_1119 : decode cL_law 1119 = .ok (.iload_n 3, 1) := by decide +kernel
theorem dL_law_1120 : decode cL_law 1120 = .ok (.iconst 5, 1) := by decide +kernel
theorem dL_law_1121 : decode cL_law 1121 = .ok (.iadd, 1) := by decide +kernel
theorem dL_law_1122 : decode cL_law 1122 = .ok (.iaload, 1) := by decide +kernel
theorem dL_law_1123 : decode cL_law 1123 = .ok (.i2l, 1) := by decide +kernel
theorem dL_law_1124 : decode cL_law 1124 = .ok (.ldc2_w 86, 3) := by decide +kernel
theorem dL_law_1127 : decode cL_law 1127 = .ok (.land, 1) := by decide +kernel
theorem dL_law_1128 : decode cL_law 1128 = .ok (.lor, 1) := by decide +kernel
theorem dL_law_1129 : decode cL_law 1129 = .ok (.invokevirtual 106, 3) := by decide +kernel
theorem dL_law_1132 : decode cL_law 1132 = .ok (.pop, 1) := by decide +kernel
theorem dL_law_1133 : decode cL_law 1133 = .ok (.goto 653, 3) := by decide +kernel
set_option maxHeartbeats 4000000 in
set_option maxRecDepth 100000 in
/-- case 19: rate -/
theorem law_19 {p : Program} {l : Launch} {e : Env} {s : State} {m : MethodId} {below : List Frame} {meth : Method} {c : Code} {G : xG} {sc L : Nat} {xs : Nat → Int32} {A : Nat → Prop} {S : yS} {q0 m0 : Nat} (C0 : CallFix p m c code 4 s #[Value.ref sc] wsT RL) (hr : meth.sig.returnType = ret) (hlocks : meth.locks = false) (hK : va_K G.1 xcl (xty G) s) (hN : xN s) (hX : va_X sc L xs s s.heap) (hbl : sc < s.heap.size) (hbA : ¬ A sc) (hA : ∀ q : Nat, s.heap.size ≤ q → A q) (hA2 : ∀ q, A q → s.heap.size ≤ q) (hL : L ≤ 3584) (hSh : ySh S) (hm_q0 : q0 ∈ S.1) (hk_q0 : S.2.1 q0 = 8) (hm_m0 : m0 ∈ S.1) (hk_m0 : S.2.1 m0 = 9) (hnk : S.2.2.1 q0 0 ≠ S.2.2.1 q0 1) {d : yD} {v : Int32} (hv0 : 0 ≤ v.toInt) (hv1 : v.toInt + 7 ≤ (L : Int)) (hPo : yPo S d) (hI : yMI S d m0) (hR : zR4 S d q0 m0) {H : Heap} {locs : List Loc} {ls : Array Slot} (hP : va_P G.1 xcl (yW G S d) H) (hD : va_D A (yW G S d)) (hS : va_S A s.heap H locs) (hl : lv_has ls 4 [(3, .int v), (2, .ref m0), (1, .ref q0), (0, .ref sc)]) (kk : ∀ (u : yD) (H1 : Heap) (locs1 : List Loc) (ls1 : Array Slot), va_P G.1 xcl (yW G S u) H1 → va_D A (yW G S u) → va_S A s.heap H1 locs1 → yPo S u → yMI S u m0 → zR4 S u q0 m0 → lv_has ls1 4 [(3, .int v), (2, .ref m0), (1, .ref q0), (0, .ref sc)] → W p l e room_1 s m #[Value.ref sc] below meth c H1 locs1 169 136076 (lw_Z below #[Value.ref sc] s) (F0 m 1786 ls1 [])) : W p l e room_1 s m #[Value.ref sc] below meth c H locs 169 136076 (lw_Z below #[Value.ref sc] s) (F0 m 1033 ls []) := by
  obtain ⟨hx, hb, hml, hown, htl⟩ := id C0
  refine lv_aload_n hx hb dL_law_1033 rfl (lv_at hl 2 rfl) ?_
  refine lv_aload_n hx hb dL_law_1034 rfl (lv_at hl 3 rfl) ?_
  refine lv_iload_n hx hb dL_law_1035 rfl (lv_at hl 0 rfl) ?_
  refine lv_iconst (v := 1) hx hb dL_law_1036 (by decide) ?_
  refine lv_iadd hx hb dL_law_1037 ?_
  refine lv_topi (fun z_1 ez_1 => ?_)
  have T_2 : (z_1 : Int32).toInt = (v : Int32).toInt + 1 := tadd ez_1 (rfl : (v : Int32).toInt = (v : Int32).toInt) (by decide +kernel : (1 : Int32).toInt = 1) (by omega) (by omega)
  refine va_sld hx hb hX hbl hbA hS (xinL (by omega) (by omega)) dL_law_1038 ?_
  refine lv_topi (fun z_3 ez_3 => ?_)
  refine lv_aload_n hx hb dL_law_1039 rfl (lv_at hl 3 rfl) ?_
  refine lv_iload_n hx hb dL_law_1040 rfl (lv_at hl 0 rfl) ?_
  refine lv_iconst (v := 2) hx hb dL_law_1041 (by decide) ?_
  refine lv_iadd hx hb dL_law_1042 ?_
  refine lv_topi (fun z_4 ez_4 => ?_)
  have T_5 : (z_4 : Int32).toInt = (v : Int32).toInt + 2 := tadd ez_4 (rfl : (v : Int32).toInt = (v : Int32).toInt) (by decide +kernel : (2 : Int32).toInt = 2) (by omega) (by omega)
  refine va_sld hx hb hX hbl hbA hS (xinL (by omega) (by omega)) dL_law_1043 ?_
  refine lv_topi (fun z_6 ez_6 => ?_)
  refine lv_i2l hx hb dL_law_1044 rfl ?_
  refine lv_topl (fun z_7 ez_7 => ?_)
  refine lv_bipush (v := 32) hx hb dL_law_1045 (by decide) ?_
  refine lv_lshl hx hb dL_law_1047 rfl ?_
  refine lv_topl (fun z_8 ez_8 => ?_)
  refine lv_aload_n hx hb dL_law_1048 rfl (lv_at hl 3 rfl) ?_
  refine lv_iload_n hx hb dL_law_1049 rfl (lv_at hl 0 rfl) ?_
  refine lv_iconst (v := 3) hx hb dL_law_1050 (by decide) ?_
  refine lv_iadd hx hb dL_law_1051 ?_
  refine lv_topi (fun z_9 ez_9 => ?_)
  have T_10 : (z_9 : Int32).toInt = (v : Int32).toInt + 3 := tadd ez_9 (rfl : (v : Int32).toInt = (v : Int32).toInt) (by decide +kernel : (3 : Int32).toInt = 3) (by omega) (by omega)
  refine va_sld hx hb hX hbl hbA hS (xinL (by omega) (by omega)) dL_law_1052 ?_
  refine lv_topi (fun z_11 ez_11 => ?_)
  refine lv_i2l hx hb dL_law_1053 rfl ?_
  refine lv_topl (fun z_12 ez_12 => ?_)
  refine lv_ldc2 (v := 4294967295) hx hb hown (htl (.constantLong RL 86 (4294967295)) mW6) dL_law_1054 ?_
  refine lv_land hx hb dL_law_1057 ?_
  refine lv_topl (fun z_13 ez_13 => ?_)
  refine lv_lor hx hb dL_law_1058 ?_
  refine lv_topl (fun z_14 ez_14 => ?_)
  refine lv_aload_n hx hb dL_law_1059 rfl (lv_at hl 3 rfl) ?_
  refine lv_iload_n hx hb dL_law_1060 rfl (lv_at hl 0 rfl) ?_
  refine lv_iconst (v := 4) hx hb dL_law_1061 (by decide) ?_
  refine lv_iadd hx hb dL_law_1062 ?_
  refine lv_topi (fun z_15 ez_15 => ?_)
  have T_16 : (z_15 : Int32).toInt = (v : Int32).toInt + 4 := tadd ez_15 (rfl : (v : Int32).toInt = (v : Int32).toInt) (by decide +kernel : (4 : Int32).toInt = 4) (by omega) (by omega)
  refine va_sld hx hb hX hbl hbA hS (xinL (by omega) (by omega)) dL_law_1063 ?_
  refine lv_topi (fun z_17 ez_17 => ?_)
  refine lv_i2l hx hb dL_law_1064 rfl ?_
  refine lv_topl (fun z_18 ez_18 => ?_)
  refine lv_bipush (v := 32) hx hb dL_law_1065 (by decide) ?_
  refine lv_lshl hx hb dL_law_1067 rfl ?_
  refine lv_topl (fun z_19 ez_19 => ?_)
  refine lv_aload_n hx hb dL_law_1068 rfl (lv_at hl 3 rfl) ?_
  refine lv_iload_n hx hb dL_law_1069 rfl (lv_at hl 0 rfl) ?_
  refine lv_iconst (v := 5) hx hb dL_law_1070 (by decide) ?_
  refine lv_iadd hx hb dL_law_1071 ?_
  refine lv_topi (fun z_20 ez_20 => ?_)
  have T_21 : (z_20 : Int32).toInt = (v : Int32).toInt + 5 := tadd ez_20 (rfl : (v : Int32).toInt = (v : Int32).toInt) (by decide +kernel : (5 : Int32).toInt = 5) (by omega) (by omega)
  refine va_sld hx hb hX hbl hbA hS (xinL (by omega) (by omega)) dL_law_1072 ?_
  refine lv_topi (fun z_22 ez_22 => ?_)
  refine lv_i2l hx hb dL_law_1073 rfl ?_
  refine lv_topl (fun z_23 ez_23 => ?_)
  refine lv_ldc2 (v := 4294967295) hx hb hown (htl (.constantLong RL 86 (4294967295)) mW6) dL_law_1074 ?_
  refine lv_land hx hb dL_law_1077 ?_
  refine lv_topl (fun z_24 ez_24 => ?_)
  refine lv_lor hx hb dL_law_1078 ?_
  refine lv_topl (fun z_25 ez_25 => ?_)
  refine yVwi (As := [.int z_3, .long z_14, .long z_25]) (rest := []) C0 (g_X8_rate l G S d q0 z_3 z_14 z_25 hSh hPo hm_q0 hk_q0) ok_X8_rate (mW540 : Cond.methodLink RL 102 yX8_rate ∈ wsT) ⟨Nat.le_of_ble_eq_true rfl, Nat.le_of_ble_eq_true rfl⟩ hP hD hS hA hK hN hm_q0 hk_q0 (by decide) rfl rfl rfl hl.1 rfl (Nat.le_of_ble_eq_true rfl) ⟨Nat.le_of_ble_eq_true rfl, Nat.le_of_ble_eq_true rfl⟩ dL_law_1079 (fun r_26 d_27 H locs hr_26 hP hD hS => ?_)
  obtain ⟨hgad_27, hpad_27, hxd_27⟩ := hr_26
  have hPod_27 : yPo S d_27 := hpad_27 hPo
  have hId_27 : yMI S d_27 m0 := yMI.ag hI hSh hm_m0 hk_m0 hgad_27 (yK.ag (F := []) yK.rf hgad_27 (by rw [hk_m0]; decide)) (by decide) (by decide)
  refine lv_pop hx hb dL_law_1082 rfl ?_
  refine lv_aload_n hx hb dL_law_1083 rfl (lv_at hl 1 rfl) ?_
  refine lv_aload_n hx hb dL_law_1084 rfl (lv_at hl 3 rfl) ?_
  refine lv_iload_n hx hb dL_law_1085 rfl (lv_at hl 0 rfl) ?_
  refine lv_iconst (v := 1) hx hb dL_law_1086 (by decide) ?_
  refine lv_iadd hx hb dL_law_1087 ?_
  rw [← ez_1]
  refine va_sld hx hb hX hbl hbA hS (xinL (by omega) (by omega)) dL_law_1088 ?_
  rw [← ez_3]
  refine lv_aload_n hx hb dL_law_1089 rfl (lv_at hl 3 rfl) ?_
  refine lv_iload_n hx hb dL_law_1090 rfl (lv_at hl 0 rfl) ?_
  refine lv_iconst (v := 2) hx hb dL_law_1091 (by decide) ?_
  refine lv_iadd hx hb dL_law_1092 ?_
  rw [← ez_4]
  refine va_sld hx hb hX hbl hbA hS (xinL (by omega) (by omega)) dL_law_1093 ?_
  rw [← ez_6]
  refine lv_i2l hx hb dL_law_1094 rfl ?_
  rw [← ez_7]
  refine lv_bipush (v := 32) hx hb dL_law_1095 (by decide) ?_
  refine lv_lshl hx hb dL_law_1097 rfl ?_
  rw [← ez_8]
  refine lv_aload_n hx hb dL_law_1098 rfl (lv_at hl 3 rfl) ?_
  refine lv_iload_n hx hb dL_law_1099 rfl (lv_at hl 0 rfl) ?_
  refine lv_iconst (v := 3) hx hb dL_law_1100 (by decide) ?_
  refine lv_iadd hx hb dL_law_1101 ?_
  rw [← ez_9]
  refine va_sld hx hb hX hbl hbA hS (xinL (by omega) (by omega)) dL_law_1102 ?_
  rw [← ez_11]
  refine lv_i2l hx hb dL_law_1103 rfl ?_
  rw [← ez_12]
  refine lv_ldc2 (v := 4294967295) hx hb hown (htl (.constantLong RL 86 (4294967295)) mW6) dL_law_1104 ?_
  refine lv_land hx hb dL_law_1107 ?_
  rw [← ez_13]
  refine lv_lor hx hb dL_law_1108 ?_
  rw [← ez_14]
  refine lv_aload_n hx hb dL_law_1109 rfl (lv_at hl 3 rfl) ?_
  refine lv_iload_n hx hb dL_law_1110 rfl (lv_at hl 0 rfl) ?_
  refine lv_iconst (v := 4) hx hb dL_law_1111 (by decide) ?_
  refine lv_iadd hx hb dL_law_1112 ?_
  rw [← ez_15]
  refine va_sld hx hb hX hbl hbA hS (xinL (by omega) (by omega)) dL_law_1113 ?_
  rw [← ez_17]
  refine lv_i2l hx hb dL_law_1114 rfl ?_
  rw [← ez_18]
  refine lv_bipush (v := 32) hx hb dL_law_1115 (by decide) ?_
  refine lv_lshl hx hb dL_law_1117 rfl ?_
  rw [← ez_19]
  refine lv_aload_n hx hb dL_law_1118 rfl (lv_at hl 3 rfl) ?_
  refine lv_iload_n hx hb dL_law_1119 rfl (lv_at hl 0 rfl) ?_
  refine lv_iconst (v := 5) hx hb dL_law_1120 (by decide) ?_
  refine lv_iadd hx hb dL_law_1121 ?_
  rw [← ez_20]
  refine va_sld hx hb hX hbl hbA hS (xinL (by omega) (by omega)) dL_law_1122 ?_
  rw [← ez_22]
  refine lv_i2l hx hb dL_law_1123 rfl ?_
  rw [← ez_23]
  refine lv_ldc2 (v := 4294967295) hx hb hown (htl (.constantLong RL 86 (4294967295)) mW6) dL_law_1124 ?_
  refine lv_land hx hb dL_law_1127 ?_
  rw [← ez_24]
  refine lv_lor hx hb dL_law_1128 ?_
  rw [← ez_25]
  refine yVwi (As := [.int z_3, .long z_14, .long z_25]) (rest := []) C0 (g_X9_rate l G S d_27 m0 z_3 z_14 z_25 hSh hPod_27 hm_m0 hk_m0 hId_27) ok_X9_rate (mW547 : Cond.methodLink RL 106 yX9_rate ∈ wsT) ⟨Nat.le_of_ble_eq_true rfl, Nat.le_of_ble_eq_true rfl⟩ hP hD hS hA hK hN hm_m0 hk_m0 (by decide) rfl rfl rfl hl.1 rfl (Nat.le_of_ble_eq_true rfl) ⟨Nat.le_of_ble_eq_true rfl, Nat.le_of_ble_eq_true rfl⟩ dL_law_1129 (fun r_28 d_29 H locs hr_28 hP hD hS => ?_)
  obtain ⟨hgad_29, hpad_29, hfad_29, hxd_29⟩ := hr_28
  have hPod_29 : yPo S d_29 := hpad_29 hPod_27
  have hId_29 : yMI S d_29 m0 := hxd_29.1
  refine lv_pop hx hb dL_law_1132 rfl ?_
  refine lv_goto (tgt := 1786) hx hb dL_law_1133 (by decide) ?_
  exact kk d_29 _ _ ls hP hD hS hPod_29 hId_29 (zR4.rate hR hId_27 hPo hSh hm_q0 hk_q0 hm_m0 hk_m0 hnk hgad_27 hgad_29 hfad_29 hxd_27 hxd_29).2 (lv_sub hl [0, 1, 2, 3] rfl)
theorem dL_law_1136 : decode cL_law 1136 = .ok (.aload_n 1, 1) := by decide +kernel
theorem dL_law_1137 : decode cL_law 1137 = .ok (.aload_n 0, 1) := by decide +kernel
theorem dL_law_1138 : decode cL_law 1138 = .ok (.iload_n 3, 1) := by decide +kernel
theorem dL_law_1139 : decode cL_law 1139 = .ok (.iconst 1, 1) := by decide +kernel
theorem dL_law_1140 : decode cL_law 1140 = .ok (.iadd, 1) := by decide +kernel
theorem dL_law_1141 : decode cL_law 1141 = .ok (.iaload, 1) := by decide +kernel
theorem dL_law_1142 : decode cL_law 1142 = .ok (.invokevirtual 107, 3) := by decide +kernel
theorem dL_law_1145 : decode cL_law 1145 = .ok (.pop, 1) := by decide +kernel
theorem dL_law_1146 : decode cL_law 1146 = .ok (.aload_n 2, 1) := by decide +kernel
theorem dL_law_1147 : decode cL_law 1147 = .ok (.aload_n 0, 1) := by decide +kernel
theorem dL_law_1148 : decode cL_law 1148 = .ok (.iload_n 3, 1) := by decide +kernel
theorem dL_law_1149 : decode cL_law 1149 = .ok (.iconst 1, 1) := by decide +kernel
theorem dL_law_1150 : decode cL_law 1150 = .ok (.iadd, 1) := by decide +kernel
theorem dL_law_1151 : decode cL_law 1151 = .ok (.iaload, 1) := by decide +kernel
theorem dL_law_1152 : decode cL_law 1152 = .ok (.invokevirtual 110, 3) := by decide +kernel
theorem dL_law_1155 : decode cL_law 1155 = .ok (.pop, 1) := by decide +kernel
theorem dL_law_1156 : decode cL_law 1156 = .ok (.goto 630, 3) := by decide +kernel
set_option maxHeartbeats 4000000 in
set_option maxRecDepth 100000 in
/-- case 20: together -/
theorem law_20 {p : Program} {l : Launch} {e : Env} {s : State} {m : MethodId} {below : List Frame} {meth : Method} {c : Code} {G : xG} {sc L : Nat} {xs : Nat → Int32} {A : Nat → Prop} {S : yS} {q0 m0 : Nat} (C0 : CallFix p m c code 4 s #[Value.ref sc] wsT RL) (hr : meth.sig.returnType = ret) (hlocks : meth.locks = false) (hK : va_K G.1 xcl (xty G) s) (hN : xN s) (hX : va_X sc L xs s s.heap) (hbl : sc < s.heap.size) (hbA : ¬ A sc) (hA : ∀ q : Nat, s.heap.size ≤ q → A q) (hA2 : ∀ q, A q → s.heap.size ≤ q) (hL : L ≤ 3584) (hSh : ySh S) (hm_q0 : q0 ∈ S.1) (hk_q0 : S.2.1 q0 = 8) (hm_m0 : m0 ∈ S.1) (hk_m0 : S.2.1 m0 = 9) (hnk : S.2.2.1 q0 0 ≠ S.2.2.1 q0 1) {d : yD} {v : Int32} (hv0 : 0 ≤ v.toInt) (hv1 : v.toInt + 7 ≤ (L : Int)) (hPo : yPo S d) (hI : yMI S d m0) (hR : zR4 S d q0 m0) {H : Heap} {locs : List Loc} {ls : Array Slot} (hP : va_P G.1 xcl (yW G S d) H) (hD : va_D A (yW G S d)) (hS : va_S A s.heap H locs) (hl : lv_has ls 4 [(3, .int v), (2, .ref m0), (1, .ref q0), (0, .ref sc)]) (kk : ∀ (u : yD) (H1 : Heap) (locs1 : List Loc) (ls1 : Array Slot), va_P G.1 xcl (yW G S u) H1 → va_D A (yW G S u) → va_S A s.heap H1 locs1 → yPo S u → yMI S u m0 → zR4 S u q0 m0 → lv_has ls1 4 [(3, .int v), (2, .ref m0), (1, .ref q0), (0, .ref sc)] → W p l e room_1 s m #[Value.ref sc] below meth c H1 locs1 169 136076 (lw_Z below #[Value.ref sc] s) (F0 m 1786 ls1 [])) : W p l e room_1 s m #[Value.ref sc] below meth c H locs 169 136076 (lw_Z below #[Value.ref sc] s) (F0 m 1136 ls []) := by
  obtain ⟨hx, hb, hml, hown, htl⟩ := id C0
  refine lv_aload_n hx hb dL_law_1136 rfl (lv_at hl 2 rfl) ?_
  refine lv_aload_n hx hb dL_law_1137 rfl (lv_at hl 3 rfl) ?_
  refine lv_iload_n hx hb dL_law_1138 rfl (lv_at hl 0 rfl) ?_
  refine lv_iconst (v := 1) hx hb dL_law_1139 (by decide) ?_
  refine lv_iadd hx hb dL_law_1140 ?_
  refine lv_topi (fun z_1 ez_1 => ?_)
  have T_2 : (z_1 : Int32).toInt = (v : Int32).toInt + 1 := tadd ez_1 (rfl : (v : Int32).toInt = (v : Int32).toInt) (by decide +kernel : (1 : Int32).toInt = 1) (by omega) (by omega)
  refine va_sld hx hb hX hbl hbA hS (xinL (by omega) (by omega)) dL_law_1141 ?_
  refine lv_topi (fun z_3 ez_3 => ?_)
  refine yVwi (As := [.int z_3]) (rest := []) C0 (g_X8_together l G S d q0 z_3 hSh hPo hm_q0 hk_q0) ok_X8_together (mW552 : Cond.methodLink RL 107 yX8_together ∈ wsT) ⟨Nat.le_of_ble_eq_true rfl, Nat.le_of_ble_eq_true rfl⟩ hP hD hS hA hK hN hm_q0 hk_q0 (by decide) rfl rfl rfl hl.1 rfl (Nat.le_of_ble_eq_true rfl) ⟨Nat.le_of_ble_eq_true rfl, Nat.le_of_ble_eq_true rfl⟩ dL_law_1142 (fun r_4 d_5 H locs hr_4 hP hD hS => ?_)
  obtain ⟨hgad_5, hpad_5, hxd_5⟩ := hr_4
  have hPod_5 : yPo S d_5 := hpad_5 hPo
  have hId_5 : yMI S d_5 m0 := yMI.ag hI hSh hm_m0 hk_m0 hgad_5 (yK.ag (F := []) yK.rf hgad_5 (by rw [hk_m0]; decide)) (by decide) (by decide)
  refine lv_pop hx hb dL_law_1145 rfl ?_
  refine lv_aload_n hx hb dL_law_1146 rfl (lv_at hl 1 rfl) ?_
  refine lv_aload_n hx hb dL_law_1147 rfl (lv_at hl 3 rfl) ?_
  refine lv_iload_n hx hb dL_law_1148 rfl (lv_at hl 0 rfl) ?_
  refine lv_iconst (v := 1) hx hb dL_law_1149 (by decide) ?_
  refine lv_iadd hx hb dL_law_1150 ?_
  rw [← ez_1]
  refine va_sld hx hb hX hbl hbA hS (xinL (by omega) (by omega)) dL_law_1151 ?_
  rw [← ez_3]
  refine yVwi (As := [.int z_3]) (rest := []) C0 (g_X9_together l G S d_5 m0 z_3 hSh hPod_5 hm_m0 hk_m0 hId_5) ok_X9_together (mW556 : Cond.methodLink RL 110 yX9_together ∈ wsT) ⟨Nat.le_of_ble_eq_true rfl, Nat.le_of_ble_eq_true rfl⟩ hP hD hS hA hK hN hm_m0 hk_m0 (by decide) rfl rfl rfl hl.1 rfl (Nat.le_of_ble_eq_true rfl) ⟨Nat.le_of_ble_eq_true rfl, Nat.le_of_ble_eq_true rfl⟩ dL_law_1152 (fun r_6 d_7 H locs hr_6 hP hD hS => ?_)
  obtain ⟨hgad_7, hpad_7, hfad_7, hxd_7⟩ := hr_6
  have hPod_7 : yPo S d_7 := hpad_7 hPod_5
  have hId_7 : yMI S d_7 m0 := hxd_7.1
  refine lv_pop hx hb dL_law_1155 rfl ?_
  refine lv_goto (tgt := 1786) hx hb dL_law_1156 (by decide) ?_
  exact kk d_7 _ _ ls hP hD hS hPod_7 hId_7 (zR4.together hR hId_5 hPo hSh hm_q0 hk_q0 hm_m0 hk_m0 hnk hgad_5 hgad_7 hfad_7 hxd_5 hxd_7).2 (lv_sub hl [0, 1, 2, 3] rfl)
theorem dL_law_1159 : decode cL_law 1159 = .ok (.aload_n 1, 1) := by decide +kernel
theorem dL_law_1160 : decode cL_law 1160 = .ok (.aload_n 0, 1) := by decide +kernel
theorem dL_law_1161 : decode cL_law 1161 = .ok (.iload_n 3, 1) := by decide +kernel
theorem dL_law_1162 : decode cL_law 1162 = .ok (.iconst 1, 1) := by decide +kernel
theorem dL_law_1163 : decode cL_law 1163 = .ok (.iadd, 1) := by decide +kernel
theorem dL_law_1164 : decode cL_law 1164 = .ok (.iaload, 1) := by decide +kernel
theorem dL_law_1165 : decode cL_law 1165 = .ok (.aload_n 0, 1) := by decide +kernel
theorem dL_law_1166 : decode cL_law 1166 = .ok (.iload_n 3, 1) := by decide +kernel
theorem dL_law_1167 : decode cL_law 1167 = .ok (.iconst 2, 1) := by decide +kernel
theorem dL_law_1168 : decode cL_law 1168 = .ok (.iadd, 1) := by decide +kernel
theorem dL_law_1169 : decode cL_law 1169 = .ok (.iaload, 1) := by decide +kernel
theorem dL_law_1170 : decode cL_law 1170 = .ok (.invokevirtual 111, 3) := by decide +kernel
theorem dL_law_1173 : decode cL_law 1173 = .ok (.pop, 1) := by decide +kernel
theorem dL_law_1174 : decode cL_law 1174 = .ok (.aload_n 2, 1) := by decide +kernel
theorem dL_law_1175 : decode cL_law 1175 = .ok (.aload_n 0, 1) := by decide +kernel
theorem dL_law_1176 : decode cL_law 1176 = .ok (.iload_n 3, 1) := by decide +kernel
theorem dL_law_1177 : decode cL_law 1177 = .ok (.iconst 1, 1) := by decide +kernel
theorem dL_law_1178 : decode cL_law 1178 = .ok (.iadd, 1) := by decide +kernel
theorem dL_law_1179 : decode cL_law 1179 = .ok (.iaload, 1) := by decide +kernel
theorem dL_law_1180 : decode cL_law 1180 = .ok (.aload_n 0, 1) := by decide +kernel
theorem dL_law_1181 : decode cL_law 1181 = .ok (.iload_n 3, 1) := by decide +kernel
theorem dL_law_1182 : decode cL_law 1182 = .ok (.iconst 2, 1) := by decide +kernel
theorem dL_law_1183 : decode cL_law 1183 = .ok (.iadd, 1) := by decide +kernel
theorem dL_law_1184 : decode cL_law 1184 = .ok (.iaload, 1) := by decide +kernel
theorem dL_law_1185 : decode cL_law 1185 = .ok (.invokevirtual 114, 3) := by decide +kernel
theorem dL_law_1188 : decode cL_law 1188 = .ok (.pop, 1) := by decide +kernel
theorem dL_law_1189 : decode cL_law 1189 = .ok (.goto 597, 3) := by decide +kernel
set_option maxHeartbeats 4000000 in
set_option maxRecDepth 100000 in
/-- case 21: told -/
theorem law_21 {p : Program} {l : Launch} {e : Env} {s : State} {m : MethodId} {below : List Frame} {meth : Method} {c : Code} {G : xG} {sc L : Nat} {xs : Nat → Int32} {A : Nat → Prop} {S : yS} {q0 m0 : Nat} (C0 : CallFix p m c code 4 s #[Value.ref sc] wsT RL) (hr : meth.sig.returnType = ret) (hlocks : meth.locks = false) (hK : va_K G.1 xcl (xty G) s) (hN : xN s) (hX : va_X sc L xs s s.heap) (hbl : sc < s.heap.size) (hbA : ¬ A sc) (hA : ∀ q : Nat, s.heap.size ≤ q → A q) (hA2 : ∀ q, A q → s.heap.size ≤ q) (hL : L ≤ 3584) (hSh : ySh S) (hm_q0 : q0 ∈ S.1) (hk_q0 : S.2.1 q0 = 8) (hm_m0 : m0 ∈ S.1) (hk_m0 : S.2.1 m0 = 9) (hnk : S.2.2.1 q0 0 ≠ S.2.2.1 q0 1) {d : yD} {v : Int32} (hv0 : 0 ≤ v.toInt) (hv1 : v.toInt + 7 ≤ (L : Int)) (hPo : yPo S d) (hI : yMI S d m0) (hR : zR4 S d q0 m0) {H : Heap} {locs : List Loc} {ls : Array Slot} (hP : va_P G.1 xcl (yW G S d) H) (hD : va_D A (yW G S d)) (hS : va_S A s.heap H locs) (hl : lv_has ls 4 [(3, .int v), (2, .ref m0), (1, .ref q0), (0, .ref sc)]) (kk : ∀ (u : yD) (H1 : Heap) (locs1 : List Loc) (ls1 : Array Slot), va_P G.1 xcl (yW G S u) H1 → va_D A (yW G S u) → va_S A s.heap H1 locs1 → yPo S u → yMI S u m0 → zR4 S u q0 m0 → lv_has ls1 4 [(3, .int v), (2, .ref m0), (1, .ref q0), (0, .ref sc)] → W p l e room_1 s m #[Value.ref sc] below meth c H1 locs1 169 136076 (lw_Z below #[Value.ref sc] s) (F0 m 1786 ls1 [])) : W p l e room_1 s m #[Value.ref sc] below meth c H locs 169 136076 (lw_Z below #[Value.ref sc] s) (F0 m 1159 ls []) := by
  obtain ⟨hx, hb, hml, hown, htl⟩ := id C0
  refine lv_aload_n hx hb dL_law_1159 rfl (lv_at hl 2 rfl) ?_
  refine lv_aload_n hx hb dL_law_1160 rfl (lv_at hl 3 rfl) ?_
  refine lv_iload_n hx hb dL_law_1161 rfl (lv_at hl 0 rfl) ?_
  refine lv_iconst (v := 1) hx hb dL_law_1162 (by decide) ?_
  refine lv_iadd hx hb dL_law_1163 ?_
  refine lv_topi (fun z_1 ez_1 => ?_)
  have T_2 : (z_1 : Int32).toInt = (v : Int32).toInt + 1 := tadd ez_1 (rfl : (v : Int32).toInt = (v : Int32).toInt) (by decide +kernel : (1 : Int32).toInt = 1) (by omega) (by omega)
  refine va_sld hx hb hX hbl hbA hS (xinL (by omega) (by omega)) dL_law_1164 ?_
  refine lv_topi (fun z_3 ez_3 => ?_)
  refine lv_aload_n hx hb dL_law_1165 rfl (lv_at hl 3 rfl) ?_
  refine lv_iload_n hx hb dL_law_1166 rfl (lv_at hl 0 rfl) ?_
  refine lv_iconst (v := 2) hx hb dL_law_1167 (by decide) ?_
  refine lv_iadd hx hb dL_law_1168 ?_
  refine lv_topi (fun z_4 ez_4 => ?_)
  have T_5 : (z_4 : Int32).toInt = (v : Int32).toInt + 2 := tadd ez_4 (rfl : (v : Int32).toInt = (v : Int32).toInt) (by decide +kernel : (2 : Int32).toInt = 2) (by omega) (by omega)
  refine va_sld hx hb hX hbl hbA hS (xinL (by omega) (by omega)) dL_law_1169 ?_
  refine lv_topi (fun z_6 ez_6 => ?_)
  refine yVwi (As := [.int z_3, .int z_6]) (rest := []) C0 (g_X8_told l G S d q0 z_3 z_6 hSh hPo hm_q0 hk_q0) ok_X8_told (mW560 : Cond.methodLink RL 111 yX8_told ∈ wsT) ⟨Nat.le_of_ble_eq_true rfl, Nat.le_of_ble_eq_true rfl⟩ hP hD hS hA hK hN hm_q0 hk_q0 (by decide) rfl rfl rfl hl.1 rfl (Nat.le_of_ble_eq_true rfl) ⟨Nat.le_of_ble_eq_true rfl, Nat.le_of_ble_eq_true rfl⟩ dL_law_1170 (fun r_7 d_8 H locs hr_7 hP hD hS => ?_)
  obtain ⟨hgad_8, hpad_8, hxd_8⟩ := hr_7
  have hPod_8 : yPo S d_8 := hpad_8 hPo
  have hId_8 : yMI S d_8 m0 := yMI.ag hI hSh hm_m0 hk_m0 hgad_8 (yK.ag (F := []) yK.rf hgad_8 (by rw [hk_m0]; decide)) (by decide) (by decide)
  refine lv_pop hx hb dL_law_1173 rfl ?_
  refine lv_aload_n hx hb dL_law_1174 rfl (lv_at hl 1 rfl) ?_
  refine lv_aload_n hx hb dL_law_1175 rfl (lv_at hl 3 rfl) ?_
  refine lv_iload_n hx hb dL_law_1176 rfl (lv_at hl 0 rfl) ?_
  refine lv_iconst (v := 1) hx hb dL_law_1177 (by decide) ?_
  refine lv_iadd hx hb dL_law_1178 ?_
  rw [← ez_1]
  refine va_sld hx hb hX hbl hbA hS (xinL (by omega) (by omega)) dL_law_1179 ?_
  rw [← ez_3]
  refine lv_aload_n hx hb dL_law_1180 rfl (lv_at hl 3 rfl) ?_
  refine lv_iload_n hx hb dL_law_1181 rfl (lv_at hl 0 rfl) ?_
  refine lv_iconst (v := 2) hx hb dL_law_1182 (by decide) ?_
  refine lv_iadd hx hb dL_law_1183 ?_
  rw [← ez_4]
  refine va_sld hx hb hX hbl hbA hS (xinL (by omega) (by omega)) dL_law_1184 ?_
  rw [← ez_6]
  refine yVwi (As := [.int z_3, .int z_6]) (rest := []) C0 (g_X9_told l G S d_8 m0 z_3 z_6 hSh hPod_8 hm_m0 hk_m0 hId_8) ok_X9_told (mW623 : Cond.methodLink RL 114 yX9_told ∈ wsT) ⟨Nat.le_of_ble_eq_true rfl, Nat.le_of_ble_eq_true rfl⟩ hP hD hS hA hK hN hm_m0 hk_m0 (by decide) rfl rfl rfl hl.1 rfl (Nat.le_of_ble_eq_true rfl) ⟨Nat.le_of_ble_eq_true rfl, Nat.le_of_ble_eq_true rfl⟩ dL_law_1185 (fun r_9 d_10 H locs hr_9 hP hD hS => ?_)
  obtain ⟨hgad_10, hpad_10, hfad_10, hxd_10⟩ := hr_9
  have hPod_10 : yPo S d_10 := hpad_10 hPod_8
  have hId_10 : yMI S d_10 m0 := hxd_10
  refine lv_pop hx hb dL_law_1188 rfl ?_
  refine lv_goto (tgt := 1786) hx hb dL_law_1189 (by decide) ?_
  exact kk d_10 _ _ ls hP hD hS hPod_10 hId_10 (zR4.gen hR hSh hm_q0 hk_q0 hm_m0 hk_m0 hnk hgad_8 (by decide) (by decide) hxd_8 hgad_10 (by decide) (by decide) hfad_10 (by decide)) (lv_sub hl [0, 1, 2, 3] rfl)
theorem dL_law_1192 : decode cL_law 1192 = .ok (.aload_n 1, 1) := by decide +kernel
theorem dL_law_1193 : decode cL_law 1193 = .ok (.aload_n 0, 1) := by decide +kernel
theorem dL_law_1194 : decode cL_law 1194 = .ok (.iload_n 3, 1) := by decide +kernel
theorem dL_law_1195 : decode cL_law 1195 = .ok (.iconst 1, 1) := by decide +kernel
theorem dL_law_1196 : decode cL_law 1196 = .ok (.iadd, 1) := by decide +kernel
theorem dL_law_1197 : decode cL_law 1197 = .ok (.iaload, 1) := by decide +kernel
theorem dL_law_1198 : decode cL_law 1198 = .ok (.aload_n 0, 1) := by decide +kernel
theorem dL_law_1199 : decode cL_law 1199 = .ok (.iload_n 3, 1) := by decide +kernel
theorem dL_law_1200 : decode cL_law 1200 = .ok (.iconst 2, 1) := by decide +kernel
theorem dL_law_1201 : decode cL_law 1201 = .ok (.iadd, 1) := by decide +kernel
theorem dL_law_1202 : decode cL_law 1202 = .ok (.iaload, 1) := by decide +kernel
theorem dL_law_1203 : decode cL_law 1203 = .ok (.invokevirtual 115, 3) := by decide +kernel
theorem dL_law_1206 : decode cL_law 1206 = .ok (.pop2, 1) := by decide +kernel
theorem dL_law_1207 : decode cL_law 1207 = .ok (.aload_n 2, 1) := by decide +kernel
theorem dL_law_1208 : decode cL_law 1208 = .ok (.aload_n 0, 1) := by decide +kernel
theorem dL_law_1209 : decode cL_law 1209 = .ok (.iload_n 3, 1) := by decide +kernel
theorem dL_law_1210 : decode cL_law 1210 = .ok (.iconst 1, 1) := by decide +kernel
theorem dL_law_1211 : decode cL_law 1211 = .ok (.iadd, 1) := by decide +kernel
theorem dL_law_1212 : decode cL_law 1212 = .ok (.iaload, 1) := by decide +kernel
theorem dL_law_1213 : decode cL_law 1213 = .ok (.aload_n 0, 1) := by decide +kernel
theorem dL_law_1214 : decode cL_law 1214 = .ok (.iload_n 3, 1) := by decide +kernel
theorem dL_law_1215 : decode cL_law 1215 = .ok (.iconst 2, 1) := by decide +kernel
theorem dL_law_1216 : decode cL_law 1216 = .ok (.iadd, 1) := by decide +kernel
theorem dL_law_1217 : decode cL_law 1217 = .ok (.iaload, 1) := by decide +kernel
theorem dL_law_1218 : decode cL_law 1218 = .ok (.invokevirtual 119, 3) := by decide +kernel
theorem dL_law_1221 : decode cL_law 1221 = .ok (.pop2, 1) := by decide +kernel
theorem dL_law_1222 : decode cL_law 1222 = .ok (.goto 564, 3) := by decide +kernel
set_option maxHeartbeats 4000000 in
set_option maxRecDepth 100000 in
/-- case 22: weight -/
theorem law_22 {p : Program} {l : Launch} {e : Env} {s : State} {m : MethodId} {below : List Frame} {meth : Method} {c : Code} {G : xG} {sc L : Nat} {xs : Nat → Int32} {A : Nat → Prop} {S : yS} {q0 m0 : Nat} (C0 : CallFix p m c code 4 s #[Value.ref sc] wsT RL) (hr : meth.sig.returnType = ret) (hlocks : meth.locks = false) (hK : va_K G.1 xcl (xty G) s) (hN : xN s) (hX : va_X sc L xs s s.heap) (hbl : sc < s.heap.size) (hbA : ¬ A sc) (hA : ∀ q : Nat, s.heap.size ≤ q → A q) (hA2 : ∀ q, A q → s.heap.size ≤ q) (hL : L ≤ 3584) (hSh : ySh S) (hm_q0 : q0 ∈ S.1) (hk_q0 : S.2.1 q0 = 8) (hm_m0 : m0 ∈ S.1) (hk_m0 : S.2.1 m0 = 9) (hnk : S.2.2.1 q0 0 ≠ S.2.2.1 q0 1) {d : yD} {v : Int32} (hv0 : 0 ≤ v.toInt) (hv1 : v.toInt + 7 ≤ (L : Int)) (hPo : yPo S d) (hI : yMI S d m0) (hR : zR4 S d q0 m0) {H : Heap} {locs : List Loc} {ls : Array Slot} (hP : va_P G.1 xcl (yW G S d) H) (hD : va_D A (yW G S d)) (hS : va_S A s.heap H locs) (hl : lv_has ls 4 [(3, .int v), (2, .ref m0), (1, .ref q0), (0, .ref sc)]) (kk : ∀ (u : yD) (H1 : Heap) (locs1 : List Loc) (ls1 : Array Slot), va_P G.1 xcl (yW G S u) H1 → va_D A (yW G S u) → va_S A s.heap H1 locs1 → yPo S u → yMI S u m0 → zR4 S u q0 m0 → lv_has ls1 4 [(3, .int v), (2, .ref m0), (1, .ref q0), (0, .ref sc)] → W p l e room_1 s m #[Value.ref sc] below meth c H1 locs1 169 136076 (lw_Z below #[Value.ref sc] s) (F0 m 1786 ls1 [])) : W p l e room_1 s m #[Value.ref sc] below meth c H locs 169 136076 (lw_Z below #[Value.ref sc] s) (F0 m 1192 ls []) := by
  obtain ⟨hx, hb, hml, hown, htl⟩ := id C0
  refine lv_aload_n hx hb dL_law_1192 rfl (lv_at hl 2 rfl) ?_
  refine lv_aload_n hx hb dL_law_1193 rfl (lv_at hl 3 rfl) ?_
  refine lv_iload_n hx hb dL_law_1194 rfl (lv_at hl 0 rfl) ?_
  refine lv_iconst (v := 1) hx hb dL_law_1195 (by decide) ?_
  refine lv_iadd hx hb dL_law_1196 ?_
  refine lv_topi (fun z_1 ez_1 => ?_)
  have T_2 : (z_1 : Int32).toInt = (v : Int32).toInt + 1 := tadd ez_1 (rfl : (v : Int32).toInt = (v : Int32).toInt) (by decide +kernel : (1 : Int32).toInt = 1) (by omega) (by omega)
  refine va_sld hx hb hX hbl hbA hS (xinL (by omega) (by omega)) dL_law_1197 ?_
  refine lv_topi (fun z_3 ez_3 => ?_)
  refine lv_aload_n hx hb dL_law_1198 rfl (lv_at hl 3 rfl) ?_
  refine lv_iload_n hx hb dL_law_1199 rfl (lv_at hl 0 rfl) ?_
  refine lv_iconst (v := 2) hx hb dL_law_1200 (by decide) ?_
  refine lv_iadd hx hb dL_law_1201 ?_
  refine lv_topi (fun z_4 ez_4 => ?_)
  have T_5 : (z_4 : Int32).toInt = (v : Int32).toInt + 2 := tadd ez_4 (rfl : (v : Int32).toInt = (v : Int32).toInt) (by decide +kernel : (2 : Int32).toInt = 2) (by omega) (by omega)
  refine va_sld hx hb hX hbl hbA hS (xinL (by omega) (by omega)) dL_law_1202 ?_
  refine lv_topi (fun z_6 ez_6 => ?_)
  refine yVwl (As := [.int z_3, .int z_6]) (rest := []) C0 (g_X8_weight l G S d q0 z_3 z_6 hSh hPo hm_q0 hk_q0) ok_X8_weight (mW665 : Cond.methodLink RL 115 yX8_weight ∈ wsT) ⟨Nat.le_of_ble_eq_true rfl, Nat.le_of_ble_eq_true rfl⟩ hP hD hS hA hK hN hm_q0 hk_q0 (by decide) rfl rfl rfl hl.1 rfl (Nat.le_of_ble_eq_true rfl) ⟨Nat.le_of_ble_eq_true rfl, Nat.le_of_ble_eq_true rfl⟩ dL_law_1203 (fun r_7 d_8 H locs hr_7 hP hD hS => ?_)
  obtain ⟨hgad_8, hpad_8, hxd_8⟩ := hr_7
  have hPod_8 : yPo S d_8 := hpad_8 hPo
  have hId_8 : yMI S d_8 m0 := yMI.ag hI hSh hm_m0 hk_m0 hgad_8 (yK.ag (F := []) yK.rf hgad_8 (by rw [hk_m0]; decide)) (by decide) (by decide)
  refine lv_pop2_2 hx hb dL_law_1206 rfl ?_
  refine lv_aload_n hx hb dL_law_1207 rfl (lv_at hl 1 rfl) ?_
  refine lv_aload_n hx hb dL_law_1208 rfl (lv_at hl 3 rfl) ?_
  refine lv_iload_n hx hb dL_law_1209 rfl (lv_at hl 0 rfl) ?_
  refine lv_iconst (v := 1) hx hb dL_law_1210 (by decide) ?_
  refine lv_iadd hx hb dL_law_1211 ?_
  rw [← ez_1]
  refine va_sld hx hb hX hbl hbA hS (xinL (by omega) (by omega)) dL_law_1212 ?_
  rw [← ez_3]
  refine lv_aload_n hx hb dL_law_1213 rfl (lv_at hl 3 rfl) ?_
  refine lv_iload_n hx hb dL_law_1214 rfl (lv_at hl 0 rfl) ?_
  refine lv_iconst (v := 2) hx hb dL_law_1215 (by decide) ?_
  refine lv_iadd hx hb dL_law_1216 ?_
  rw [← ez_4]
  refine va_sld hx hb hX hbl hbA hS (xinL (by omega) (by omega)) dL_law_1217 ?_
  rw [← ez_6]
  refine yVwl (As := [.int z_3, .int z_6]) (rest := []) C0 (g_X9_weight l G S d_8 m0 z_3 z_6 hSh hPod_8 hm_m0 hk_m0 hId_8) ok_X9_weight (mW671 : Cond.methodLink RL 119 yX9_weight ∈ wsT) ⟨Nat.le_of_ble_eq_true rfl, Nat.le_of_ble_eq_true rfl⟩ hP hD hS hA hK hN hm_m0 hk_m0 (by decide) rfl rfl rfl hl.1 rfl (Nat.le_of_ble_eq_true rfl) ⟨Nat.le_of_ble_eq_true rfl, Nat.le_of_ble_eq_true rfl⟩ dL_law_1218 (fun r_9 d_10 H locs hr_9 hP hD hS => ?_)
  obtain ⟨hgad_10, hpad_10, hfad_10, hxd_10⟩ := hr_9
  have hPod_10 : yPo S d_10 := hpad_10 hPod_8
  have hId_10 : yMI S d_10 m0 := hxd_10.1
  refine lv_pop2_2 hx hb dL_law_1221 rfl ?_
  refine lv_goto (tgt := 1786) hx hb dL_law_1222 (by decide) ?_
  exact kk d_10 _ _ ls hP hD hS hPod_10 hId_10 (zR4.weight hR hId_8 hPo hSh hm_q0 hk_q0 hm_m0 hk_m0 hnk hgad_8 hgad_10 hfad_10 hxd_8 hxd_10).2 (lv_sub hl [0, 1, 2, 3] rfl)
theorem dL_law_1225 : decode cL_law 1225 = .ok (.aload_n 1, 1) := by decide +kernel
theorem dL_law_1226 : decode cL_law 1226 = .ok (.aload_n 0, 1) := by decide +kernel
theorem dL_law_1227 : decode cL_law 1227 = .ok (.iload_n 3, 1) := by decide +kernel
theorem dL_law_1228 : decode cL_law 1228 = .ok (.iconst 1, 1) := by decide +kernel
theorem dL_law_1229 : decode cL_law 1229 = .ok (.iadd, 1) := by decide +kernel
theorem dL_law_1230 : decode cL_law 1230 = .ok (.iaload, 1) := by decide +kernel
theorem dL_law_1231 : decode cL_law 1231 = .ok (.aload_n 0, 1) := by decide +kernel
theorem dL_law_1232 : decode cL_law 1232 = .ok (.iload_n 3, 1) := by decide +kernel
theorem dL_law_1233 : decode cL_law 1233 = .ok (.iconst 2, 1) := by decide +kernel
theorem dL_law_1234 : decode cL_law 1234 = .ok (.iadd, 1) := by decide +kernel
theorem dL_law_1235 : decode cL_law 1235 = .ok (.iaload, 1) := by decide +kernel
theorem dL_law_1236 : decode cL_law 1236 = .ok (.invokevirtual 120, 3) := by decide +kernel
theorem dL_law_1239 : decode cL_law 1239 = .ok (.pop, 1) := by decide +kernel
theorem dL_law_1240 : decode cL_law 1240 = .ok (.aload_n 2, 1) := by decide +kernel
theorem dL_law_1241 : decode cL_law 1241 = .ok (.aload_n 0, 1) := by decide +kernel
theorem dL_law_1242 : decode cL_law 1242 = .ok (.iload_n 3, 1) := by decide +kernel
theorem dL_law_1243 : decode cL_law 1243 = .ok (.iconst 1, 1) := by decide +kernel
theorem dL_law_1244 : decode cL_law 1244 = .ok (.iadd, 1) := by decide +kernel
theorem dL_law_1245 : decode cL_law 1245 = .ok (.iaload, 1) := by decide +kernel
theorem dL_law_1246 : decode cL_law 1246 = .ok (.aload_n 0, 1) := by decide +kernel
theorem dL_law_1247 : decode cL_law 1247 = .ok (.iload_n 3, 1) := by decide +kernel
theorem dL_law_1248 : decode cL_law 1248 = .ok (.iconst 2, 1) := by decide +kernel
theorem dL_law_1249 : decode cL_law 1249 = .ok (.iadd, 1) := by decide +kernel
theorem dL_law_1250 : decode cL_law 1250 = .ok (.iaload, 1) := by decide +kernel
theorem dL_law_1251 : decode cL_law 1251 = .ok (.invokevirtual 123, 3) := by decide +kernel
theorem dL_law_1254 : decode cL_law 1254 = .ok (.pop, 1) := by decide +kernel
theorem dL_law_1255 : decode cL_law 1255 = .ok (.goto 531, 3) := by decide +kernel
set_option maxHeartbeats 4000000 in
set_option maxRecDepth 100000 in
/-- case 23: state -/
theorem law_23 {p : Program} {l : Launch} {e : Env} {s : State} {m : MethodId} {below : List Frame} {meth : Method} {c : Code} {G : xG} {sc L : Nat} {xs : Nat → Int32} {A : Nat → Prop} {S : yS} {q0 m0 : Nat} (C0 : CallFix p m c code 4 s #[Value.ref sc] wsT RL) (hr : meth.sig.returnType = ret) (hlocks : meth.locks = false) (hK : va_K G.1 xcl (xty G) s) (hN : xN s) (hX : va_X sc L xs s s.heap) (hbl : sc < s.heap.size) (hbA : ¬ A sc) (hA : ∀ q : Nat, s.heap.size ≤ q → A q) (hA2 : ∀ q, A q → s.heap.size ≤ q) (hL : L ≤ 3584) (hSh : ySh S) (hm_q0 : q0 ∈ S.1) (hk_q0 : S.2.1 q0 = 8) (hm_m0 : m0 ∈ S.1) (hk_m0 : S.2.1 m0 = 9) (hnk : S.2.2.1 q0 0 ≠ S.2.2.1 q0 1) {d : yD} {v : Int32} (hv0 : 0 ≤ v.toInt) (hv1 : v.toInt + 7 ≤ (L : Int)) (hPo : yPo S d) (hI : yMI S d m0) (hR : zR4 S d q0 m0) {H : Heap} {locs : List Loc} {ls : Array Slot} (hP : va_P G.1 xcl (yW G S d) H) (hD : va_D A (yW G S d)) (hS : va_S A s.heap H locs) (hl : lv_has ls 4 [(3, .int v), (2, .ref m0), (1, .ref q0), (0, .ref sc)]) (kk : ∀ (u : yD) (H1 : Heap) (locs1 : List Loc) (ls1 : Array Slot), va_P G.1 xcl (yW G S u) H1 → va_D A (yW G S u) → va_S A s.heap H1 locs1 → yPo S u → yMI S u m0 → zR4 S u q0 m0 → lv_has ls1 4 [(3, .int v), (2, .ref m0), (1, .ref q0), (0, .ref sc)] → W p l e room_1 s m #[Value.ref sc] below meth c H1 locs1 169 136076 (lw_Z below #[Value.ref sc] s) (F0 m 1786 ls1 [])) : W p l e room_1 s m #[Value.ref sc] below meth c H locs 169 136076 (lw_Z below #[Value.ref sc] s) (F0 m 1225 ls []) := by
  obtain ⟨hx, hb, hml, hown, htl⟩ := id C0
  refine lv_aload_n hx hb dL_law_1225 rfl (lv_at hl 2 rfl) ?_
  refine lv_aload_n hx hb dL_law_1226 rfl (lv_at hl 3 rfl) ?_
  refine lv_iload_n hx hb dL_law_1227 rfl (lv_at hl 0 rfl) ?_
  refine lv_iconst (v := 1) hx hb dL_law_1228 (by decide) ?_
  refine lv_iadd hx hb dL_law_1229 ?_
  refine lv_topi (fun z_1 ez_1 => ?_)
  have T_2 : (z_1 : Int32).toInt = (v : Int32).toInt + 1 := tadd ez_1 (rfl : (v : Int32).toInt = (v : Int32).toInt) (by decide +kernel : (1 : Int32).toInt = 1) (by omega) (by omega)
  refine va_sld hx hb hX hbl hbA hS (xinL (by omega) (by omega)) dL_law_1230 ?_
  refine lv_topi (fun z_3 ez_3 => ?_)
  refine lv_aload_n hx hb dL_law_1231 rfl (lv_at hl 3 rfl) ?_
  refine lv_iload_n hx hb dL_law_1232 rfl (lv_at hl 0 rfl) ?_
  refine lv_iconst (v := 2) hx hb dL_law_1233 (by decide) ?_
  refine lv_iadd hx hb dL_law_1234 ?_
  refine lv_topi (fun z_4 ez_4 => ?_)
  have T_5 : (z_4 : Int32).toInt = (v : Int32).toInt + 2 := tadd ez_4 (rfl : (v : Int32).toInt = (v : Int32).toInt) (by decide +kernel : (2 : Int32).toInt = 2) (by omega) (by omega)
  refine va_sld hx hb hX hbl hbA hS (xinL (by omega) (by omega)) dL_law_1235 ?_
  refine lv_topi (fun z_6 ez_6 => ?_)
  refine yVwi (As := [.int z_3, .int z_6]) (rest := []) C0 (g_X8_state l G S d q0 z_3 z_6 hSh hPo hm_q0 hk_q0) ok_X8_state (mW676 : Cond.methodLink RL 120 yX8_state ∈ wsT) ⟨Nat.le_of_ble_eq_true rfl, Nat.le_of_ble_eq_true rfl⟩ hP hD hS hA hK hN hm_q0 hk_q0 (by decide) rfl rfl rfl hl.1 rfl (Nat.le_of_ble_eq_true rfl) ⟨Nat.le_of_ble_eq_true rfl, Nat.le_of_ble_eq_true rfl⟩ dL_law_1236 (fun r_7 d_8 H locs hr_7 hP hD hS => ?_)
  obtain ⟨hgad_8, hpad_8, hxd_8⟩ := hr_7
  have hPod_8 : yPo S d_8 := hpad_8 hPo
  have hId_8 : yMI S d_8 m0 := yMI.ag hI hSh hm_m0 hk_m0 hgad_8 (yK.ag (F := []) yK.rf hgad_8 (by rw [hk_m0]; decide)) (by decide) (by decide)
  refine lv_pop hx hb dL_law_1239 rfl ?_
  refine lv_aload_n hx hb dL_law_1240 rfl (lv_at hl 1 rfl) ?_
  refine lv_aload_n hx hb dL_law_1241 rfl (lv_at hl 3 rfl) ?_
  refine lv_iload_n hx hb dL_law_1242 rfl (lv_at hl 0 rfl) ?_
  refine lv_iconst (v := 1) hx hb dL_law_1243 (by decide) ?_
  refine lv_iadd hx hb dL_law_1244 ?_
  rw [← ez_1]
  refine va_sld hx hb hX hbl hbA hS (xinL (by omega) (by omega)) dL_law_1245 ?_
  rw [← ez_3]
  refine lv_aload_n hx hb dL_law_1246 rfl (lv_at hl 3 rfl) ?_
  refine lv_iload_n hx hb dL_law_1247 rfl (lv_at hl 0 rfl) ?_
  refine lv_iconst (v := 2) hx hb dL_law_1248 (by decide) ?_
  refine lv_iadd hx hb dL_law_1249 ?_
  rw [← ez_4]
  refine va_sld hx hb hX hbl hbA hS (xinL (by omega) (by omega)) dL_law_1250 ?_
  rw [← ez_6]
  refine yVwi (As := [.int z_3, .int z_6]) (rest := []) C0 (g_X9_state l G S d_8 m0 z_3 z_6 hSh hPod_8 hm_m0 hk_m0 hId_8) ok_X9_state (mW684 : Cond.methodLink RL 123 yX9_state ∈ wsT) ⟨Nat.le_of_ble_eq_true rfl, Nat.le_of_ble_eq_true rfl⟩ hP hD hS hA hK hN hm_m0 hk_m0 (by decide) rfl rfl rfl hl.1 rfl (Nat.le_of_ble_eq_true rfl) ⟨Nat.le_of_ble_eq_true rfl, Nat.le_of_ble_eq_true rfl⟩ dL_law_1251 (fun r_9 d_10 H locs hr_9 hP hD hS => ?_)
  obtain ⟨hgad_10, hpad_10, hfad_10, hxd_10⟩ := hr_9
  have hPod_10 : yPo S d_10 := hpad_10 hPod_8
  have hId_10 : yMI S d_10 m0 := hxd_10
  refine lv_pop hx hb dL_law_1254 rfl ?_
  refine lv_goto (tgt := 1786) hx hb dL_law_1255 (by decide) ?_
  exact kk d_10 _ _ ls hP hD hS hPod_10 hId_10 (zR4.gen hR hSh hm_q0 hk_q0 hm_m0 hk_m0 hnk hgad_8 (by decide) (by decide) hxd_8 hgad_10 (by decide) (by decide) hfad_10 (by decide)) (lv_sub hl [0, 1, 2, 3] rfl)
