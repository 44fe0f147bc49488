theorem dX6_write_0 : decode cX6_write 0 = .ok (.aload_n 0, 1) := by decide +kernel
theorem dX6_write_1 : decode cX6_write 1 = .ok (.getfield 11, 3) := by decide +kernel
theorem dX6_write_4 : decode cX6_write 4 = .ok (.iload_n 1, 1) := by decide +kernel
theorem dX6_write_5 : decode cX6_write 5 = .ok (.iload_n 2, 1) := by decide +kernel
theorem dX6_write_6 : decode cX6_write 6 = .ok (.invokestatic 36, 3) := by decide +kernel
theorem dX6_write_9 : decode cX6_write 9 = .ok (.aload_n 0, 1) := by decide +kernel
theorem dX6_write_10 : decode cX6_write 10 = .ok (.getfield 15, 3) := by decide +kernel
theorem dX6_write_13 : decode cX6_write 13 = .ok (.iload_n 1, 1) := by decide +kernel
theorem dX6_write_14 : decode cX6_write 14 = .ok (.iload_n 3, 1) := by decide +kernel
theorem dX6_write_15 : decode cX6_write 15 = .ok (.invokestatic 36, 3) := by decide +kernel
theorem dX6_write_18 : decode cX6_write 18 = .ok (.aload_n 0, 1) := by decide +kernel
theorem dX6_write_19 : decode cX6_write 19 = .ok (.getfield 18, 3) := by decide +kernel
theorem dX6_write_22 : decode cX6_write 22 = .ok (.iload_n 1, 1) := by decide +kernel
theorem dX6_write_23 : decode cX6_write 23 = .ok (.iload 4, 2) := by decide +kernel
theorem dX6_write_25 : decode cX6_write 25 = .ok (.invokestatic 36, 3) := by decide +kernel
theorem dX6_write_28 : decode cX6_write 28 = .ok (.aload_n 0, 1) := by decide +kernel
theorem dX6_write_29 : decode cX6_write 29 = .ok (.getfield 21, 3) := by decide +kernel
theorem dX6_write_32 : decode cX6_write 32 = .ok (.iload_n 1, 1) := by decide +kernel
theorem dX6_write_33 : decode cX6_write 33 = .ok (.iload 5, 2) := by decide +kernel
theorem dX6_write_35 : decode cX6_write 35 = .ok (.invokestatic 36, 3) := by decide +kernel
theorem dX6_write_38 : decode cX6_write 38 = .ok (.aload_n 0, 1) := by decide +kernel
theorem dX6_write_39 : decode cX6_write 39 = .ok (.getfield 24, 3) := by decide +kernel
theorem dX6_write_42 : decode cX6_write 42 = .ok (.iload_n 1, 1) := by decide +kernel
theorem dX6_write_43 : decode cX6_write 43 = .ok (.iconst 0, 1) := by decide +kernel
theorem dX6_write_44 : decode cX6_write 44 = .ok (.invokestatic 36, 3) := by decide +kernel
theorem dX6_write_47 : decode cX6_write 47 = .ok (.aload_n 0, 1) := by decide +kernel
theorem dX6_write_48 : decode cX6_write 48 = .ok (.getfield 27, 3) := by decide +kernel
theorem dX6_write_51 : decode cX6_write 51 = .ok (.iload_n 1, 1) := by decide +kernel
theorem dX6_write_52 : decode cX6_write 52 = .ok (.iconst 0, 1) := by decide +kernel
theorem dX6_write_53 : decode cX6_write 53 = .ok (.invokestatic 36, 3) := by decide +kernel
theorem dX6_write_56 : decode cX6_write 56 = .ok (.return_, 1) := by decide +kernel
set_option maxHeartbeats 4000000 in
set_option maxRecDepth 100000 in
theorem g_X6_write (l : Launch) (G : xG) (S : yS) (d : yD) (h0 : Nat) (p0 : Int32) (p1 : Int32) (p2 : Int32) (p3 : Int32) (p4 : Int32) (hSh : ySh S) (hPo : yPo S d) (hm_h0 : h0 ∈ S.1) (hk_h0 : S.2.1 h0 = 6) : xWv l G yX6_write cX6_write 6 none 1 22 0 0 [.ref h0, .int p0, .int p1, .int p2, .int p3, .int p4] (yW G S d) (fun u : yD => yAg S [10, 11, 12, 13, 14, 15] d u ∧ (yPo S d → yPo S u) ∧ (zTm S d u h0 (fun i => xput 2402 (d.2.2.2.1 (S.2.2.1 h0 i)) p0 (([p1, p2, p3, p4, 0, 0] : List Int32).getD i 0)))) (fun u => yW G S u) := by
  intro sz
  refine xstart (by decide) (Nat.le_of_ble_eq_true rfl) (fun p e s m args below meth c ls C0 hr hlocks hin hsz hP hK hD hN hl => ?_)
  obtain ⟨hx, hb, hml, hown, htl⟩ := id C0
  subst hsz
  have hD := hD.self (sz := s.heap.size)
  generalize hAe : va_A (yW G S d) s.heap.size = A at hD ⊢
  have hA : ∀ q : Nat, s.heap.size ≤ q → A q := fun q h => by rw [← hAe]; exact Or.inr h
  have hS : va_S A s.heap s.heap [] := va_S.rf
  have hg0 : yAg S [10, 11, 12, 13, 14, 15] d d := yAg.rf
  have hl : lv_has ls 6 [(0, .ref h0), (1, .int p0), (2, .int p1), (3, .int p2), (4, .int p3), (5, .int p4)] := hl
  refine lv_aload_n hx hb dX6_write_0 rfl (lv_at hl 0 rfl) ?_
  refine yget (ci := 6) (k := 0) (v := .ref (S.2.2.1 h0 0)) (C := RX6) (T := TX6) (N := 7) C0 hK hP hm_h0 hk_h0 (by decide) rfl inlX6 (by decide) mW49 (fun _ h9 => h9) rfl dX6_write_1 ?_
  obtain ⟨hmy_1, hky_1⟩ := ySh.f6_0 hSh _ hm_h0 hk_h0
  refine lv_iload_n hx hb dX6_write_4 rfl (lv_at hl 1 rfl) ?_
  refine lv_iload_n hx hb dX6_write_5 rfl (lv_at hl 2 rfl) ?_
  refine ySNwv (As := [.ref (S.2.2.1 h0 0), .int p0, .int p1]) (rest := []) C0 (g_X8_put l G S d (S.2.2.1 h0 0) 10 p0 p1 hPo hmy_1 hky_1 (by decide) rfl rfl (by decide)) ok_X8_put (xN.n4 hN) ⟨Nat.le_of_ble_eq_true rfl, Nat.le_of_ble_eq_true rfl⟩ hP hD hS hA hK hN rfl hl.1 rfl (Nat.le_of_ble_eq_true rfl) ⟨Nat.le_of_ble_eq_true rfl, Nat.le_of_ble_eq_true rfl⟩ dX6_write_6 (fun d_3 H locs hr_2 hP hD hS => ?_)
  obtain ⟨hgad_3, hpad_3, hxd_3⟩ := hr_2
  have hgd_3 : yAg S [10, 11, 12, 13, 14, 15] d d_3 := yAg.tr hg0 hgad_3 (by first | decide | exact fun _ h => h)
  have hPod_3 : yPo S d_3 := hpad_3 hPo
  refine lv_aload_n hx hb dX6_write_9 rfl (lv_at hl 0 rfl) ?_
  refine yget (ci := 6) (k := 1) (v := .ref (S.2.2.1 h0 1)) (C := RX6) (T := TX6) (N := 7) C0 hK hP hm_h0 hk_h0 (by decide) rfl inlX6 (by decide) mW50 (fun _ h9 => h9) rfl dX6_write_10 ?_
  obtain ⟨hmy_4, hky_4⟩ := ySh.f6_1 hSh _ hm_h0 hk_h0
  refine lv_iload_n hx hb dX6_write_13 rfl (lv_at hl 1 rfl) ?_
  refine lv_iload_n hx hb dX6_write_14 rfl (lv_at hl 3 rfl) ?_
  refine ySNwv (As := [.ref (S.2.2.1 h0 1), .int p0, .int p2]) (rest := []) C0 (g_X8_put l G S d_3 (S.2.2.1 h0 1) 11 p0 p2 hPod_3 hmy_4 hky_4 (by decide) rfl rfl (by decide)) ok_X8_put (xN.n4 hN) ⟨Nat.le_of_ble_eq_true rfl, Nat.le_of_ble_eq_true rfl⟩ hP hD hS hA hK hN rfl hl.1 rfl (Nat.le_of_ble_eq_true rfl) ⟨Nat.le_of_ble_eq_true rfl, Nat.le_of_ble_eq_true rfl⟩ dX6_write_15 (fun d_6 H locs hr_5 hP hD hS => ?_)
  obtain ⟨hgad_6, hpad_6, hxd_6⟩ := hr_5
  have hgd_6 : yAg S [10, 11, 12, 13, 14, 15] d d_6 := yAg.tr hgd_3 hgad_6 (by first | decide | exact fun _ h => h)
  have hPod_6 : yPo S d_6 := hpad_6 hPod_3
  refine lv_aload_n hx hb dX6_write_18 rfl (lv_at hl 0 rfl) ?_
  refine yget (ci := 6) (k := 2) (v := .ref (S.2.2.1 h0 2)) (C := RX6) (T := TX6) (N := 7) C0 hK hP hm_h0 hk_h0 (by decide) rfl inlX6 (by decide) mW51 (fun _ h9 => h9) rfl dX6_write_19 ?_
  obtain ⟨hmy_7, hky_7⟩ := ySh.f6_2 hSh _ hm_h0 hk_h0
  refine lv_iload_n hx hb dX6_write_22 rfl (lv_at hl 1 rfl) ?_
  refine lv_iload hx hb dX6_write_23 (lv_at hl 4 rfl) ?_
  refine ySNwv (As := [.ref (S.2.2.1 h0 2), .int p0, .int p3]) (rest := []) C0 (g_X8_put l G S d_6 (S.2.2.1 h0 2) 12 p0 p3 hPod_6 hmy_7 hky_7 (by decide) rfl rfl (by decide)) ok_X8_put (xN.n4 hN) ⟨Nat.le_of_ble_eq_true rfl, Nat.le_of_ble_eq_true rfl⟩ hP hD hS hA hK hN rfl hl.1 rfl (Nat.le_of_ble_eq_true rfl) ⟨Nat.le_of_ble_eq_true rfl, Nat.le_of_ble_eq_true rfl⟩ dX6_write_25 (fun d_9 H locs hr_8 hP hD hS => ?_)
  obtain ⟨hgad_9, hpad_9, hxd_9⟩ := hr_8
  have hgd_9 : yAg S [10, 11, 12, 13, 14, 15] d d_9 := yAg.tr hgd_6 hgad_9 (by first | decide | exact fun _ h => h)
  have hPod_9 : yPo S d_9 := hpad_9 hPod_6
  refine lv_aload_n hx hb dX6_write_28 rfl (lv_at hl 0 rfl) ?_
  refine yget (ci := 6) (k := 3) (v := .ref (S.2.2.1 h0 3)) (C := RX6) (T := TX6) (N := 7) C0 hK hP hm_h0 hk_h0 (by decide) rfl inlX6 (by decide) mW52 (fun _ h9 => h9) rfl dX6_write_29 ?_
  obtain ⟨hmy_10, hky_10⟩ := ySh.f6_3 hSh _ hm_h0 hk_h0
  refine lv_iload_n hx hb dX6_write_32 rfl (lv_at hl 1 rfl) ?_
  refine lv_iload hx hb dX6_write_33 (lv_at hl 5 rfl) ?_
  refine ySNwv (As := [.ref (S.2.2.1 h0 3), .int p0, .int p4]) (rest := []) C0 (g_X8_put l G S d_9 (S.2.2.1 h0 3) 13 p0 p4 hPod_9 hmy_10 hky_10 (by decide) rfl rfl (by decide)) ok_X8_put (xN.n4 hN) ⟨Nat.le_of_ble_eq_true rfl, Nat.le_of_ble_eq_true rfl⟩ hP hD hS hA hK hN rfl hl.1 rfl (Nat.le_of_ble_eq_true rfl) ⟨Nat.le_of_ble_eq_true rfl, Nat.le_of_ble_eq_true rfl⟩ dX6_write_35 (fun d_12 H locs hr_11 hP hD hS => ?_)
  obtain ⟨hgad_12, hpad_12, hxd_12⟩ := hr_11
  have hgd_12 : yAg S [10, 11, 12, 13, 14, 15] d d_12 := yAg.tr hgd_9 hgad_12 (by first | decide | exact fun _ h => h)
  have hPod_12 : yPo S d_12 := hpad_12 hPod_9
  refine lv_aload_n hx hb dX6_write_38 rfl (lv_at hl 0 rfl) ?_
  refine yget (ci := 6) (k := 4) (v := .ref (S.2.2.1 h0 4)) (C := RX6) (T := TX6) (N := 7) C0 hK hP hm_h0 hk_h0 (by decide) rfl inlX6 (by decide) mW53 (fun _ h9 => h9) rfl dX6_write_39 ?_
  obtain ⟨hmy_13, hky_13⟩ := ySh.f6_4 hSh _ hm_h0 hk_h0
  refine lv_iload_n hx hb dX6_write_42 rfl (lv_at hl 1 rfl) ?_
  refine lv_iconst (v := 0) hx hb dX6_write_43 (by decide) ?_
  refine ySNwv (As := [.ref (S.2.2.1 h0 4), .int p0, .int 0]) (rest := []) C0 (g_X8_put l G S d_12 (S.2.2.1 h0 4) 14 p0 0 hPod_12 hmy_13 hky_13 (by decide) rfl rfl (by decide)) ok_X8_put (xN.n4 hN) ⟨Nat.le_of_ble_eq_true rfl, Nat.le_of_ble_eq_true rfl⟩ hP hD hS hA hK hN rfl hl.1 rfl (Nat.le_of_ble_eq_true rfl) ⟨Nat.le_of_ble_eq_true rfl, Nat.le_of_ble_eq_true rfl⟩ dX6_write_44 (fun d_15 H locs hr_14 hP hD hS => ?_)
  obtain ⟨hgad_15, hpad_15, hxd_15⟩ := hr_14
  have hgd_15 : yAg S [10, 11, 12, 13, 14, 15] d d_15 := yAg.tr hgd_12 hgad_15 (by first | decide | exact fun _ h => h)
  have hPod_15 : yPo S d_15 := hpad_15 hPod_12
  refine lv_aload_n hx hb dX6_write_47 rfl (lv_at hl 0 rfl) ?_
  refine yget (ci := 6) (k := 5) (v := .ref (S.2.2.1 h0 5)) (C := RX6) (T := TX6) (N := 7) C0 hK hP hm_h0 hk_h0 (by decide) rfl inlX6 (by decide) mW54 (fun _ h9 => h9) rfl dX6_write_48 ?_
  obtain ⟨hmy_16, hky_16⟩ := ySh.f6_5 hSh _ hm_h0 hk_h0
  refine lv_iload_n hx hb dX6_write_51 rfl (lv_at hl 1 rfl) ?_
  refine lv_iconst (v := 0) hx hb dX6_write_52 (by decide) ?_
  refine ySNwv (As := [.ref (S.2.2.1 h0 5), .int p0, .int 0]) (rest := []) C0 (g_X8_put l G S d_15 (S.2.2.1 h0 5) 15 p0 0 hPod_15 hmy_16 hky_16 (by decide) rfl rfl (by decide)) ok_X8_put (xN.n4 hN) ⟨Nat.le_of_ble_eq_true rfl, Nat.le_of_ble_eq_true rfl⟩ hP hD hS hA hK hN rfl hl.1 rfl (Nat.le_of_ble_eq_true rfl) ⟨Nat.le_of_ble_eq_true rfl, Nat.le_of_ble_eq_true rfl⟩ dX6_write_53 (fun d_18 H locs hr_17 hP hD hS => ?_)
  obtain ⟨hgad_18, hpad_18, hxd_18⟩ := hr_17
  have hgd_18 : yAg S [10, 11, 12, 13, 14, 15] d d_18 := yAg.tr hgd_15 hgad_18 (by first | decide | exact fun _ h => h)
  have hPod_18 : yPo S d_18 := hpad_18 hPod_15
  exact W.vret hx hb hr (fun t ht hW => ⟨⟨d_18, rfl, ⟨hgd_18, (fun _ => hPod_18), (zPut6 hSh hm_h0 hk_h0 hxd_3 hxd_6 hxd_9 hxd_12 hxd_15 hxd_18)⟩, by rw [ht]; exact hP, hD⟩, hS.F ht⟩) hS.2.2 dX6_write_56
theorem dX6_copyRow_0 : decode cX6_copyRow 0 = .ok (.aload_n 0, 1) := by decide +kernel
theorem dX6_copyRow_1 : decode cX6_copyRow 1 = .ok (.getfield 11, 3) := by decide +kernel
theorem dX6_copyRow_4 : decode cX6_copyRow 4 = .ok (.iload_n 2, 1) := by decide +kernel
theorem dX6_copyRow_5 : decode cX6_copyRow 5 = .ok (.aload_n 0, 1) := by decide +kernel
theorem dX6_copyRow_6 : decode cX6_copyRow 6 = .ok (.getfield 11, 3) := by decide +kernel
theorem dX6_copyRow_9 : decode cX6_copyRow 9 = .ok (.iload_n 1, 1) := by decide +kernel
theorem dX6_copyRow_10 : decode cX6_copyRow 10 = .ok (.invokestatic 40, 3) := by decide +kernel
theorem dX6_copyRow_13 : decode cX6_copyRow 13 = .ok (.invokestatic 36, 3) := by decide +kernel
theorem dX6_copyRow_16 : decode cX6_copyRow 16 = .ok (.aload_n 0, 1) := by decide +kernel
theorem dX6_copyRow_17 : decode cX6_copyRow 17 = .ok (.getfield 15, 3) := by decide +kernel
theorem dX6_copyRow_20 : decode cX6_copyRow 20 = .ok (.iload_n 2, 1) := by decide +kernel
theorem dX6_copyRow_21 : decode cX6_copyRow 21 = .ok (.aload_n 0, 1) := by decide +kernel
theorem dX6_copyRow_22 : decode cX6_copyRow 22 = .ok (.getfield 15, 3) := by decide +kernel
theorem dX6_copyRow_25 : decode cX6_copyRow 25 = .ok (.iload_n 1, 1) := by decide +kernel
theorem dX6_copyRow_26 : decode cX6_copyRow 26 = .ok (.invokestatic 40, 3) := by decide +kernel
theorem dX6_copyRow_29 : decode cX6_copyRow 29 = .ok (.invokestatic 36, 3) := by decide +kernel
theorem dX6_copyRow_32 : decode cX6_copyRow 32 = .ok (.aload_n 0, 1) := by decide +kernel
theorem dX6_copyRow_33 : decode cX6_copyRow 33 = .ok (.getfield 18, 3) := by decide +kernel
theorem dX6_copyRow_36 : decode cX6_copyRow 36 = .ok (.iload_n 2, 1) := by decide +kernel
theorem dX6_copyRow_37 : decode cX6_copyRow 37 = .ok (.aload_n 0, 1) := by decide +kernel
theorem dX6_copyRow_38 : decode cX6_copyRow 38 = .ok (.getfield 18, 3) := by decide +kernel
theorem dX6_copyRow_41 : decode cX6_copyRow 41 = .ok (.iload_n 1, 1) := by decide +kernel
theorem dX6_copyRow_42 : decode cX6_copyRow 42 = .ok (.invokestatic 40, 3) := by decide +kernel
theorem dX6_copyRow_45 : decode cX6_copyRow 45 = .ok (.invokestatic 36, 3) := by decide +kernel
theorem dX6_copyRow_48 : decode cX6_copyRow 48 = .ok (.aload_n 0, 1) := by decide +kernel
theorem dX6_copyRow_49 : decode cX6_copyRow 49 = .ok (.getfield 21, 3) := by decide +kernel
theorem dX6_copyRow_52 : decode cX6_copyRow 52 = .ok (.iload_n 2, 1) := by decide +kernel
theorem dX6_copyRow_53 : decode cX6_copyRow 53 = .ok (.aload_n 0, 1) := by decide +kernel
theorem dX6_copyRow_54 : decode cX6_copyRow 54 = .ok (.getfield 21, 3) := by decide +kernel
theorem dX6_copyRow_57 : decode cX6_copyRow 57 = .ok (.iload_n 1, 1) := by decide +kernel
theorem dX6_copyRow_58 : decode cX6_copyRow 58 = .ok (.invokestatic 40, 3) := by decide +kernel
theorem dX6_copyRow_61 : decode cX6_copyRow 61 = .ok (.invokestatic 36, 3) := by decide +kernel
theorem dX6_copyRow_64 : decode cX6_copyRow 64 = .ok (.aload_n 0, 1) := by decide +kernel
theorem dX6_copyRow_65 : decode cX6_copyRow 65 = .ok (.getfield 24, 3) := by decide +kernel
theorem dX6_copyRow_68 : decode cX6_copyRow 68 = .ok (.iload_n 2, 1) := by decide +kernel
theorem dX6_copyRow_69 : decode cX6_copyRow 69 = .ok (.aload_n 0, 1) := by decide +kernel
theorem dX6_copyRow_70 : decode cX6_copyRow 70 = .ok (.getfield 24, 3) := by decide +kernel
theorem dX6_copyRow_73 : decode cX6_copyRow 73 = .ok (.iload_n 1, 1) := by decide +kernel
theorem dX6_copyRow_74 : decode cX6_copyRow 74 = .ok (.invokestatic 40, 3) := by decide +kernel
theorem dX6_copyRow_77 : decode cX6_copyRow 77 = .ok (.invokestatic 36, 3) := by decide +kernel
theorem dX6_copyRow_80 : decode cX6_copyRow 80 = .ok (.aload_n 0, 1) := by decide +kernel
theorem dX6_copyRow_81 : decode cX6_copyRow 81 = .ok (.getfield 27, 3) := by decide +kernel
theorem dX6_copyRow_84 : decode cX6_copyRow 84 = .ok (.iload_n 2, 1) := by decide +kernel
theorem dX6_copyRow_85 : decode cX6_copyRow 85 = .ok (.aload_n 0, 1) := by decide +kernel
theorem dX6_copyRow_86 : decode cX6_copyRow 86 = .ok (.getfield 27, 3) := by decide +kernel
theorem dX6_copyRow_89 : decode cX6_copyRow 89 = .ok (.iload_n 1, 1) := by decide +kernel
theorem dX6_copyRow_90 : decode cX6_copyRow 90 = .ok (.invokestatic 40, 3) := by decide +kernel
theorem dX6_copyRow_93 : decode cX6_copyRow 93 = .ok (.invokestatic 36, 3) := by decide +kernel
theorem dX6_copyRow_96 : decode cX6_copyRow 96 = .ok (.return_, 1) := by decide +kernel
set_option maxHeartbeats 4000000 in
set_option maxRecDepth 100000 in
theorem g_X6_copyRow (l : Launch) (G : xG) (S : yS) (d : yD) (h0 : Nat) (p0 : Int32) (p1 : Int32) (hSh : ySh S) (hPo : yPo S d) (hm_h0 : h0 ∈ S.1) (hk_h0 : S.2.1 h0 = 6) : xWv l G yX6_copyRow cX6_copyRow 3 none 1 22 0 0 [.ref h0, .int p0, .int p1] (yW G S d) (fun u : yD => yAg S [10, 11, 12, 13, 14, 15] d u ∧ (yPo S d → yPo S u) ∧ (zTm S d u h0 (fun i => xput 2402 (d.2.2.2.1 (S.2.2.1 h0 i)) p1 (xat 2402 (d.2.2.2.1 (S.2.2.1 h0 i)) p0)))) (fun u => yW G S u) := by
  intro sz
  refine xstart (by decide) (Nat.le_of_ble_eq_true rfl) (fun p e s m args below meth c ls C0 hr hlocks hin hsz hP hK hD hN hl => ?_)
  obtain ⟨hx, hb, hml, hown, htl⟩ := id C0
  subst hsz
  have hD := hD.self (sz := s.heap.size)
  generalize hAe : va_A (yW G S d) s.heap.size = A at hD ⊢
  have hA : ∀ q : Nat, s.heap.size ≤ q → A q := fun q h => by rw [← hAe]; exact Or.inr h
  have hS : va_S A s.heap s.heap [] := va_S.rf
  have hg0 : yAg S [10, 11, 12, 13, 14, 15] d d := yAg.rf
  have hl : lv_has ls 3 [(0, .ref h0), (1, .int p0), (2, .int p1)] := hl
  refine lv_aload_n hx hb dX6_copyRow_0 rfl (lv_at hl 0 rfl) ?_
  refine yget (ci := 6) (k := 0) (v := .ref (S.2.2.1 h0 0)) (C := RX6) (T := TX6) (N := 7) C0 hK hP hm_h0 hk_h0 (by decide) rfl inlX6 (by decide) mW49 (fun _ h9 => h9) rfl dX6_copyRow_1 ?_
  obtain ⟨hmy_1, hky_1⟩ := ySh.f6_0 hSh _ hm_h0 hk_h0
  refine lv_iload_n hx hb dX6_copyRow_4 rfl (lv_at hl 2 rfl) ?_
  refine lv_aload_n hx hb dX6_copyRow_5 rfl (lv_at hl 0 rfl) ?_
  refine yget (ci := 6) (k := 0) (v := .ref (S.2.2.1 h0 0)) (C := RX6) (T := TX6) (N := 7) C0 hK hP hm_h0 hk_h0 (by decide) rfl inlX6 (by decide) mW49 (fun _ h9 => h9) rfl dX6_copyRow_6 ?_
  refine lv_iload_n hx hb dX6_copyRow_9 rfl (lv_at hl 1 rfl) ?_
  refine ySNri (As := [.ref (S.2.2.1 h0 0), .int p0]) (rest := [.int p1, .ref (S.2.2.1 h0 0)]) C0 (g_X8_at l G S d (S.2.2.1 h0 0) 10 p0 hmy_1 hky_1 (by decide) rfl rfl (by decide)) ok_X8_at (xN.n9 hN) ⟨Nat.le_of_ble_eq_true rfl, Nat.le_of_ble_eq_true rfl⟩ hP hD hK hN rfl hl.1 rfl (Nat.le_of_ble_eq_true rfl) ⟨Nat.le_of_ble_eq_true rfl, Nat.le_of_ble_eq_true rfl⟩ dX6_copyRow_10 (fun r_2 hr_2 => ?_)
  refine ySNwv (As := [.ref (S.2.2.1 h0 0), .int p1, .int r_2]) (rest := []) C0 (g_X8_put l G S d (S.2.2.1 h0 0) 10 p1 r_2 hPo hmy_1 hky_1 (by decide) rfl rfl (by decide)) ok_X8_put (xN.n4 hN) ⟨Nat.le_of_ble_eq_true rfl, Nat.le_of_ble_eq_true rfl⟩ hP hD hS hA hK hN rfl hl.1 rfl (Nat.le_of_ble_eq_true rfl) ⟨Nat.le_of_ble_eq_true rfl, Nat.le_of_ble_eq_true rfl⟩ dX6_copyRow_13 (fun d_4 H locs hr_3 hP hD hS => ?_)
  obtain ⟨hgad_4, hpad_4, hxd_4⟩ := hr_3
  have hgd_4 : yAg S [10, 11, 12, 13, 14, 15] d d_4 := yAg.tr hg0 hgad_4 (by first | decide | exact fun _ h => h)
  have hPod_4 : yPo S d_4 := hpad_4 hPo
  refine lv_aload_n hx hb dX6_copyRow_16 rfl (lv_at hl 0 rfl) ?_
  refine yget (ci := 6) (k := 1) (v := .ref (S.2.2.1 h0 1)) (C := RX6) (T := TX6) (N := 7) C0 hK hP hm_h0 hk_h0 (by decide) rfl inlX6 (by decide) mW50 (fun _ h9 => h9) rfl dX6_copyRow_17 ?_
  obtain ⟨hmy_5, hky_5⟩ := ySh.f6_1 hSh _ hm_h0 hk_h0
  refine lv_iload_n hx hb dX6_copyRow_20 rfl (lv_at hl 2 rfl) ?_
  refine lv_aload_n hx hb dX6_copyRow_21 rfl (lv_at hl 0 rfl) ?_
  refine yget (ci := 6) (k := 1) (v := .ref (S.2.2.1 h0 1)) (C := RX6) (T := TX6) (N := 7) C0 hK hP hm_h0 hk_h0 (by decide) rfl inlX6 (by decide) mW50 (fun _ h9 => h9) rfl dX6_copyRow_22 ?_
  refine lv_iload_n hx hb dX6_copyRow_25 rfl (lv_at hl 1 rfl) ?_
  refine ySNri (As := [.ref (S.2.2.1 h0 1), .int p0]) (rest := [.int p1, .ref (S.2.2.1 h0 1)]) C0 (g_X8_at l G S d_4 (S.2.2.1 h0 1) 11 p0 hmy_5 hky_5 (by decide) rfl rfl (by decide)) ok_X8_at (xN.n9 hN) ⟨Nat.le_of_ble_eq_true rfl, Nat.le_of_ble_eq_true rfl⟩ hP hD hK hN rfl hl.1 rfl (Nat.le_of_ble_eq_true rfl) ⟨Nat.le_of_ble_eq_true rfl, Nat.le_of_ble_eq_true rfl⟩ dX6_copyRow_26 (fun r_6 hr_6 => ?_)
  refine ySNwv (As := [.ref (S.2.2.1 h0 1), .int p1, .int r_6]) (rest := []) C0 (g_X8_put l G S d_4 (S.2.2.1 h0 1) 11 p1 r_6 hPod_4 hmy_5 hky_5 (by decide) rfl rfl (by decide)) ok_X8_put (xN.n4 hN) ⟨Nat.le_of_ble_eq_true rfl, Nat.le_of_ble_eq_true rfl⟩ hP hD hS hA hK hN rfl hl.1 rfl (Nat.le_of_ble_eq_true rfl) ⟨Nat.le_of_ble_eq_true rfl, Nat.le_of_ble_eq_true rfl⟩ dX6_copyRow_29 (fun d_8 H locs hr_7 hP hD hS => ?_)
  obtain ⟨hgad_8, hpad_8, hxd_8⟩ := hr_7
  have hgd_8 : yAg S [10, 11, 12, 13, 14, 15] d d_8 := yAg.tr hgd_4 hgad_8 (by first | decide | exact fun _ h => h)
  have hPod_8 : yPo S d_8 := hpad_8 hPod_4
  refine lv_aload_n hx hb dX6_copyRow_32 rfl (lv_at hl 0 rfl) ?_
  refine yget (ci := 6) (k := 2) (v := .ref (S.2.2.1 h0 2)) (C := RX6) (T := TX6) (N := 7) C0 hK hP hm_h0 hk_h0 (by decide) rfl inlX6 (by decide) mW51 (fun _ h9 => h9) rfl dX6_copyRow_33 ?_
  obtain ⟨hmy_9, hky_9⟩ := ySh.f6_2 hSh _ hm_h0 hk_h0
  refine lv_iload_n hx hb dX6_copyRow_36 rfl (lv_at hl 2 rfl) ?_
  refine lv_aload_n hx hb dX6_copyRow_37 rfl (lv_at hl 0 rfl) ?_
  refine yget (ci := 6) (k := 2) (v := .ref (S.2.2.1 h0 2)) (C := RX6) (T := TX6) (N := 7) C0 hK hP hm_h0 hk_h0 (by decide) rfl inlX6 (by decide) mW51 (fun _ h9 => h9) rfl dX6_copyRow_38 ?_
  refine lv_iload_n hx hb dX6_copyRow_41 rfl (lv_at hl 1 rfl) ?_
  refine ySNri (As := [.ref (S.2.2.1 h0 2), .int p0]) (rest := [.int p1, .ref (S.2.2.1 h0 2)]) C0 (g_X8_at l G S d_8 (S.2.2.1 h0 2) 12 p0 hmy_9 hky_9 (by decide) rfl rfl (by decide)) ok_X8_at (xN.n9 hN) ⟨Nat.le_of_ble_eq_true rfl, Nat.le_of_ble_eq_true rfl⟩ hP hD hK hN rfl hl.1 rfl (Nat.le_of_ble_eq_true rfl) ⟨Nat.le_of_ble_eq_true rfl, Nat.le_of_ble_eq_true rfl⟩ dX6_copyRow_42 (fun r_10 hr_10 => ?_)
  refine ySNwv (As := [.ref (S.2.2.1 h0 2), .int p1, .int r_10]) (rest := []) C0 (g_X8_put l G S d_8 (S.2.2.1 h0 2) 12 p1 r_10 hPod_8 hmy_9 hky_9 (by decide) rfl rfl (by decide)) ok_X8_put (xN.n4 hN) ⟨Nat.le_of_ble_eq_true rfl, Nat.le_of_ble_eq_true rfl⟩ hP hD hS hA hK hN rfl hl.1 rfl (Nat.le_of_ble_eq_true rfl) ⟨Nat.le_of_ble_eq_true rfl, Nat.le_of_ble_eq_true rfl⟩ dX6_copyRow_45 (fun d_12 H locs hr_11 hP hD hS => ?_)
  obtain ⟨hgad_12, hpad_12, hxd_12⟩ := hr_11
  have hgd_12 : yAg S [10, 11, 12, 13, 14, 15] d d_12 := yAg.tr hgd_8 hgad_12 (by first | decide | exact fun _ h => h)
  have hPod_12 : yPo S d_12 := hpad_12 hPod_8
  refine lv_aload_n hx hb dX6_copyRow_48 rfl (lv_at hl 0 rfl) ?_
  refine yget (ci := 6) (k := 3) (v := .ref (S.2.2.1 h0 3)) (C := RX6) (T := TX6) (N := 7) C0 hK hP hm_h0 hk_h0 (by decide) rfl inlX6 (by decide) mW52 (fun _ h9 => h9) rfl dX6_copyRow_49 ?_
  obtain ⟨hmy_13, hky_13⟩ := ySh.f6_3 hSh _ hm_h0 hk_h0
  refine lv_iload_n hx hb dX6_copyRow_52 rfl (lv_at hl 2 rfl) ?_
  refine lv_aload_n hx hb dX6_copyRow_53 rfl (lv_at hl 0 rfl) ?_
  refine yget (ci := 6) (k := 3) (v := .ref (S.2.2.1 h0 3)) (C := RX6) (T := TX6) (N := 7) C0 hK hP hm_h0 hk_h0 (by decide) rfl inlX6 (by decide) mW52 (fun _ h9 => h9) rfl dX6_copyRow_54 ?_
  refine lv_iload_n hx hb dX6_copyRow_57 rfl (lv_at hl 1 rfl) ?_
  refine ySNri (As := [.ref (S.2.2.1 h0 3), .int p0]) (rest := [.int p1, .ref (S.2.2.1 h0 3)]) C0 (g_X8_at l G S d_12 (S.2.2.1 h0 3) 13 p0 hmy_13 hky_13 (by decide) rfl rfl (by decide)) ok_X8_at (xN.n9 hN) ⟨Nat.le_of_ble_eq_true rfl, Nat.le_of_ble_eq_true rfl⟩ hP hD hK hN rfl hl.1 rfl (Nat.le_of_ble_eq_true rfl) ⟨Nat.le_of_ble_eq_true rfl, Nat.le_of_ble_eq_true rfl⟩ dX6_copyRow_58 (fun r_14 hr_14 => ?_)
  refine ySNwv (As := [.ref (S.2.2.1 h0 3), .int p1, .int r_14]) (rest := []) C0 (g_X8_put l G S d_12 (S.2.2.1 h0 3) 13 p1 r_14 hPod_12 hmy_13 hky_13 (by decide) rfl rfl (by decide)) ok_X8_put (xN.n4 hN) ⟨Nat.le_of_ble_eq_true rfl, Nat.le_of_ble_eq_true rfl⟩ hP hD hS hA hK hN rfl hl.1 rfl (Nat.le_of_ble_eq_true rfl) ⟨Nat.le_of_ble_eq_true rfl, Nat.le_of_ble_eq_true rfl⟩ dX6_copyRow_61 (fun d_16 H locs hr_15 hP hD hS => ?_)
  obtain ⟨hgad_16, hpad_16, hxd_16⟩ := hr_15
  have hgd_16 : yAg S [10, 11, 12, 13, 14, 15] d d_16 := yAg.tr hgd_12 hgad_16 (by first | decide | exact fun _ h => h)
  have hPod_16 : yPo S d_16 := hpad_16 hPod_12
  refine lv_aload_n hx hb dX6_copyRow_64 rfl (lv_at hl 0 rfl) ?_
  refine yget (ci := 6) (k := 4) (v := .ref (S.2.2.1 h0 4)) (C := RX6) (T := TX6) (N := 7) C0 hK hP hm_h0 hk_h0 (by decide) rfl inlX6 (by decide) mW53 (fun _ h9 => h9) rfl dX6_copyRow_65 ?_
  obtain ⟨hmy_17, hky_17⟩ := ySh.f6_4 hSh _ hm_h0 hk_h0
  refine lv_iload_n hx hb dX6_copyRow_68 rfl (lv_at hl 2 rfl) ?_
  refine lv_aload_n hx hb dX6_copyRow_69 rfl (lv_at hl 0 rfl) ?_
  refine yget (ci := 6) (k := 4) (v := .ref (S.2.2.1 h0 4)) (C := RX6) (T := TX6) (N := 7) C0 hK hP hm_h0 hk_h0 (by decide) rfl inlX6 (by decide) mW53 (fun _ h9 => h9) rfl dX6_copyRow_70 ?_
  refine lv_iload_n hx hb dX6_copyRow_73 rfl (lv_at hl 1 rfl) ?_
  refine ySNri (As := [.ref (S.2.2.1 h0 4), .int p0]) (rest := [.int p1, .ref (S.2.2.1 h0 4)]) C0 (g_X8_at l G S d_16 (S.2.2.1 h0 4) 14 p0 hmy_17 hky_17 (by decide) rfl rfl (by decide)) ok_X8_at (xN.n9 hN) ⟨Nat.le_of_ble_eq_true rfl, Nat.le_of_ble_eq_true rfl⟩ hP hD hK hN rfl hl.1 rfl (Nat.le_of_ble_eq_true rfl) ⟨Nat.le_of_ble_eq_true rfl, Nat.le_of_ble_eq_true rfl⟩ dX6_copyRow_74 (fun r_18 hr_18 => ?_)
  refine ySNwv (As := [.ref (S.2.2.1 h0 4), .int p1, .int r_18]) (rest := []) C0 (g_X8_put l G S d_16 (S.2.2.1 h0 4) 14 p1 r_18 hPod_16 hmy_17 hky_17 (by decide) rfl rfl (by decide)) ok_X8_put (xN.n4 hN) ⟨Nat.le_of_ble_eq_true rfl, Nat.le_of_ble_eq_true rfl⟩ hP hD hS hA hK hN rfl hl.1 rfl (Nat.le_of_ble_eq_true rfl) ⟨Nat.le_of_ble_eq_true rfl, Nat.le_of_ble_eq_true rfl⟩ dX6_copyRow_77 (fun d_20 H locs hr_19 hP hD hS => ?_)
  obtain ⟨hgad_20, hpad_20, hxd_20⟩ := hr_19
  have hgd_20 : yAg S [10, 11, 12, 13, 14, 15] d d_20 := yAg.tr hgd_16 hgad_20 (by first | decide | exact fun _ h => h)
  have hPod_20 : yPo S d_20 := hpad_20 hPod_16
  refine lv_aload_n hx hb dX6_copyRow_80 rfl (lv_at hl 0 rfl) ?_
  refine yget (ci := 6) (k := 5) (v := .ref (S.2.2.1 h0 5)) (C := RX6) (T := TX6) (N := 7) C0 hK hP hm_h0 hk_h0 (by decide) rfl inlX6 (by decide) mW54 (fun _ h9 => h9) rfl dX6_copyRow_81 ?_
  obtain ⟨hmy_21, hky_21⟩ := ySh.f6_5 hSh _ hm_h0 hk_h0
  refine lv_iload_n hx hb dX6_copyRow_84 rfl (lv_at hl 2 rfl) ?_
  refine lv_aload_n hx hb dX6_copyRow_85 rfl (lv_at hl 0 rfl) ?_
  refine yget (ci := 6) (k := 5) (v := .ref (S.2.2.1 h0 5)) (C := RX6) (T := TX6) (N := 7) C0 hK hP hm_h0 hk_h0 (by decide) rfl inlX6 (by decide) mW54 (fun _ h9 => h9) rfl dX6_copyRow_86 ?_
  refine lv_iload_n hx hb dX6_copyRow_89 rfl (lv_at hl 1 rfl) ?_
  refine ySNri (As := [.ref (S.2.2.1 h0 5), .int p0]) (rest := [.int p1, .ref (S.2.2.1 h0 5)]) C0 (g_X8_at l G S d_20 (S.2.2.1 h0 5) 15 p0 hmy_21 hky_21 (by decide) rfl rfl (by decide)) ok_X8_at (xN.n9 hN) ⟨Nat.le_of_ble_eq_true rfl, Nat.le_of_ble_eq_true rfl⟩ hP hD hK hN rfl hl.1 rfl (Nat.le_of_ble_eq_true rfl) ⟨Nat.le_of_ble_eq_true rfl, Nat.le_of_ble_eq_true rfl⟩ dX6_copyRow_90 (fun r_22 hr_22 => ?_)
  refine ySNwv (As := [.ref (S.2.2.1 h0 5), .int p1, .int r_22]) (rest := []) C0 (g_X8_put l G S d_20 (S.2.2.1 h0 5) 15 p1 r_22 hPod_20 hmy_21 hky_21 (by decide) rfl rfl (by decide)) ok_X8_put (xN.n4 hN) ⟨Nat.le_of_ble_eq_true rfl, Nat.le_of_ble_eq_true rfl⟩ hP hD hS hA hK hN rfl hl.1 rfl (Nat.le_of_ble_eq_true rfl) ⟨Nat.le_of_ble_eq_true rfl, Nat.le_of_ble_eq_true rfl⟩ dX6_copyRow_93 (fun d_24 H locs hr_23 hP hD hS => ?_)
  obtain ⟨hgad_24, hpad_24, hxd_24⟩ := hr_23
  have hgd_24 : yAg S [10, 11, 12, 13, 14, 15] d d_24 := yAg.tr hgd_20 hgad_24 (by first | decide | exact fun _ h => h)
  have hPod_24 : yPo S d_24 := hpad_24 hPod_20
  exact W.vret hx hb hr (fun t ht hW => ⟨⟨d_24, rfl, ⟨hgd_24, (fun _ => hPod_24), (zCopy6 hSh hm_h0 hk_h0 hr_2 hr_6 hr_10 hr_14 hr_18 hr_22 hxd_4 hxd_8 hxd_12 hxd_16 hxd_20 hxd_24)⟩, by rw [ht]; exact hP, hD⟩, hS.F ht⟩) hS.2.2 dX6_copyRow_96
theorem dX8_copyAll_0 : decode cX8_copyAll 0 = .ok (.aload_n 1, 1) := by decide +kernel
theorem dX8_copyAll_1 : decode cX8_copyAll 1 = .ok (.iconst 0, 1) := by decide +kernel
theorem dX8_copyAll_2 : decode cX8_copyAll 2 = .ok (.aload_n 0, 1) := by decide +kernel
theorem dX8_copyAll_3 : decode cX8_copyAll 3 = .ok (.iconst 0, 1) := by decide +kernel
theorem dX8_copyAll_4 : decode cX8_copyAll 4 = .ok (.aload_n 1, 1) := by decide +kernel
theorem dX8_copyAll_5 : decode cX8_copyAll 5 = .ok (.arraylength, 1) := by decide +kernel
theorem dX8_copyAll_6 : decode cX8_copyAll 6 = .ok (.aload_n 0, 1) := by decide +kernel
theorem dX8_copyAll_7 : decode cX8_copyAll 7 = .ok (.arraylength, 1) := by decide +kernel
theorem dX8_copyAll_8 : decode cX8_copyAll 8 = .ok (.invokestatic 162, 3) := by decide +kernel
theorem dX8_copyAll_11 : decode cX8_copyAll 11 = .ok (.invokestatic 177, 3) := by decide +kernel
theorem dX8_copyAll_14 : decode cX8_copyAll 14 = .ok (.return_, 1) := by decide +kernel
set_option maxHeartbeats 4000000 in
set_option maxRecDepth 100000 in
theorem g_X8_copyAll (l : Launch) (G : xG) (S : yS) (d : yD) (a1 : Nat) (c1 : Nat) (a0 : Nat) (c0 : Nat) (hPo : yPo S d) (hm_a1 : a1 ∈ S.1) (hk_a1 : S.2.1 a1 = c1) (hm_a0 : a0 ∈ S.1) (hk_a0 : S.2.1 a0 = c0) (hc_c1 : ¬ c1 < 10) (h0_c1 : ykd c1 = 0) (ht_c1 : yti c1 = 0) (hn_c1 : yln c1 < 2 ^ 31) (hc_c0 : ¬ c0 < 10) (h0_c0 : ykd c0 = 0) (ht_c0 : yti c0 = 0) (hn_c0 : yln c0 < 2 ^ 31) (heq_ : yln c0 = yln c1) (hpos_ : 0 < yln c1) : xWv l G yX8_copyAll cX8_copyAll 2 none 2 42 0 0 [.ref a1, .ref a0] (yW G S d) (fun u : yD => yAg S [c1] d u ∧ (yPo S d → yPo S u) ∧ (∃ f : Nat → Int32, u = ycs d a1 f ∧ ∀ k, k < yln c1 → f k = d.2.2.2.1 a0 k)) (fun u => yW G S u) := by
  intro sz
  refine xstart (by decide) (Nat.le_of_ble_eq_true rfl) (fun p e s m args below meth c ls C0 hr hlocks hin hsz hP hK hD hN hl => ?_)
  obtain ⟨hx, hb, hml, hown, htl⟩ := id C0
  subst hsz
  have hD := hD.self (sz := s.heap.size)
  generalize hAe : va_A (yW G S d) s.heap.size = A at hD ⊢
  have hA : ∀ q : Nat, s.heap.size ≤ q → A q := fun q h => by rw [← hAe]; exact Or.inr h
  have hS : va_S A s.heap s.heap [] := va_S.rf
  have hg0 : yAg S [c1] d d := yAg.rf
  have hl : lv_has ls 2 [(0, .ref a1), (1, .ref a0)] := hl
  refine lv_aload_n hx hb dX8_copyAll_0 rfl (lv_at hl 1 rfl) ?_
  refine lv_iconst (v := 0) hx hb dX8_copyAll_1 (by decide) ?_
  refine lv_aload_n hx hb dX8_copyAll_2 rfl (lv_at hl 0 rfl) ?_
  refine lv_iconst (v := 0) hx hb dX8_copyAll_3 (by decide) ?_
  refine lv_aload_n hx hb dX8_copyAll_4 rfl (lv_at hl 1 rfl) ?_
  refine ylen (v := nI (yln c0)) (ty := .int) C0 hK hP hm_a0 hk_a0 hc_c0 0 (by show some _ = some _; rw [ht_c0]) rfl dX8_copyAll_5 ?_
  refine lv_aload_n hx hb dX8_copyAll_6 rfl (lv_at hl 0 rfl) ?_
  refine ylen (v := nI (yln c1)) (ty := .int) C0 hK hP hm_a1 hk_a1 hc_c1 0 (by show some _ = some _; rw [ht_c1]) rfl dX8_copyAll_7 ?_
  refine va_mmin hx hb (by rw [hml]; exact hl.1.symm) hown (htl (.methodLink RX8 162 Lib.Math.min.name) mW202) (htl (.static Lib.Math.min.name) mW203) (htl (.initialized "java/lang/Math") mW204) (htl (.code Lib.Math.min.name Lib.Math.min.code 2 (some .int)) mW205) (Nat.le_of_ble_eq_true rfl) (Nat.le_of_ble_eq_true rfl) (Nat.le_of_ble_eq_true rfl) (Nat.le_of_ble_eq_true rfl) dX8_copyAll_8 ?_
  refine lv_topi (fun z_1 ez_1 => ?_)
  refine ySwv (As := [.ref a0, .int 0, .ref a1, .int 0, .int z_1]) (rest := []) C0 (g_X8_slide l G S d a0 c0 0 a1 c1 0 z_1 hPo hm_a0 hk_a0 hm_a1 hk_a1 hc_c0 h0_c0 ht_c0 hn_c0 hc_c1 h0_c1 ht_c1 hn_c1) ok_X8_slide (mW484 : Cond.methodLink RX8 177 yX8_slide ∈ wsT) ⟨Nat.le_of_ble_eq_true rfl, Nat.le_of_ble_eq_true rfl⟩ hP hD hS hA hK hN rfl hl.1 rfl (Nat.le_of_ble_eq_true rfl) ⟨Nat.le_of_ble_eq_true rfl, Nat.le_of_ble_eq_true rfl⟩ dX8_copyAll_11 (fun d_3 H locs hr_2 hP hD hS => ?_)
  obtain ⟨hgad_3, hpad_3, hxd_3⟩ := hr_2
  have hgd_3 : yAg S [c1] d d_3 := yAg.tr hg0 hgad_3 (by first | decide | exact fun _ h => h)
  have hPod_3 : yPo S d_3 := hpad_3 hPo
  exact W.vret hx hb hr (fun t ht hW => ⟨⟨d_3, rfl, ⟨hgd_3, (fun _ => hPod_3), ⟨_, hxd_3, fun k hk => by rw [ez_1, heq_, ite_self]; exact xsl_all hpos_ hn_c1 hk⟩⟩, by rw [ht]; exact hP, hD⟩, hS.F ht⟩) hS.2.2 dX8_copyAll_14
theorem dX6_take_0 : decode cX6_take 0 = .ok (.aload_n 0, 1) := by decide +kernel
theorem dX6_take_1 : decode cX6_take 1 = .ok (.getfield 11, 3) := by decide +kernel
theorem dX6_take_4 : decode cX6_take 4 = .ok (.aload_n 1, 1) := by decide +kernel
theorem dX6_take_5 : decode cX6_take 5 = .ok (.getfield 11, 3) := by decide +kernel
theorem dX6_take_8 : decode cX6_take 8 = .ok (.invokestatic 48, 3) := by decide +kernel
theorem dX6_take_11 : decode cX6_take 11 = .ok (.aload_n 0, 1) := by decide +kernel
theorem dX6_take_12 : decode cX6_take 12 = .ok (.getfield 15, 3) := by decide +kernel
theorem dX6_take_15 : decode cX6_take 15 = .ok (.aload_n 1, 1) := by decide +kernel
theorem dX6_take_16 : decode cX6_take 16 = .ok (.getfield 15, 3) := by decide +kernel
theorem dX6_take_19 : decode cX6_take 19 = .ok (.invokestatic 48, 3) := by decide +kernel
theorem dX6_take_22 : decode cX6_take 22 = .ok (.aload_n 0, 1) := by decide +kernel
theorem dX6_take_23 : decode cX6_take 23 = .ok (.getfield 18, 3) := by decide +kernel
theorem dX6_take_26 : decode cX6_take 26 = .ok (.aload_n 1, 1) := by decide +kernel
theorem dX6_take_27 : decode cX6_take 27 = .ok (.getfield 18, 3) := by decide +kernel
theorem dX6_take_30 : decode cX6_take 30 = .ok (.invokestatic 48, 3) := by decide +kernel
theorem dX6_take_33 : decode cX6_take 33 = .ok (.aload_n 0, 1) := by decide +kernel
theorem dX6_take_34 : decode cX6_take 34 = .ok (.getfield 21, 3) := by decide +kernel
theorem dX6_take_37 : decode cX6_take 37 = .ok (.aload_n 1, 1) := by decide +kernel
theorem dX6_take_38 : decode cX6_take 38 = .ok (.getfield 21, 3) := by decide +kernel
theorem dX6_take_41 : decode cX6_take 41 = .ok (.invokestatic 48, 3) := by decide +kernel
theorem dX6_take_44 : decode cX6_take 44 = .ok (.aload_n 0, 1) := by decide +kernel
theorem dX6_take_45 : decode cX6_take 45 = .ok (.getfield 24, 3) := by decide +kernel
theorem dX6_take_48 : decode cX6_take 48 = .ok (.aload_n 1, 1) := by decide +kernel
theorem dX6_take_49 : decode cX6_take 49 = .ok (.getfield 24, 3) := by decide +kernel
theorem dX6_take_52 : decode cX6_take 52 = .ok (.invokestatic 48, 3) := by decide +kernel
theorem dX6_take_55 : decode cX6_take 55 = .ok (.aload_n 0, 1) := by decide +kernel
theorem dX6_take_56 : decode cX6_take 56 = .ok (.getfield 27, 3) := by decide +kernel
theorem dX6_take_59 : decode cX6_take 59 = .ok (.aload_n 1, 1) := by decide +kernel
theorem dX6_take_60 : decode cX6_take 60 = .ok (.getfield 27, 3) := by decide +kernel
theorem dX6_take_63 : decode cX6_take 63 = .ok (.invokestatic 48, 3) := by decide +kernel
theorem dX6_take_66 : decode cX6_take 66 = .ok (.aload_n 0, 1) := by decide +kernel
theorem dX6_take_67 : decode cX6_take 67 = .ok (.aload_n 1, 1) := by decide +kernel
theorem dX6_take_68 : decode cX6_take 68 = .ok (.getfield 52, 3) := by decide +kernel
theorem dX6_take_71 : decode cX6_take 71 = .ok (.putfield 52, 3) := by decide +kernel
theorem dX6_take_74 : decode cX6_take 74 = .ok (.return_, 1) := by decide +kernel
set_option maxHeartbeats 4000000 in
set_option maxRecDepth 100000 in
theorem g_X6_take (l : Launch) (G : xG) (S : yS) (d : yD) (h0 : Nat) (h1 : Nat) (hSh : ySh S) (hPo : yPo S d) (hm_h0 : h0 ∈ S.1) (hk_h0 : S.2.1 h0 = 6) (hm_h1 : h1 ∈ S.1) (hk_h1 : S.2.1 h1 = 6) (hne : h1 ≠ h0) : xWv l G yX6_take cX6_take 2 none 3 63 0 0 [.ref h0, .ref h1] (yW G S d) (fun u : yD => yAg S [6, 10, 11, 12, 13, 14, 15] d u ∧ (yPo S d → yPo S u) ∧ ((u.1 h0 6 = d.1 h1 6 ∧ ∀ a, S.2.1 a = 6 → a ≠ h0 → u.1 a = d.1 a) ∧ zTk S d u h0 h1)) (fun u => yW G S u) := by
  intro sz
  refine xstart (by decide) (Nat.le_of_ble_eq_true rfl) (fun p e s m args below meth c ls C0 hr hlocks hin hsz hP hK hD hN hl => ?_)
  obtain ⟨hx, hb, hml, hown, htl⟩ := id C0
  subst hsz
  have hD := hD.self (sz := s.heap.size)
  generalize hAe : va_A (yW G S d) s.heap.size = A at hD ⊢
  have hA : ∀ q : Nat, s.heap.size ≤ q → A q := fun q h => by rw [← hAe]; exact Or.inr h
  have hS : va_S A s.heap s.heap [] := va_S.rf
  have hg0 : yAg S [6, 10, 11, 12, 13, 14, 15] d d := yAg.rf
  have hl : lv_has ls 2 [(0, .ref h0), (1, .ref h1)] := hl
  refine lv_aload_n hx hb dX6_take_0 rfl (lv_at hl 0 rfl) ?_
  refine yget (ci := 6) (k := 0) (v := .ref (S.2.2.1 h0 0)) (C := RX6) (T := TX6) (N := 7) C0 hK hP hm_h0 hk_h0 (by decide) rfl inlX6 (by decide) mW49 (fun _ h9 => h9) rfl dX6_take_1 ?_
  obtain ⟨hmy_1, hky_1⟩ := ySh.f6_0 hSh _ hm_h0 hk_h0
  refine lv_aload_n hx hb dX6_take_4 rfl (lv_at hl 1 rfl) ?_
  refine yget (ci := 6) (k := 0) (v := .ref (S.2.2.1 h1 0)) (C := RX6) (T := TX6) (N := 7) C0 hK hP hm_h1 hk_h1 (by decide) rfl inlX6 (by decide) mW49 (fun _ h9 => h9) rfl dX6_take_5 ?_
  obtain ⟨hmy_2, hky_2⟩ := ySh.f6_0 hSh _ hm_h1 hk_h1
  refine ySNwv (As := [.ref (S.2.2.1 h0 0), .ref (S.2.2.1 h1 0)]) (rest := []) C0 (g_X8_copyAll l G S d (S.2.2.1 h0 0) 10 (S.2.2.1 h1 0) 10 hPo hmy_1 hky_1 hmy_2 hky_2 (by decide) rfl rfl (by decide) (by decide) rfl rfl (by decide) (by decide) (by decide)) ok_X8_copyAll (xN.n17 hN) ⟨Nat.le_of_ble_eq_true rfl, Nat.le_of_ble_eq_true rfl⟩ hP hD hS hA hK hN rfl hl.1 rfl (Nat.le_of_ble_eq_true rfl) ⟨Nat.le_of_ble_eq_true rfl, Nat.le_of_ble_eq_true rfl⟩ dX6_take_8 (fun d_4 H locs hr_3 hP hD hS => ?_)
  obtain ⟨hgad_4, hpad_4, hxd_4⟩ := hr_3
  have hgd_4 : yAg S [6, 10, 11, 12, 13, 14, 15] d d_4 := yAg.tr hg0 hgad_4 (by first | decide | exact fun _ h => h)
  have hPod_4 : yPo S d_4 := hpad_4 hPo
  refine lv_aload_n hx hb dX6_take_11 rfl (lv_at hl 0 rfl) ?_
  refine yget (ci := 6) (k := 1) (v := .ref (S.2.2.1 h0 1)) (C := RX6) (T := TX6) (N := 7) C0 hK hP hm_h0 hk_h0 (by decide) rfl inlX6 (by decide) mW50 (fun _ h9 => h9) rfl dX6_take_12 ?_
  obtain ⟨hmy_5, hky_5⟩ := ySh.f6_1 hSh _ hm_h0 hk_h0
  refine lv_aload_n hx hb dX6_take_15 rfl (lv_at hl 1 rfl) ?_
  refine yget (ci := 6) (k := 1) (v := .ref (S.2.2.1 h1 1)) (C := RX6) (T := TX6) (N := 7) C0 hK hP hm_h1 hk_h1 (by decide) rfl inlX6 (by decide) mW50 (fun _ h9 => h9) rfl dX6_take_16 ?_
  obtain ⟨hmy_6, hky_6⟩ := ySh.f6_1 hSh _ hm_h1 hk_h1
  refine ySNwv (As := [.ref (S.2.2.1 h0 1), .ref (S.2.2.1 h1 1)]) (rest := []) C0 (g_X8_copyAll l G S d_4 (S.2.2.1 h0 1) 11 (S.2.2.1 h1 1) 11 hPod_4 hmy_5 hky_5 hmy_6 hky_6 (by decide) rfl rfl (by decide) (by decide) rfl rfl (by decide) (by decide) (by decide)) ok_X8_copyAll (xN.n17 hN) ⟨Nat.le_of_ble_eq_true rfl, Nat.le_of_ble_eq_true rfl⟩ hP hD hS hA hK hN rfl hl.1 rfl (Nat.le_of_ble_eq_true rfl) ⟨Nat.le_of_ble_eq_true rfl, Nat.le_of_ble_eq_true rfl⟩ dX6_take_19 (fun d_8 H locs hr_7 hP hD hS => ?_)
  obtain ⟨hgad_8, hpad_8, hxd_8⟩ := hr_7
  have hgd_8 : yAg S [6, 10, 11, 12, 13, 14, 15] d d_8 := yAg.tr hgd_4 hgad_8 (by first | decide | exact fun _ h => h)
  have hPod_8 : yPo S d_8 := hpad_8 hPod_4
  refine lv_aload_n hx hb dX6_take_22 rfl (lv_at hl 0 rfl) ?_
  refine yget (ci := 6) (k := 2) (v := .ref (S.2.2.1 h0 2)) (C := RX6) (T := TX6) (N := 7) C0 hK hP hm_h0 hk_h0 (by decide) rfl inlX6 (by decide) mW51 (fun _ h9 => h9) rfl dX6_take_23 ?_
  obtain ⟨hmy_9, hky_9⟩ := ySh.f6_2 hSh _ hm_h0 hk_h0
  refine lv_aload_n hx hb dX6_take_26 rfl (lv_at hl 1 rfl) ?_
  refine yget (ci := 6) (k := 2) (v := .ref (S.2.2.1 h1 2)) (C := RX6) (T := TX6) (N := 7) C0 hK hP hm_h1 hk_h1 (by decide) rfl inlX6 (by decide) mW51 (fun _ h9 => h9) rfl dX6_take_27 ?_
  obtain ⟨hmy_10, hky_10⟩ := ySh.f6_2 hSh _ hm_h1 hk_h1
  refine ySNwv (As := [.ref (S.2.2.1 h0 2), .ref (S.2.2.1 h1 2)]) (rest := []) C0 (g_X8_copyAll l G S d_8 (S.2.2.1 h0 2) 12 (S.2.2.1 h1 2) 12 hPod_8 hmy_9 hky_9 hmy_10 hky_10 (by decide) rfl rfl (by decide) (by decide) rfl rfl (by decide) (by decide) (by decide)) ok_X8_copyAll (xN.n17 hN) ⟨Nat.le_of_ble_eq_true rfl, Nat.le_of_ble_eq_true rfl⟩ hP hD hS hA hK hN rfl hl.1 rfl (Nat.le_of_ble_eq_true rfl) ⟨Nat.le_of_ble_eq_true rfl, Nat.le_of_ble_eq_true rfl⟩ dX6_take_30 (fun d_12 H locs hr_11 hP hD hS => ?_)
  obtain ⟨hgad_12, hpad_12, hxd_12⟩ := hr_11
  have hgd_12 : yAg S [6, 10, 11, 12, 13, 14, 15] d d_12 := yAg.tr hgd_8 hgad_12 (by first | decide | exact fun _ h => h)
  have hPod_12 : yPo S d_12 := hpad_12 hPod_8
  refine lv_aload_n hx hb dX6_take_33 rfl (lv_at hl 0 rfl) ?_
  refine yget (ci := 6) (k := 3) (v := .ref (S.2.2.1 h0 3)) (C := RX6) (T := TX6) (N := 7) C0 hK hP hm_h0 hk_h0 (by decide) rfl inlX6 (by decide) mW52 (fun _ h9 => h9) rfl dX6_take_34 ?_
  obtain ⟨hmy_13, hky_13⟩ := ySh.f6_3 hSh _ hm_h0 hk_h0
  refine lv_aload_n hx hb dX6_take_37 rfl (lv_at hl 1 rfl) ?_
  refine yget (ci := 6) (k := 3) (v := .ref (S.2.2.1 h1 3)) (C := RX6) (T := TX6) (N := 7) C0 hK hP hm_h1 hk_h1 (by decide) rfl inlX6 (by decide) mW52 (fun _ h9 => h9) rfl dX6_take_38 ?_
  obtain ⟨hmy_14, hky_14⟩ := ySh.f6_3 hSh _ hm_h1 hk_h1
  refine ySNwv (As := [.ref (S.2.2.1 h0 3), .ref (S.2.2.1 h1 3)]) (rest := []) C0 (g_X8_copyAll l G S d_12 (S.2.2.1 h0 3) 13 (S.2.2.1 h1 3) 13 hPod_12 hmy_13 hky_13 hmy_14 hky_14 (by decide) rfl rfl (by decide) (by decide) rfl rfl (by decide) (by decide) (by decide)) ok_X8_copyAll (xN.n17 hN) ⟨Nat.le_of_ble_eq_true rfl, Nat.le_of_ble_eq_true rfl⟩ hP hD hS hA hK hN rfl hl.1 rfl (Nat.le_of_ble_eq_true rfl) ⟨Nat.le_of_ble_eq_true rfl, Nat.le_of_ble_eq_true rfl⟩ dX6_take_41 (fun d_16 H locs hr_15 hP hD hS => ?_)
  obtain ⟨hgad_16, hpad_16, hxd_16⟩ := hr_15
  have hgd_16 : yAg S [6, 10, 11, 12, 13, 14, 15] d d_16 := yAg.tr hgd_12 hgad_16 (by first | decide | exact fun _ h => h)
  have hPod_16 : yPo S d_16 := hpad_16 hPod_12
  refine lv_aload_n hx hb dX6_take_44 rfl (lv_at hl 0 rfl) ?_
  refine yget (ci := 6) (k := 4) (v := .ref (S.2.2.1 h0 4)) (C := RX6) (T := TX6) (N := 7) C0 hK hP hm_h0 hk_h0 (by decide) rfl inlX6 (by decide) mW53 (fun _ h9 => h9) rfl dX6_take_45 ?_
  obtain ⟨hmy_17, hky_17⟩ := ySh.f6_4 hSh _ hm_h0 hk_h0
  refine lv_aload_n hx hb dX6_take_48 rfl (lv_at hl 1 rfl) ?_
  refine yget (ci := 6) (k := 4) (v := .ref (S.2.2.1 h1 4)) (C := RX6) (T := TX6) (N := 7) C0 hK hP hm_h1 hk_h1 (by decide) rfl inlX6 (by decide) mW53 (fun _ h9 => h9) rfl dX6_take_49 ?_
  obtain ⟨hmy_18, hky_18⟩ := ySh.f6_4 hSh _ hm_h1 hk_h1
  refine ySNwv (As := [.ref (S.2.2.1 h0 4), .ref (S.2.2.1 h1 4)]) (rest := []) C0 (g_X8_copyAll l G S d_16 (S.2.2.1 h0 4) 14 (S.2.2.1 h1 4) 14 hPod_16 hmy_17 hky_17 hmy_18 hky_18 (by decide) rfl rfl (by decide) (by decide) rfl rfl (by decide) (by decide) (by decide)) ok_X8_copyAll (xN.n17 hN) ⟨Nat.le_of_ble_eq_true rfl, Nat.le_of_ble_eq_true rfl⟩ hP hD hS hA hK hN rfl hl.1 rfl (Nat.le_of_ble_eq_true rfl) ⟨Nat.le_of_ble_eq_true rfl, Nat.le_of_ble_eq_true rfl⟩ dX6_take_52 (fun d_20 H locs hr_19 hP hD hS => ?_)
  obtain ⟨hgad_20, hpad_20, hxd_20⟩ := hr_19
  have hgd_20 : yAg S [6, 10, 11, 12, 13, 14, 15] d d_20 := yAg.tr hgd_16 hgad_20 (by first | decide | exact fun _ h => h)
  have hPod_20 : yPo S d_20 := hpad_20 hPod_16
  refine lv_aload_n hx hb dX6_take_55 rfl (lv_at hl 0 rfl) ?_
  refine yget (ci := 6) (k := 5) (v := .ref (S.2.2.1 h0 5)) (C := RX6) (T := TX6) (N := 7) C0 hK hP hm_h0 hk_h0 (by decide) rfl inlX6 (by decide) mW54 (fun _ h9 => h9) rfl dX6_take_56 ?_
  obtain ⟨hmy_21, hky_21⟩ := ySh.f6_5 hSh _ hm_h0 hk_h0
  refine lv_aload_n hx hb dX6_take_59 rfl (lv_at hl 1 rfl) ?_
  refine yget (ci := 6) (k := 5) (v := .ref (S.2.2.1 h1 5)) (C := RX6) (T := TX6) (N := 7) C0 hK hP hm_h1 hk_h1 (by decide) rfl inlX6 (by decide) mW54 (fun _ h9 => h9) rfl dX6_take_60 ?_
  obtain ⟨hmy_22, hky_22⟩ := ySh.f6_5 hSh _ hm_h1 hk_h1
  refine ySNwv (As := [.ref (S.2.2.1 h0 5), .ref (S.2.2.1 h1 5)]) (rest := []) C0 (g_X8_copyAll l G S d_20 (S.2.2.1 h0 5) 15 (S.2.2.1 h1 5) 15 hPod_20 hmy_21 hky_21 hmy_22 hky_22 (by decide) rfl rfl (by decide) (by decide) rfl rfl (by decide) (by decide) (by decide)) ok_X8_copyAll (xN.n17 hN) ⟨Nat.le_of_ble_eq_true rfl, Nat.le_of_ble_eq_true rfl⟩ hP hD hS hA hK hN rfl hl.1 rfl (Nat.le_of_ble_eq_true rfl) ⟨Nat.le_of_ble_eq_true rfl, Nat.le_of_ble_eq_true rfl⟩ dX6_take_63 (fun d_24 H locs hr_23 hP hD hS => ?_)
  obtain ⟨hgad_24, hpad_24, hxd_24⟩ := hr_23
  have hgd_24 : yAg S [6, 10, 11, 12, 13, 14, 15] d d_24 := yAg.tr hgd_20 hgad_24 (by first | decide | exact fun _ h => h)
  have hPod_24 : yPo S d_24 := hpad_24 hPod_20
  refine lv_aload_n hx hb dX6_take_66 rfl (lv_at hl 0 rfl) ?_
  refine lv_aload_n hx hb dX6_take_67 rfl (lv_at hl 1 rfl) ?_
  refine yget (ci := 6) (k := 6) (v := .int (d_24.1 h1 6)) (C := RX6) (T := TX6) (N := 7) C0 hK hP hm_h1 hk_h1 (by decide) rfl inlX6 (by decide) mW1081 (fun _ h9 => h9) rfl dX6_take_68 ?_
  refine lv_topi (fun z_25 ez_25 => ?_)
  refine yputI (ci := 6) (k := 6) (ty := .int) (C := RX6) (T := TX6) (N := 7) C0 hK hP hD hS hm_h0 hk_h0 (by decide) rfl inlX6 tyX6 tyX6_ok nmX6 (by decide) mW1081 (fun _ h9 => h9) rfl (by decide +kernel) rfl rfl (Nat.le_of_ble_eq_true rfl) ysi_6_6 dX6_take_71 (fun H locs hP hD hS => ?_)
  obtain ⟨d_26, ed_26⟩ : ∃ z : yD, z = yi d_24 h0 6 z_25 := ⟨_, rfl⟩
  rw [← ed_26] at hP hD
  have hgd_26 : yAg S [6, 10, 11, 12, 13, 14, 15] d d_26 := by rw [ed_26]; exact yAg.i hgd_24 (by rw [hk_h0]; decide)
  have hPod_26 : yPo S d_26 := by rw [ed_26]; exact yPo.i hPod_24 hk_h0 (Or.inl rfl)
  obtain ⟨f0_, ef0_, rf0_⟩ := hxd_4
  obtain ⟨f1_, ef1_, rf1_⟩ := hxd_8
  obtain ⟨f2_, ef2_, rf2_⟩ := hxd_12
  obtain ⟨f3_, ef3_, rf3_⟩ := hxd_16
  obtain ⟨f4_, ef4_, rf4_⟩ := hxd_20
  obtain ⟨f5_, ef5_, rf5_⟩ := hxd_24
  exact W.vret hx hb hr (fun t ht hW => ⟨⟨d_26, rfl, ⟨hgd_26, (fun _ => hPod_26), ⟨⟨by rw [ed_26, yi_self, ez_25]; exact congrFun ((fun (a : Nat) (ha : S.2.1 a = 6) => (((hgad_24 a (by rw [ha]; decide)).1).trans (((hgad_20 a (by rw [ha]; decide)).1).trans (((hgad_16 a (by rw [ha]; decide)).1).trans (((hgad_12 a (by rw [ha]; decide)).1).trans (((hgad_8 a (by rw [ha]; decide)).1).trans (hgad_4 a (by rw [ha]; decide)).1)))))) h1 hk_h1) 6, fun a ha hn => by rw [ed_26]; exact (show (yi d_24 h0 6 z_25).1 a = _ from va_up_ne _ _ hn).trans (((hgad_24 a (by rw [ha]; decide)).1).trans (((hgad_20 a (by rw [ha]; decide)).1).trans (((hgad_16 a (by rw [ha]; decide)).1).trans (((hgad_12 a (by rw [ha]; decide)).1).trans (((hgad_8 a (by rw [ha]; decide)).1).trans (hgad_4 a (by rw [ha]; decide)).1)))))⟩, (by rw [ed_26]; exact (show zTk S d d_24 h0 h1 from zTake6 hSh hm_h0 hk_h0 hm_h1 hk_h1 hne ef0_ ef1_ ef2_ ef3_ ef4_ ef5_ (fun k hk => rf0_ k hk) (fun k hk => rf1_ k hk) (fun k hk => rf2_ k hk) (fun k hk => rf3_ k hk) (fun k hk => rf4_ k hk) (fun k hk => rf5_ k hk)))⟩⟩, by rw [ht]; exact hP, hD⟩, hS.F ht⟩) hS.2.2 dX6_take_74
theorem dX1_begin_0 : decode cX1_begin 0 = .ok (.aload_n 0, 1) := by decide +kernel
theorem dX1_begin_1 : decode cX1_begin 1 = .ok (.iload_n 1, 1) := by decide +kernel
theorem dX1_begin_2 : decode cX1_begin 2 = .ok (.putfield 18, 3) := by decide +kernel
theorem dX1_begin_5 : decode cX1_begin 5 = .ok (.aload_n 0, 1) := by decide +kernel
theorem dX1_begin_6 : decode cX1_begin 6 = .ok (.iconst 0, 1) := by decide +kernel
theorem dX1_begin_7 : decode cX1_begin 7 = .ok (.putfield 22, 3) := by decide +kernel
theorem dX1_begin_10 : decode cX1_begin 10 = .ok (.return_, 1) := by decide +kernel
set_option maxHeartbeats 4000000 in
set_option maxRecDepth 100000 in
theorem g_X1_begin (l : Launch) (G : xG) (S : yS) (d : yD) (h0 : Nat) (p0 : Int32) (hSh : ySh S) (hPo : yPo S d) (hm_h0 : h0 ∈ S.1) (hk_h0 : S.2.1 h0 = 1) : xWv l G yX1_begin cX1_begin 2 none 0 0 0 0 [.ref h0, .int p0] (yW G S d) (fun u : yD => yAg S [1] d u ∧ (yPo S d → yPo S u) ∧ (u.1 h0 3 = p0 ∧ u.1 h0 2 = 0 ∧ ∀ a, S.2.1 a = 1 → a ≠ h0 → u.1 a = d.1 a ∧ u.2.1 a = d.2.1 a)) (fun u => yW G S u) := by
  intro sz
  refine xstart (by decide) (Nat.le_of_ble_eq_true rfl) (fun p e s m args below meth c ls C0 hr hlocks hin hsz hP hK hD hN hl => ?_)
  obtain ⟨hx, hb, hml, hown, htl⟩ := id C0
  subst hsz
  have hD := hD.self (sz := s.heap.size)
  generalize hAe : va_A (yW G S d) s.heap.size = A at hD ⊢
  have hA : ∀ q : Nat, s.heap.size ≤ q → A q := fun q h => by rw [← hAe]; exact Or.inr h
  have hS : va_S A s.heap s.heap [] := va_S.rf
  have hg0 : yAg S [1] d d := yAg.rf
  have hl : lv_has ls 2 [(0, .ref h0), (1, .int p0)] := hl
  refine lv_aload_n hx hb dX1_begin_0 rfl (lv_at hl 0 rfl) ?_
  refine lv_iload_n hx hb dX1_begin_1 rfl (lv_at hl 1 rfl) ?_
  refine yputI (ci := 1) (k := 3) (ty := .int) (C := RX1) (T := TX1) (N := 4) C0 hK hP hD hS hm_h0 hk_h0 (by decide) rfl inlX1 tyX1 tyX1_ok nmX1 (by decide) mW69 (fun _ h9 => h9) rfl (by decide +kernel) rfl rfl (Nat.le_of_ble_eq_true rfl) ysi_1_3 dX1_begin_2 (fun H locs hP hD hS => ?_)
  obtain ⟨d_1, ed_1⟩ : ∃ z : yD, z = yi d h0 3 p0 := ⟨_, rfl⟩
  rw [← ed_1] at hP hD
  have hgd_1 : yAg S [1] d d_1 := by rw [ed_1]; exact yAg.i hg0 (by rw [hk_h0]; decide)
  have hsd_1 : yAg S [1] d d_1 := by rw [ed_1]; exact yAg.i yAg.rf (by rw [hk_h0]; decide)
  have hPod_1 : yPo S d_1 := by rw [ed_1]; exact yPo.i hPo hk_h0 (Or.inl rfl)
  refine lv_aload_n hx hb dX1_begin_5 rfl (lv_at hl 0 rfl) ?_
  refine lv_iconst (v := 0) hx hb dX1_begin_6 (by decide) ?_
  refine yputI (ci := 1) (k := 2) (ty := .int) (C := RX1) (T := TX1) (N := 4) C0 hK hP hD hS hm_h0 hk_h0 (by decide) rfl inlX1 tyX1 tyX1_ok nmX1 (by decide) mW1033 (fun _ h9 => h9) rfl (by decide +kernel) rfl rfl (Nat.le_of_ble_eq_true rfl) ysi_1_2 dX1_begin_7 (fun H locs hP hD hS => ?_)
  obtain ⟨d_2, ed_2⟩ : ∃ z : yD, z = yi d_1 h0 2 0 := ⟨_, rfl⟩
  rw [← ed_2] at hP hD
  have hgd_2 : yAg S [1] d d_2 := by rw [ed_2]; exact yAg.i hgd_1 (by rw [hk_h0]; decide)
  have hsd_2 : yAg S [1] d_1 d_2 := by rw [ed_2]; exact yAg.i yAg.rf (by rw [hk_h0]; decide)
  have hPod_2 : yPo S d_2 := by rw [ed_2]; exact yPo.i hPod_1 hk_h0 (Or.inl rfl)
  exact W.vret hx hb hr (fun t ht hW => ⟨⟨d_2, rfl, ⟨hgd_2, (fun _ => hPod_2), ⟨(((show d_2.1 h0 3 = d_1.1 h0 3 by rw [ed_2]; exact yi_ne (by decide))).trans (show d_1.1 h0 3 = p0 by rw [ed_1]; exact yi_self)), ((rfl).trans (show d_2.1 h0 2 = 0 by rw [ed_2]; exact yi_self)), fun a ha hn => (o2 (show d_1.1 a = d.1 a ∧ d_1.2.1 a = d.2.1 a by rw [ed_1]; exact yi_o hn) (show d_2.1 a = d_1.1 a ∧ d_2.2.1 a = d_1.2.1 a by rw [ed_2]; exact yi_o hn))⟩⟩, by rw [ht]; exact hP, hD⟩, hS.F ht⟩) hS.2.2 dX1_begin_10
theorem dX1_add_0 : decode cX1_add 0 = .ok (.aload_n 0, 1) := by decide +kernel
theorem dX1_add_1 : decode cX1_add 1 = .ok (.getfield 9, 3) := by decide +kernel
theorem dX1_add_4 : decode cX1_add 4 = .ok (.aload_n 0, 1) := by decide +kernel
theorem dX1_add_5 : decode cX1_add 5 = .ok (.getfield 22, 3) := by decide +kernel
theorem dX1_add_8 : decode cX1_add 8 = .ok (.iload_n 1, 1) := by decide +kernel
theorem dX1_add_9 : decode cX1_add 9 = .ok (.invokestatic 25, 3) := by decide +kernel
theorem dX1_add_12 : decode cX1_add 12 = .ok (.aload_n 0, 1) := by decide +kernel
theorem dX1_add_13 : decode cX1_add 13 = .ok (.getfield 15, 3) := by decide +kernel
theorem dX1_add_16 : decode cX1_add 16 = .ok (.aload_n 0, 1) := by decide +kernel
theorem dX1_add_17 : decode cX1_add 17 = .ok (.getfield 22, 3) := by decide +kernel
theorem dX1_add_20 : decode cX1_add 20 = .ok (.iload_n 2, 1) := by decide +kernel
theorem dX1_add_21 : decode cX1_add 21 = .ok (.invokestatic 25, 3) := by decide +kernel
theorem dX1_add_24 : decode cX1_add 24 = .ok (.aload_n 0, 1) := by decide +kernel
theorem dX1_add_25 : decode cX1_add 25 = .ok (.dup, 1) := by decide +kernel
theorem dX1_add_26 : decode cX1_add 26 = .ok (.getfield 22, 3) := by decide +kernel
theorem dX1_add_29 : decode cX1_add 29 = .ok (.iconst 1, 1) := by decide +kernel
theorem dX1_add_30 : decode cX1_add 30 = .ok (.iadd, 1) := by decide +kernel
theorem dX1_add_31 : decode cX1_add 31 = .ok (.putfield 22, 3) := by decide +kernel
theorem dX1_add_34 : decode cX1_add 34 = .ok (.return_, 1) := by decide +kernel
set_option maxHeartbeats 4000000 in
set_option maxRecDepth 100000 in
theorem g_X1_add (l : Launch) (G : xG) (S : yS) (d : yD) (h0 : Nat) (p0 : Int32) (p1 : Int32) (hSh : ySh S) (hPo : yPo S d) (hm_h0 : h0 ∈ S.1) (hk_h0 : S.2.1 h0 = 1) : xWv l G yX1_add cX1_add 3 none 1 22 0 0 [.ref h0, .int p0, .int p1] (yW G S d) (fun u : yD => yAg S [1, 18, 19] d u ∧ (yPo S d → yPo S u) ∧ (u.1 h0 2 = d.1 h0 2 + 1 ∧ u.1 h0 3 = d.1 h0 3 ∧ ∀ a, S.2.1 a = 1 → a ≠ h0 → u.1 a = d.1 a ∧ u.2.1 a = d.2.1 a)) (fun u => yW G S u) := by
  intro sz
  refine xstart (by decide) (Nat.le_of_ble_eq_true rfl) (fun p e s m args below meth c ls C0 hr hlocks hin hsz hP hK hD hN hl => ?_)
  obtain ⟨hx, hb, hml, hown, htl⟩ := id C0
  subst hsz
  have hD := hD.self (sz := s.heap.size)
  generalize hAe : va_A (yW G S d) s.heap.size = A at hD ⊢
  have hA : ∀ q : Nat, s.heap.size ≤ q → A q := fun q h => by rw [← hAe]; exact Or.inr h
  have hS : va_S A s.heap s.heap [] := va_S.rf
  have hg0 : yAg S [1, 18, 19] d d := yAg.rf
  have hl : lv_has ls 3 [(0, .ref h0), (1, .int p0), (2, .int p1)] := hl
  refine lv_aload_n hx hb dX1_add_0 rfl (lv_at hl 0 rfl) ?_
  refine yget (ci := 1) (k := 0) (v := .ref (S.2.2.1 h0 0)) (C := RX1) (T := TX1) (N := 4) C0 hK hP hm_h0 hk_h0 (by decide) rfl inlX1 (by decide) mW67 (fun _ h9 => h9) rfl dX1_add_1 ?_
  obtain ⟨hmy_1, hky_1⟩ := ySh.f1_0 hSh _ hm_h0 hk_h0
  refine lv_aload_n hx hb dX1_add_4 rfl (lv_at hl 0 rfl) ?_
  refine yget (ci := 1) (k := 2) (v := .int (d.1 h0 2)) (C := RX1) (T := TX1) (N := 4) C0 hK hP hm_h0 hk_h0 (by decide) rfl inlX1 (by decide) mW1033 (fun _ h9 => h9) rfl dX1_add_5 ?_
  refine lv_topi (fun z_2 ez_2 => ?_)
  refine lv_iload_n hx hb dX1_add_8 rfl (lv_at hl 1 rfl) ?_
  refine ySNwv (As := [.ref (S.2.2.1 h0 0), .int z_2, .int p0]) (rest := []) C0 (g_X8_put l G S d (S.2.2.1 h0 0) 18 z_2 p0 hPo hmy_1 hky_1 (by decide) rfl rfl (by decide)) ok_X8_put (xN.n15 hN) ⟨Nat.le_of_ble_eq_true rfl, Nat.le_of_ble_eq_true rfl⟩ hP hD hS hA hK hN rfl hl.1 rfl (Nat.le_of_ble_eq_true rfl) ⟨Nat.le_of_ble_eq_true rfl, Nat.le_of_ble_eq_true rfl⟩ dX1_add_9 (fun d_4 H locs hr_3 hP hD hS => ?_)
  obtain ⟨hgad_4, hpad_4, hxd_4⟩ := hr_3
  have hgd_4 : yAg S [1, 18, 19] d d_4 := yAg.tr hg0 hgad_4 (by first | decide | exact fun _ h => h)
  have hPod_4 : yPo S d_4 := hpad_4 hPo
  refine lv_aload_n hx hb dX1_add_12 rfl (lv_at hl 0 rfl) ?_
  refine yget (ci := 1) (k := 1) (v := .ref (S.2.2.1 h0 1)) (C := RX1) (T := TX1) (N := 4) C0 hK hP hm_h0 hk_h0 (by decide) rfl inlX1 (by decide) mW68 (fun _ h9 => h9) rfl dX1_add_13 ?_
  obtain ⟨hmy_5, hky_5⟩ := ySh.f1_1 hSh _ hm_h0 hk_h0
  refine lv_aload_n hx hb dX1_add_16 rfl (lv_at hl 0 rfl) ?_
  refine yget (ci := 1) (k := 2) (v := .int (d_4.1 h0 2)) (C := RX1) (T := TX1) (N := 4) C0 hK hP hm_h0 hk_h0 (by decide) rfl inlX1 (by decide) mW1033 (fun _ h9 => h9) rfl dX1_add_17 ?_
  refine lv_topi (fun z_6 ez_6 => ?_)
  refine lv_iload_n hx hb dX1_add_20 rfl (lv_at hl 2 rfl) ?_
  refine ySNwv (As := [.ref (S.2.2.1 h0 1), .int z_6, .int p1]) (rest := []) C0 (g_X8_put l G S d_4 (S.2.2.1 h0 1) 19 z_6 p1 hPod_4 hmy_5 hky_5 (by decide) rfl rfl (by decide)) ok_X8_put (xN.n15 hN) ⟨Nat.le_of_ble_eq_true rfl, Nat.le_of_ble_eq_true rfl⟩ hP hD hS hA hK hN rfl hl.1 rfl (Nat.le_of_ble_eq_true rfl) ⟨Nat.le_of_ble_eq_true rfl, Nat.le_of_ble_eq_true rfl⟩ dX1_add_21 (fun d_8 H locs hr_7 hP hD hS => ?_)
  obtain ⟨hgad_8, hpad_8, hxd_8⟩ := hr_7
  have hgd_8 : yAg S [1, 18, 19] d d_8 := yAg.tr hgd_4 hgad_8 (by first | decide | exact fun _ h => h)
  have hPod_8 : yPo S d_8 := hpad_8 hPod_4
  refine lv_aload_n hx hb dX1_add_24 rfl (lv_at hl 0 rfl) ?_
  refine lv_dup hx hb dX1_add_25 rfl ?_
  refine yget (ci := 1) (k := 2) (v := .int (d_8.1 h0 2)) (C := RX1) (T := TX1) (N := 4) C0 hK hP hm_h0 hk_h0 (by decide) rfl inlX1 (by decide) mW1033 (fun _ h9 => h9) rfl dX1_add_26 ?_
  refine lv_topi (fun z_9 ez_9 => ?_)
  refine lv_iconst (v := 1) hx hb dX1_add_29 (by decide) ?_
  refine lv_iadd hx hb dX1_add_30 ?_
  refine lv_topi (fun z_10 ez_10 => ?_)
  refine yputI (ci := 1) (k := 2) (ty := .int) (C := RX1) (T := TX1) (N := 4) C0 hK hP hD hS hm_h0 hk_h0 (by decide) rfl inlX1 tyX1 tyX1_ok nmX1 (by decide) mW1033 (fun _ h9 => h9) rfl (by decide +kernel) rfl rfl (Nat.le_of_ble_eq_true rfl) ysi_1_2 dX1_add_31 (fun H locs hP hD hS => ?_)
  obtain ⟨d_11, ed_11⟩ : ∃ z : yD, z = yi d_8 h0 2 z_10 := ⟨_, rfl⟩
  rw [← ed_11] at hP hD
  have hgd_11 : yAg S [1, 18, 19] d d_11 := by rw [ed_11]; exact yAg.i hgd_8 (by rw [hk_h0]; decide)
  have hsd_11 : yAg S [1] d_8 d_11 := by rw [ed_11]; exact yAg.i yAg.rf (by rw [hk_h0]; decide)
  have hPod_11 : yPo S d_11 := by rw [ed_11]; exact yPo.i hPod_8 hk_h0 (Or.inl rfl)
  exact W.vret hx hb hr (fun t ht hW => ⟨⟨d_11, rfl, ⟨hgd_11, (fun _ => hPod_11), ⟨((rfl).trans (show d_11.1 h0 2 = z_10 by rw [ed_11]; exact yi_self)).trans (by rw [ez_10, ez_9, (((congrFun (hgad_8 h0 (by rw [hk_h0]; decide)).1 2)).trans (congrFun (hgad_4 h0 (by rw [hk_h0]; decide)).1 2))]), (((show d_11.1 h0 3 = d_8.1 h0 3 by rw [ed_11]; exact yi_ne (by decide))).trans (((congrFun (hgad_8 h0 (by rw [hk_h0]; decide)).1 3)).trans (congrFun (hgad_4 h0 (by rw [hk_h0]; decide)).1 3))), fun a ha hn => (o2 (o2 (yAg.o hgad_4 (by rw [ha]; decide)) (yAg.o hgad_8 (by rw [ha]; decide))) (show d_11.1 a = d_8.1 a ∧ d_11.2.1 a = d_8.2.1 a by rw [ed_11]; exact yi_o hn))⟩⟩, by rw [ht]; exact hP, hD⟩, hS.F ht⟩) hS.2.2 dX1_add_34
theorem dX1_take_0 : decode cX1_take 0 = .ok (.aload_n 0, 1) := by decide +kernel
theorem dX1_take_1 : decode cX1_take 1 = .ok (.aload_n 1, 1) := by decide +kernel
theorem dX1_take_2 : decode cX1_take 2 = .ok (.getfield 22, 3) := by decide +kernel
theorem dX1_take_5 : decode cX1_take 5 = .ok (.putfield 22, 3) := by decide +kernel
theorem dX1_take_8 : decode cX1_take 8 = .ok (.aload_n 0, 1) := by decide +kernel
theorem dX1_take_9 : decode cX1_take 9 = .ok (.aload_n 1, 1) := by decide +kernel
theorem dX1_take_10 : decode cX1_take 10 = .ok (.getfield 18, 3) := by decide +kernel
theorem dX1_take_13 : decode cX1_take 13 = .ok (.putfield 18, 3) := by decide +kernel
theorem dX1_take_16 : decode cX1_take 16 = .ok (.aload_n 0, 1) := by decide +kernel
theorem dX1_take_17 : decode cX1_take 17 = .ok (.getfield 9, 3) := by decide +kernel
theorem dX1_take_20 : decode cX1_take 20 = .ok (.aload_n 1, 1) := by decide +kernel
theorem dX1_take_21 : decode cX1_take 21 = .ok (.getfield 9, 3) := by decide +kernel
theorem dX1_take_24 : decode cX1_take 24 = .ok (.invokestatic 29, 3) := by decide +kernel
theorem dX1_take_27 : decode cX1_take 27 = .ok (.aload_n 0, 1) := by decide +kernel
theorem dX1_take_28 : decode cX1_take 28 = .ok (.getfield 15, 3) := by decide +kernel
theorem dX1_take_31 : decode cX1_take 31 = .ok (.aload_n 1, 1) := by decide +kernel
theorem dX1_take_32 : decode cX1_take 32 = .ok (.getfield 15, 3) := by decide +kernel
theorem dX1_take_35 : decode cX1_take 35 = .ok (.invokestatic 29, 3) := by decide +kernel
theorem dX1_take_38 : decode cX1_take 38 = .ok (.return_, 1) := by decide +kernel
set_option maxHeartbeats 4000000 in
set_option maxRecDepth 100000 in
theorem g_X1_take (l : Launch) (G : xG) (S : yS) (d : yD) (h0 : Nat) (h1 : Nat) (hSh : ySh S) (hPo : yPo S d) (hm_h0 : h0 ∈ S.1) (hk_h0 : S.2.1 h0 = 1) (hm_h1 : h1 ∈ S.1) (hk_h1 : S.2.1 h1 = 1) (hne : h1 ≠ h0) : xWv l G yX1_take cX1_take 2 none 3 63 0 0 [.ref h0, .ref h1] (yW G S d) (fun u : yD => yAg S [1, 18, 19] d u ∧ (yPo S d → yPo S u) ∧ (u.1 h0 2 = d.1 h1 2 ∧ u.1 h0 3 = d.1 h1 3 ∧ ∀ a, S.2.1 a = 1 → a ≠ h0 → u.1 a = d.1 a ∧ u.2.1 a = d.2.1 a)) (fun u => yW G S u) := by
  intro sz
  refine xstart (by decide) (Nat.le_of_ble_eq_true rfl) (fun p e s m args below meth c ls C0 hr hlocks hin hsz hP hK hD hN hl => ?_)
  obtain ⟨hx, hb, hml, hown, htl⟩ := id C0
  subst hsz
  have hD := hD.self (sz := s.heap.size)
  generalize hAe : va_A (yW G S d) s.heap.size = A at hD ⊢
  have hA : ∀ q : Nat, s.heap.size ≤ q → A q := fun q h => by rw [← hAe]; exact Or.inr h
  have hS : va_S A s.heap s.heap [] := va_S.rf
  have hg0 : yAg S [1, 18, 19] d d := yAg.rf
  have hl : lv_has ls 2 [(0, .ref h0), (1, .ref h1)] := hl
  refine lv_aload_n hx hb dX1_take_0 rfl (lv_at hl 0 rfl) ?_
  refine lv_aload_n hx hb dX1_take_1 rfl (lv_at hl 1 rfl) ?_
  refine yget (ci := 1) (k := 2) (v := .int (d.1 h1 2)) (C := RX1) (T := TX1) (N := 4) C0 hK hP hm_h1 hk_h1 (by decide) rfl inlX1 (by decide) mW1033 (fun _ h9 => h9) rfl dX1_take_2 ?_
  refine lv_topi (fun z_1 ez_1 => ?_)
  refine yputI (ci := 1) (k := 2) (ty := .int) (C := RX1) (T := TX1) (N := 4) C0 hK hP hD hS hm_h0 hk_h0 (by decide) rfl inlX1 tyX1 tyX1_ok nmX1 (by decide) mW1033 (fun _ h9 => h9) rfl (by decide +kernel) rfl rfl (Nat.le_of_ble_eq_true rfl) ysi_1_2 dX1_take_5 (fun H locs hP hD hS => ?_)
  obtain ⟨d_2, ed_2⟩ : ∃ z : yD, z = yi d h0 2 z_1 := ⟨_, rfl⟩
  rw [← ed_2] at hP hD
  have hgd_2 : yAg S [1, 18, 19] d d_2 := by rw [ed_2]; exact yAg.i hg0 (by rw [hk_h0]; decide)
  have hsd_2 : yAg S [1] d d_2 := by rw [ed_2]; exact yAg.i yAg.rf (by rw [hk_h0]; decide)
  have hPod_2 : yPo S d_2 := by rw [ed_2]; exact yPo.i hPo hk_h0 (Or.inl rfl)
  refine lv_aload_n hx hb dX1_take_8 rfl (lv_at hl 0 rfl) ?_
  refine lv_aload_n hx hb dX1_take_9 rfl (lv_at hl 1 rfl) ?_
  refine yget (ci := 1) (k := 3) (v := .int (d_2.1 h1 3)) (C := RX1) (T := TX1) (N := 4) C0 hK hP hm_h1 hk_h1 (by decide) rfl inlX1 (by decide) mW69 (fun _ h9 => h9) rfl dX1_take_10 ?_
  refine lv_topi (fun z_3 ez_3 => ?_)
  refine yputI (ci := 1) (k := 3) (ty := .int) (C := RX1) (T := TX1) (N := 4) C0 hK hP hD hS hm_h0 hk_h0 (by decide) rfl inlX1 tyX1 tyX1_ok nmX1 (by decide) mW69 (fun _ h9 => h9) rfl (by decide +kernel) rfl rfl (Nat.le_of_ble_eq_true rfl) ysi_1_3 dX1_take_13 (fun H locs hP hD hS => ?_)
  obtain ⟨d_4, ed_4⟩ : ∃ z : yD, z = yi d_2 h0 3 z_3 := ⟨_, rfl⟩
  rw [← ed_4] at hP hD
  have hgd_4 : yAg S [1, 18, 19] d d_4 := by rw [ed_4]; exact yAg.i hgd_2 (by rw [hk_h0]; decide)
  have hsd_4 : yAg S [1] d_2 d_4 := by rw [ed_4]; exact yAg.i yAg.rf (by rw [hk_h0]; decide)
  have hPod_4 : yPo S d_4 := by rw [ed_4]; exact yPo.i hPod_2 hk_h0 (Or.inl rfl)
  refine lv_aload_n hx hb dX1_take_16 rfl (lv_at hl 0 rfl) ?_
  refine yget (ci := 1) (k := 0) (v := .ref (S.2.2.1 h0 0)) (C := RX1) (T := TX1) (N := 4) C0 hK hP hm_h0 hk_h0 (by decide) rfl inlX1 (by decide) mW67 (fun _ h9 => h9) rfl dX1_take_17 ?_
  obtain ⟨hmy_5, hky_5⟩ := ySh.f1_0 hSh _ hm_h0 hk_h0
  refine lv_aload_n hx hb dX1_take_20 rfl (lv_at hl 1 rfl) ?_
  refine yget (ci := 1) (k := 0) (v := .ref (S.2.2.1 h1 0)) (C := RX1) (T := TX1) (N := 4) C0 hK hP hm_h1 hk_h1 (by decide) rfl inlX1 (by decide) mW67 (fun _ h9 => h9) rfl dX1_take_21 ?_
  obtain ⟨hmy_6, hky_6⟩ := ySh.f1_0 hSh _ hm_h1 hk_h1
  refine ySNwv (As := [.ref (S.2.2.1 h0 0), .ref (S.2.2.1 h1 0)]) (rest := []) C0 (g_X8_copyAll l G S d_4 (S.2.2.1 h0 0) 18 (S.2.2.1 h1 0) 18 hPod_4 hmy_5 hky_5 hmy_6 hky_6 (by decide) rfl rfl (by decide) (by decide) rfl rfl (by decide) (by decide) (by decide)) ok_X8_copyAll (xN.n18 hN) ⟨Nat.le_of_ble_eq_true rfl, Nat.le_of_ble_eq_true rfl⟩ hP hD hS hA hK hN rfl hl.1 rfl (Nat.le_of_ble_eq_true rfl) ⟨Nat.le_of_ble_eq_true rfl, Nat.le_of_ble_eq_true rfl⟩ dX1_take_24 (fun d_8 H locs hr_7 hP hD hS => ?_)
  obtain ⟨hgad_8, hpad_8, hxd_8⟩ := hr_7
  have hgd_8 : yAg S [1, 18, 19] d d_8 := yAg.tr hgd_4 hgad_8 (by first | decide | exact fun _ h => h)
  have hPod_8 : yPo S d_8 := hpad_8 hPod_4
  refine lv_aload_n hx hb dX1_take_27 rfl (lv_at hl 0 rfl) ?_
  refine yget (ci := 1) (k := 1) (v := .ref (S.2.2.1 h0 1)) (C := RX1) (T := TX1) (N := 4) C0 hK hP hm_h0 hk_h0 (by decide) rfl inlX1 (by decide) mW68 (fun _ h9 => h9) rfl dX1_take_28 ?_
  obtain ⟨hmy_9, hky_9⟩ := ySh.f1_1 hSh _ hm_h0 hk_h0
  refine lv_aload_n hx hb dX1_take_31 rfl (lv_at hl 1 rfl) ?_
  refine yget (ci := 1) (k := 1) (v := .ref (S.2.2.1 h1 1)) (C := RX1) (T := TX1) (N := 4) C0 hK hP hm_h1 hk_h1 (by decide) rfl inlX1 (by decide) mW68 (fun _ h9 => h9) rfl dX1_take_32 ?_
  obtain ⟨hmy_10, hky_10⟩ := ySh.f1_1 hSh _ hm_h1 hk_h1
  refine ySNwv (As := [.ref (S.2.2.1 h0 1), .ref (S.2.2.1 h1 1)]) (rest := []) C0 (g_X8_copyAll l G S d_8 (S.2.2.1 h0 1) 19 (S.2.2.1 h1 1) 19 hPod_8 hmy_9 hky_9 hmy_10 hky_10 (by decide) rfl rfl (by decide) (by decide) rfl rfl (by decide) (by decide) (by decide)) ok_X8_copyAll (xN.n18 hN) ⟨Nat.le_of_ble_eq_true rfl, Nat.le_of_ble_eq_true rfl⟩ hP hD hS hA hK hN rfl hl.1 rfl (Nat.le_of_ble_eq_true rfl) ⟨Nat.le_of_ble_eq_true rfl, Nat.le_of_ble_eq_true rfl⟩ dX1_take_35 (fun d_12 H locs hr_11 hP hD hS => ?_)
  obtain ⟨hgad_12, hpad_12, hxd_12⟩ := hr_11
  have hgd_12 : yAg S [1, 18, 19] d d_12 := yAg.tr hgd_8 hgad_12 (by first | decide | exact fun _ h => h)
  have hPod_12 : yPo S d_12 := hpad_12 hPod_8
  exact W.vret hx hb hr (fun t ht hW => ⟨⟨d_12, rfl, ⟨hgd_12, (fun _ => hPod_12), ⟨((((((congrFun (hgad_12 h0 (by rw [hk_h0]; decide)).1 2)).trans (((congrFun (hgad_8 h0 (by rw [hk_h0]; decide)).1 2)).trans (show d_4.1 h0 2 = d_2.1 h0 2 by rw [ed_4]; exact yi_ne (by decide))))).trans (show d_2.1 h0 2 = z_1 by rw [ed_2]; exact yi_self)).trans (ez_1.trans rfl)), ((((((congrFun (hgad_12 h0 (by rw [hk_h0]; decide)).1 3)).trans (congrFun (hgad_8 h0 (by rw [hk_h0]; decide)).1 3))).trans (show d_4.1 h0 3 = z_3 by rw [ed_4]; exact yi_self)).trans (ez_3.trans (congrFun (show d_2.1 h1 = d.1 h1 by rw [ed_2]; exact (yi_o hne).1) 3))), fun a ha hn => (o2 (o2 (o2 (show d_2.1 a = d.1 a ∧ d_2.2.1 a = d.2.1 a by rw [ed_2]; exact yi_o hn) (show d_4.1 a = d_2.1 a ∧ d_4.2.1 a = d_2.2.1 a by rw [ed_4]; exact yi_o hn)) (yAg.o hgad_8 (by rw [ha]; decide))) (yAg.o hgad_12 (by rw [ha]; decide)))⟩⟩, by rw [ht]; exact hP, hD⟩, hS.F ht⟩) hS.2.2 dX1_take_38
theorem dJ7_fill_53178_0 : decode cJ7_fill_53178 0 = .ok (.iconst 0, 1) := by decide +kernel
theorem dJ7_fill_53178_1 : decode cJ7_fill_53178 1 = .ok (.istore_n 2, 1) := by decide +kernel
theorem dJ7_fill_53178_2 : decode cJ7_fill_53178 2 = .ok (.aload_n 0, 1) := by decide +kernel
theorem dJ7_fill_53178_3 : decode cJ7_fill_53178 3 = .ok (.arraylength, 1) := by decide +kernel
theorem dJ7_fill_53178_4 : decode cJ7_fill_53178 4 = .ok (.istore_n 3, 1) := by decide +kernel
theorem dJ7_fill_53178_5 : decode cJ7_fill_53178 5 = .ok (.iload_n 2, 1) := by decide +kernel
theorem dJ7_fill_53178_6 : decode cJ7_fill_53178 6 = .ok (.iload_n 3, 1) := by decide +kernel
theorem dJ7_fill_53178_7 : decode cJ7_fill_53178 7 = .ok (.if_icmp .ge 13, 3) := by decide +kernel
theorem dJ7_fill_53178_10 : decode cJ7_fill_53178 10 = .ok (.aload_n 0, 1) := by decide +kernel
theorem dJ7_fill_53178_11 : decode cJ7_fill_53178 11 = .ok (.iload_n 2, 1) := by decide +kernel
theorem dJ7_fill_53178_12 : decode cJ7_fill_53178 12 = .ok (.iload_n 1, 1) := by decide +kernel
theorem dJ7_fill_53178_13 : decode cJ7_fill_53178 13 = .ok (.iastore, 1) := by decide +kernel
theorem dJ7_fill_53178_14 : decode cJ7_fill_53178 14 = .ok (.iinc 2 1, 3) := by decide +kernel
theorem dJ7_fill_53178_17 : decode cJ7_fill_53178 17 = .ok (.goto (-12), 3) := by decide +kernel
theorem dJ7_fill_53178_20 : decode cJ7_fill_53178 20 = .ok (.return_, 1) := by decide +kernel
set_option maxHeartbeats 4000000 in
set_option maxRecDepth 100000 in
theorem g_J7_fill_53178 (l : Launch) (G : xG) (S : yS) (d : yD) (a0 : Nat) (c0 : Nat) (p0 : Int32) (hPo : yPo S d) (hm_a0 : a0 ∈ S.1) (hk_a0 : S.2.1 a0 = c0) (hc_c0 : ¬ c0 < 10) (h0_c0 : ykd c0 = 0) (ht_c0 : yti c0 = 0) (hn_c0 : yln c0 < 2 ^ 31) : xWv l G yJ7_fill_53178 cJ7_fill_53178 4 none 0 0 0 0 [.ref a0, .int p0] (yW G S d) (fun u : yD => yAg S [c0] d u ∧ (yPo S d → yPo S u) ∧ (True)) (fun u => yW G S u) := by
  intro sz
  refine xstart (by decide) (Nat.le_of_ble_eq_true rfl) (fun p e s m args below meth c ls C0 hr hlocks hin hsz hP hK hD hN hl => ?_)
  obtain ⟨hx, hb, hml, hown, htl⟩ := id C0
  subst hsz
  have hD := hD.self (sz := s.heap.size)
  generalize hAe : va_A (yW G S d) s.heap.size = A at hD ⊢
  have hA : ∀ q : Nat, s.heap.size ≤ q → A q := fun q h => by rw [← hAe]; exact Or.inr h
  have hS : va_S A s.heap s.heap [] := va_S.rf
  have hg0 : yAg S [c0] d d := yAg.rf
  have hl : lv_has ls 4 [(0, .ref a0), (1, .int p0)] := hl
  refine lv_iconst (v := 0) hx hb dJ7_fill_53178_0 (by decide) ?_
  refine lv_istore_n (lv' := [(2, .int 0), (0, .ref a0), (1, .int p0)]) hx hb dJ7_fill_53178_1 rfl hl (by decide) rfl (fun ls hl => ?_)
  refine lv_aload_n hx hb dJ7_fill_53178_2 rfl (lv_at hl 1 rfl) ?_
  refine ylen (v := nI (yln c0)) (ty := .int) C0 hK hP hm_a0 hk_a0 hc_c0 0 (by show some _ = some _; rw [ht_c0]) rfl dJ7_fill_53178_3 ?_
  refine lv_istore_n (lv' := [(3, .int (nI (yln c0))), (2, .int 0), (0, .ref a0), (1, .int p0)]) hx hb dJ7_fill_53178_4 rfl hl (by decide) rfl (fun ls hl => ?_)
  refine yloop (σ := Int32 × yD) (fun x => (2147483647 - (x.1 : Int32).toInt).toNat) 5 (fun x H locs ls => va_P G.1 xcl (yW G S x.2) H ∧ va_D A (yW G S x.2) ∧ va_S A s.heap H locs ∧ yAg S [c0] d x.2 ∧ yPo S x.2 ∧ ¬ x.1 < 0 ∧ lv_has ls 4 [(3, .int (nI (yln c0))), (2, .int x.1), (0, .ref a0), (1, .int p0)]) (fun x H locs ls hI hnext_3 => ?_) (0, d) ⟨hP, hD, hS, hg0, hPo, (show ¬ (0 : Int32) < 0 by decide), lv_sub hl [0, 1, 2, 3] rfl⟩
  obtain ⟨v_1, d_2⟩ := x
  obtain ⟨hP, hD, hS, hgd_2, hPod_2, hex_4, hl⟩ := hI
  have hex_4 : ¬ v_1 < 0 := hex_4
  have hl : lv_has ls 4 [(3, .int (nI (yln c0))), (2, .int v_1), (0, .ref a0), (1, .int p0)] := hl
  refine lv_iload_n hx hb dJ7_fill_53178_5 rfl (lv_at hl 1 rfl) ?_
  refine lv_iload_n hx hb dJ7_fill_53178_6 rfl (lv_at hl 0 rfl) ?_
  refine lv_icmp_ge (tgt := 20) hx hb dJ7_fill_53178_7 (by decide) (fun c_5 => ?_) (fun c_5 => ?_)
  · exact W.vret hx hb hr (fun t ht hW => ⟨⟨d_2, rfl, ⟨hgd_2, (fun _ => hPod_2), trivial⟩, by rw [ht]; exact hP, hD⟩, hS.F ht⟩) hS.2.2 dJ7_fill_53178_20
  · refine lv_aload_n hx hb dJ7_fill_53178_10 rfl (lv_at hl 2 rfl) ?_
    refine lv_iload_n hx hb dJ7_fill_53178_11 rfl (lv_at hl 1 rfl) ?_
    refine lv_iload_n hx hb dJ7_fill_53178_12 rfl (lv_at hl 3 rfl) ?_
    refine yast C0 hK hP hD hS hm_a0 hk_a0 hc_c0 h0_c0 0 (by show some _ = some _; rw [ht_c0]) (xin hex_4 c_5 hn_c0) dJ7_fill_53178_13 (fun H locs hP hD hS => ?_)
    obtain ⟨d_6, ed_6⟩ : ∃ z : yD, z = ycs d_2 a0 (upd (d_2.2.2.2.1 a0) (v_1 : Int32).toNatClampNeg p0) := ⟨_, rfl⟩
    rw [← ed_6] at hP hD
    have hgd_6 : yAg S [c0] d d_6 := by rw [ed_6]; exact yAg.cs hgd_2 (by rw [hk_a0]; simp)
    have hPod_6 : yPo S d_6 := by rw [ed_6]; exact hPod_2
    refine lv_iinc (v := v_1 + 1) (lv' := [(2, .int (v_1 + 1)), (3, .int (nI (yln c0))), (0, .ref a0), (1, .int p0)]) hx hb dJ7_fill_53178_14 hl (k := 1) rfl rfl (by decide) rfl (fun ls hl => ?_)
    refine lv_goto (tgt := 5) hx hb dJ7_fill_53178_17 (by decide) ?_
    exact hnext_3 (v_1 + 1, d_6) _ _ ls (xup c_5) ⟨hP, hD, hS, hgd_6, hPod_6, xinc0 hex_4 c_5, lv_sub hl [1, 0, 2, 3] rfl⟩
theorem dX4_open_0 : decode cX4_open 0 = .ok (.aload_n 0, 1) := by decide +kernel
theorem dX4_open_1 : decode cX4_open 1 = .ok (.getfield 9, 3) := by decide +kernel
theorem dX4_open_4 : decode cX4_open 4 = .ok (.sipush 1440, 3) := by decide +kernel
theorem dX4_open_7 : decode cX4_open 7 = .ok (.invokestatic 18, 3) := by decide +kernel
theorem dX4_open_10 : decode cX4_open 10 = .ok (.aload_n 0, 1) := by decide +kernel
theorem dX4_open_11 : decode cX4_open 11 = .ok (.getfield 15, 3) := by decide +kernel
theorem dX4_open_14 : decode cX4_open 14 = .ok (.iconst 0, 1) := by decide +kernel
theorem dX4_open_15 : decode cX4_open 15 = .ok (.invokestatic 18, 3) := by decide +kernel
theorem dX4_open_18 : decode cX4_open 18 = .ok (.aload_n 0, 1) := by decide +kernel
theorem dX4_open_19 : decode cX4_open 19 = .ok (.iload_n 2, 1) := by decide +kernel
theorem dX4_open_20 : decode cX4_open 20 = .ok (.putfield 24, 3) := by decide +kernel
theorem dX4_open_23 : decode cX4_open 23 = .ok (.aload_n 0, 1) := by decide +kernel
theorem dX4_open_24 : decode cX4_open 24 = .ok (.iload_n 1, 1) := by decide +kernel
theorem dX4_open_25 : decode cX4_open 25 = .ok (.putfield 28, 3) := by decide +kernel
theorem dX4_open_28 : decode cX4_open 28 = .ok (.aload_n 0, 1) := by decide +kernel
theorem dX4_open_29 : decode cX4_open 29 = .ok (.iconst 0, 1) := by decide +kernel
theorem dX4_open_30 : decode cX4_open 30 = .ok (.putfield 31, 3) := by decide +kernel
theorem dX4_open_33 : decode cX4_open 33 = .ok (.aload_n 0, 1) := by decide +kernel
theorem dX4_open_34 : decode cX4_open 34 = .ok (.sipush 1440, 3) := by decide +kernel
theorem dX4_open_37 : decode cX4_open 37 = .ok (.putfield 34, 3) := by decide +kernel
theorem dX4_open_40 : decode cX4_open 40 = .ok (.aload_n 0, 1) := by decide +kernel
theorem dX4_open_41 : decode cX4_open 41 = .ok (.iconst 0, 1) := by decide +kernel
theorem dX4_open_42 : decode cX4_open 42 = .ok (.putfield 37, 3) := by decide +kernel
theorem dX4_open_45 : decode cX4_open 45 = .ok (.aload_n 0, 1) := by decide +kernel
theorem dX4_open_46 : decode cX4_open 46 = .ok (.iconst 0, 1) := by decide +kernel
theorem dX4_open_47 : decode cX4_open 47 = .ok (.putfield 40, 3) := by decide +kernel
theorem dX4_open_50 : decode cX4_open 50 = .ok (.aload_n 0, 1) := by decide +kernel
theorem dX4_open_51 : decode cX4_open 51 = .ok (.lconst 0, 1) := by decide +kernel
theorem dX4_open_52 : decode cX4_open 52 = .ok (.putfield 43, 3) := by decide +kernel
theorem dX4_open_55 : decode cX4_open 55 = .ok (.aload_n 0, 1) := by decide +kernel
theorem dX4_open_56 : decode cX4_open 56 = .ok (.lconst 0, 1) := by decide +kernel
theorem dX4_open_57 : decode cX4_open 57 = .ok (.putfield 47, 3) := by decide +kernel
theorem dX4_open_60 : decode cX4_open 60 = .ok (.aload_n 0, 1) := by decide +kernel
theorem dX4_open_61 : decode cX4_open 61 = .ok (.lconst 0, 1) := by decide +kernel
theorem dX4_open_62 : decode cX4_open 62 = .ok (.putfield 50, 3) := by decide +kernel
theorem dX4_open_65 : decode cX4_open 65 = .ok (.return_, 1) := by decide +kernel
set_option maxHeartbeats 4000000 in
set_option maxRecDepth 100000 in
theorem g_X4_open (l : Launch) (G : xG) (S : yS) (d : yD) (h0 : Nat) (p0 : Int32) (p1 : Int32) (hSh : ySh S) (hPo : yPo S d) (hm_h0 : h0 ∈ S.1) (hk_h0 : S.2.1 h0 = 4) : xWv l G yX4_open cX4_open 3 none 1 23 0 0 [.ref h0, .int p0, .int p1] (yW G S d) (fun u : yD => yAg S [4, 20, 21] d u ∧ (yPo S d → yPo S u) ∧ (u.1 h0 2 = p1 ∧ u.1 h0 3 = p0 ∧ u.2.1 h0 8 = 0 ∧ ∀ a, S.2.1 a = 4 → a ≠ h0 → u.1 a = d.1 a ∧ u.2.1 a = d.2.1 a)) (fun u => yW G S u) := by
  intro sz
  refine xstart (by decide) (Nat.le_of_ble_eq_true rfl) (fun p e s m args below meth c ls C0 hr hlocks hin hsz hP hK hD hN hl => ?_)
  obtain ⟨hx, hb, hml, hown, htl⟩ := id C0
  subst hsz
  have hD := hD.self (sz := s.heap.size)
  generalize hAe : va_A (yW G S d) s.heap.size = A at hD ⊢
  have hA : ∀ q : Nat, s.heap.size ≤ q → A q := fun q h => by rw [← hAe]; exact Or.inr h
  have hS : va_S A s.heap s.heap [] := va_S.rf
  have hg0 : yAg S [4, 20, 21] d d := yAg.rf
  have hl : lv_has ls 3 [(0, .ref h0), (1, .int p0), (2, .int p1)] := hl
  refine lv_aload_n hx hb dX4_open_0 rfl (lv_at hl 0 rfl) ?_
  refine yget (ci := 4) (k := 0) (v := .ref (S.2.2.1 h0 0)) (C := RX4) (T := TX4) (N := 11) C0 hK hP hm_h0 hk_h0 (by decide) rfl inlX4 (by decide) mW73 (fun _ h9 => h9) rfl dX4_open_1 ?_
  obtain ⟨hmy_1, hky_1⟩ := ySh.f4_0 hSh _ hm_h0 hk_h0
  refine lv_sipush (v := 1440) hx hb dX4_open_4 (by decide) ?_
  refine ySwv (As := [.ref (S.2.2.1 h0 0), .int 1440]) (rest := []) C0 (g_J7_fill_53178 l G S d (S.2.2.1 h0 0) 20 1440 hPo hmy_1 hky_1 (by decide) rfl rfl (by decide)) ok_J7_fill_53178 (mW354 : Cond.methodLink RX4 18 yJ7_fill_53178 ∈ wsT) ⟨Nat.le_of_ble_eq_true rfl, Nat.le_of_ble_eq_true rfl⟩ hP hD hS hA hK hN rfl hl.1 rfl (Nat.le_of_ble_eq_true rfl) ⟨Nat.le_of_ble_eq_true rfl, Nat.le_of_ble_eq_true rfl⟩ dX4_open_7 (fun d_3 H locs hr_2 hP hD hS => ?_)
  obtain ⟨hgad_3, hpad_3, hxd_3⟩ := hr_2
  have hgd_3 : yAg S [4, 20, 21] d d_3 := yAg.tr hg0 hgad_3 (by first | decide | exact fun _ h => h)
  have hPod_3 : yPo S d_3 := hpad_3 hPo
  refine lv_aload_n hx hb dX4_open_10 rfl (lv_at hl 0 rfl) ?_
  refine yget (ci := 4) (k := 1) (v := .ref (S.2.2.1 h0 1)) (C := RX4) (T := TX4) (N := 11) C0 hK hP hm_h0 hk_h0 (by decide) rfl inlX4 (by decide) mW74 (fun _ h9 => h9) rfl dX4_open_11 ?_
  obtain ⟨hmy_4, hky_4⟩ := ySh.f4_1 hSh _ hm_h0 hk_h0
  refine lv_iconst (v := 0) hx hb dX4_open_14 (by decide) ?_
  refine ySwv (As := [.ref (S.2.2.1 h0 1), .int 0]) (rest := []) C0 (g_J7_fill_53178 l G S d_3 (S.2.2.1 h0 1) 21 0 hPod_3 hmy_4 hky_4 (by decide) rfl rfl (by decide)) ok_J7_fill_53178 (mW354 : Cond.methodLink RX4 18 yJ7_fill_53178 ∈ wsT) ⟨Nat.le_of_ble_eq_true rfl, Nat.le_of_ble_eq_true rfl⟩ hP hD hS hA hK hN rfl hl.1 rfl (Nat.le_of_ble_eq_true rfl) ⟨Nat.le_of_ble_eq_true rfl, Nat.le_of_ble_eq_true rfl⟩ dX4_open_15 (fun d_6 H locs hr_5 hP hD hS => ?_)
  obtain ⟨hgad_6, hpad_6, hxd_6⟩ := hr_5
  have hgd_6 : yAg S [4, 20, 21] d d_6 := yAg.tr hgd_3 hgad_6 (by first | decide | exact fun _ h => h)
  have hPod_6 : yPo S d_6 := hpad_6 hPod_3
  refine lv_aload_n hx hb dX4_open_18 rfl (lv_at hl 0 rfl) ?_
  refine lv_iload_n hx hb dX4_open_19 rfl (lv_at hl 2 rfl) ?_
  refine yputI (ci := 4) (k := 2) (ty := .int) (C := RX4) (T := TX4) (N := 11) C0 hK hP hD hS hm_h0 hk_h0 (by decide) rfl inlX4 tyX4 tyX4_ok nmX4 (by decide) mW345 (fun _ h9 => h9) rfl (by decide +kernel) rfl rfl (Nat.le_of_ble_eq_true rfl) ysi_4_2 dX4_open_20 (fun H locs hP hD hS => ?_)
  obtain ⟨d_7, ed_7⟩ : ∃ z : yD, z = yi d_6 h0 2 p1 := ⟨_, rfl⟩
  rw [← ed_7] at hP hD
  have hgd_7 : yAg S [4, 20, 21] d d_7 := by rw [ed_7]; exact yAg.i hgd_6 (by rw [hk_h0]; decide)
  have hsd_7 : yAg S [4] d_6 d_7 := by rw [ed_7]; exact yAg.i yAg.rf (by rw [hk_h0]; decide)
  have hPod_7 : yPo S d_7 := by rw [ed_7]; exact yPo.i hPod_6 hk_h0 (Or.inl rfl)
  refine lv_aload_n hx hb dX4_open_23 rfl (lv_at hl 0 rfl) ?_
  refine lv_iload_n hx hb dX4_open_24 rfl (lv_at hl 1 rfl) ?_
  refine yputI (ci := 4) (k := 3) (ty := .int) (C := RX4) (T := TX4) (N := 11) C0 hK hP hD hS hm_h0 hk_h0 (by decide) rfl inlX4 tyX4 tyX4_ok nmX4 (by decide) mW346 (fun _ h9 => h9) rfl (by decide +kernel) rfl rfl (Nat.le_of_ble_eq_true rfl) ysi_4_3 dX4_open_25 (fun H locs hP hD hS => ?_)
  obtain ⟨d_8, ed_8⟩ : ∃ z : yD, z = yi d_7 h0 3 p0 := ⟨_, rfl⟩
  rw [← ed_8] at hP hD
  have hgd_8 : yAg S [4, 20, 21] d d_8 := by rw [ed_8]; exact yAg.i hgd_7 (by rw [hk_h0]; decide)
  have hsd_8 : yAg S [4] d_7 d_8 := by rw [ed_8]; exact yAg.i yAg.rf (by rw [hk_h0]; decide)
  have hPod_8 : yPo S d_8 := by rw [ed_8]; exact yPo.i hPod_7 hk_h0 (Or.inl rfl)
  refine lv_aload_n hx hb dX4_open_28 rfl (lv_at hl 0 rfl) ?_
  refine lv_iconst (v := 0) hx hb dX4_open_29 (by decide) ?_
  refine yputI (ci := 4) (k := 4) (ty := .int) (C := RX4) (T := TX4) (N := 11) C0 hK hP hD hS hm_h0 hk_h0 (by decide) rfl inlX4 tyX4 tyX4_ok nmX4 (by decide) mW347 (fun _ h9 => h9) rfl (by decide +kernel) rfl rfl (Nat.le_of_ble_eq_true rfl) ysi_4_4 dX4_open_30 (fun H locs hP hD hS => ?_)
  obtain ⟨d_9, ed_9⟩ : ∃ z : yD, z = yi d_8 h0 4 0 := ⟨_, rfl⟩
  rw [← ed_9] at hP hD
  have hgd_9 : yAg S [4, 20, 21] d d_9 := by rw [ed_9]; exact yAg.i hgd_8 (by rw [hk_h0]; decide)
  have hsd_9 : yAg S [4] d_8 d_9 := by rw [ed_9]; exact yAg.i yAg.rf (by rw [hk_h0]; decide)
  have hPod_9 : yPo S d_9 := by rw [ed_9]; exact yPo.i hPod_8 hk_h0 (Or.inl rfl)
  refine lv_aload_n hx hb dX4_open_33 rfl (lv_at hl 0 rfl) ?_
  refine lv_sipush (v := 1440) hx hb dX4_open_34 (by decide) ?_
  refine yputI (ci := 4) (k := 5) (ty := .int) (C := RX4) (T := TX4) (N := 11) C0 hK hP hD hS hm_h0 hk_h0 (by decide) rfl inlX4 tyX4 tyX4_ok nmX4 (by decide) mW348 (fun _ h9 => h9) rfl (by decide +kernel) rfl rfl (Nat.le_of_ble_eq_true rfl) ysi_4_5 dX4_open_37 (fun H locs hP hD hS => ?_)
  obtain ⟨d_10, ed_10⟩ : ∃ z : yD, z = yi d_9 h0 5 1440 := ⟨_, rfl⟩
  rw [← ed_10] at hP hD
  have hgd_10 : yAg S [4, 20, 21] d d_10 := by rw [ed_10]; exact yAg.i hgd_9 (by rw [hk_h0]; decide)
  have hsd_10 : yAg S [4] d_9 d_10 := by rw [ed_10]; exact yAg.i yAg.rf (by rw [hk_h0]; decide)
  have hPod_10 : yPo S d_10 := by rw [ed_10]; exact yPo.i hPod_9 hk_h0 (Or.inl rfl)
  refine lv_aload_n hx hb dX4_open_40 rfl (lv_at hl 0 rfl) ?_
  refine lv_iconst (v := 0) hx hb dX4_open_41 (by decide) ?_
  refine yputI (ci := 4) (k := 6) (ty := .int) (C := RX4) (T := TX4) (N := 11) C0 hK hP hD hS hm_h0 hk_h0 (by decide) rfl inlX4 tyX4 tyX4_ok nmX4 (by decide) mW349 (fun _ h9 => h9) rfl (by decide +kernel) rfl rfl (Nat.le_of_ble_eq_true rfl) ysi_4_6 dX4_open_42 (fun H locs hP hD hS => ?_)
  obtain ⟨d_11, ed_11⟩ : ∃ z : yD, z = yi d_10 h0 6 0 := ⟨_, rfl⟩
  rw [← ed_11] at hP hD
  have hgd_11 : yAg S [4, 20, 21] d d_11 := by rw [ed_11]; exact yAg.i hgd_10 (by rw [hk_h0]; decide)
  have hsd_11 : yAg S [4] d_10 d_11 := by rw [ed_11]; exact yAg.i yAg.rf (by rw [hk_h0]; decide)
  have hPod_11 : yPo S d_11 := by rw [ed_11]; exact yPo.i hPod_10 hk_h0 (Or.inl rfl)
  refine lv_aload_n hx hb dX4_open_45 rfl (lv_at hl 0 rfl) ?_
  refine lv_iconst (v := 0) hx hb dX4_open_46 (by decide) ?_
  refine yputI (ci := 4) (k := 7) (ty := .int) (C := RX4) (T := TX4) (N := 11) C0 hK hP hD hS hm_h0 hk_h0 (by decide) rfl inlX4 tyX4 tyX4_ok nmX4 (by decide) mW350 (fun _ h9 => h9) rfl (by decide +kernel) rfl rfl (Nat.le_of_ble_eq_true rfl) ysi_4_7 dX4_open_47 (fun H locs hP hD hS => ?_)
  obtain ⟨d_12, ed_12⟩ : ∃ z : yD, z = yi d_11 h0 7 0 := ⟨_, rfl⟩
  rw [← ed_12] at hP hD
  have hgd_12 : yAg S [4, 20, 21] d d_12 := by rw [ed_12]; exact yAg.i hgd_11 (by rw [hk_h0]; decide)
  have hsd_12 : yAg S [4] d_11 d_12 := by rw [ed_12]; exact yAg.i yAg.rf (by rw [hk_h0]; decide)
  have hPod_12 : yPo S d_12 := by rw [ed_12]; exact yPo.i hPod_11 hk_h0 (Or.inl rfl)
  refine lv_aload_n hx hb dX4_open_50 rfl (lv_at hl 0 rfl) ?_
  refine lv_lconst (v := 0) hx hb dX4_open_51 (by decide) ?_
  refine yputJ (ci := 4) (k := 8) (C := RX4) (T := TX4) (N := 11) C0 hK hP hD hS hm_h0 hk_h0 (by decide) rfl inlX4 tyX4 tyX4_ok nmX4 (by decide) mW351 (fun _ h9 => h9) rfl (by decide +kernel) (Nat.le_of_ble_eq_true rfl) ysj_4_8 dX4_open_52 (fun H locs hP hD hS => ?_)
  obtain ⟨d_13, ed_13⟩ : ∃ z : yD, z = yj d_12 h0 8 0 := ⟨_, rfl⟩
  rw [← ed_13] at hP hD
  have hgd_13 : yAg S [4, 20, 21] d d_13 := by rw [ed_13]; exact yAg.j hgd_12 (by rw [hk_h0]; decide)
  have hsd_13 : yAg S [4] d_12 d_13 := by rw [ed_13]; exact yAg.j yAg.rf (by rw [hk_h0]; decide)
  have hPod_13 : yPo S d_13 := by rw [ed_13]; exact hPod_12
  refine lv_aload_n hx hb dX4_open_55 rfl (lv_at hl 0 rfl) ?_
  refine lv_lconst (v := 0) hx hb dX4_open_56 (by decide) ?_
  refine yputJ (ci := 4) (k := 9) (C := RX4) (T := TX4) (N := 11) C0 hK hP hD hS hm_h0 hk_h0 (by decide) rfl inlX4 tyX4 tyX4_ok nmX4 (by decide) mW352 (fun _ h9 => h9) rfl (by decide +kernel) (Nat.le_of_ble_eq_true rfl) ysj_4_9 dX4_open_57 (fun H locs hP hD hS => ?_)
  obtain ⟨d_14, ed_14⟩ : ∃ z : yD, z = yj d_13 h0 9 0 := ⟨_, rfl⟩
  rw [← ed_14] at hP hD
  have hgd_14 : yAg S [4, 20, 21] d d_14 := by rw [ed_14]; exact yAg.j hgd_13 (by rw [hk_h0]; decide)
  have hsd_14 : yAg S [4] d_13 d_14 := by rw [ed_14]; exact yAg.j yAg.rf (by rw [hk_h0]; decide)
  have hPod_14 : yPo S d_14 := by rw [ed_14]; exact hPod_13
  refine lv_aload_n hx hb dX4_open_60 rfl (lv_at hl 0 rfl) ?_
  refine lv_lconst (v := 0) hx hb dX4_open_61 (by decide) ?_
  refine yputJ (ci := 4) (k := 10) (C := RX4) (T := TX4) (N := 11) C0 hK hP hD hS hm_h0 hk_h0 (by decide) rfl inlX4 tyX4 tyX4_ok nmX4 (by decide) mW353 (fun _ h9 => h9) rfl (by decide +kernel) (Nat.le_of_ble_eq_true rfl) ysj_4_10 dX4_open_62 (fun H locs hP hD hS => ?_)
  obtain ⟨d_15, ed_15⟩ : ∃ z : yD, z = yj d_14 h0 10 0 := ⟨_, rfl⟩
  rw [← ed_15] at hP hD
  have hgd_15 : yAg S [4, 20, 21] d d_15 := by rw [ed_15]; exact yAg.j hgd_14 (by rw [hk_h0]; decide)
  have hsd_15 : yAg S [4] d_14 d_15 := by rw [ed_15]; exact yAg.j yAg.rf (by rw [hk_h0]; decide)
  have hPod_15 : yPo S d_15 := by rw [ed_15]; exact hPod_14
  exact W.vret hx hb hr (fun t ht hW => ⟨⟨d_15, rfl, ⟨hgd_15, (fun _ => hPod_15), ⟨(((((show d_15.1 h0 2 = d_14.1 h0 2 by rw [ed_15]; rfl)).trans (((show d_14.1 h0 2 = d_13.1 h0 2 by rw [ed_14]; rfl)).trans (((show d_13.1 h0 2 = d_12.1 h0 2 by rw [ed_13]; rfl)).trans (((show d_12.1 h0 2 = d_11.1 h0 2 by rw [ed_12]; exact yi_ne (by decide))).trans (((show d_11.1 h0 2 = d_10.1 h0 2 by rw [ed_11]; exact yi_ne (by decide))).trans (((show d_10.1 h0 2 = d_9.1 h0 2 by rw [ed_10]; exact yi_ne (by decide))).trans (((show d_9.1 h0 2 = d_8.1 h0 2 by rw [ed_9]; exact yi_ne (by decide))).trans (show d_8.1 h0 2 = d_7.1 h0 2 by rw [ed_8]; exact yi_ne (by decide)))))))))).trans (show d_7.1 h0 2 = p1 by rw [ed_7]; exact yi_self)), (((((show d_15.1 h0 3 = d_14.1 h0 3 by rw [ed_15]; rfl)).trans (((show d_14.1 h0 3 = d_13.1 h0 3 by rw [ed_14]; rfl)).trans (((show d_13.1 h0 3 = d_12.1 h0 3 by rw [ed_13]; rfl)).trans (((show d_12.1 h0 3 = d_11.1 h0 3 by rw [ed_12]; exact yi_ne (by decide))).trans (((show d_11.1 h0 3 = d_10.1 h0 3 by rw [ed_11]; exact yi_ne (by decide))).trans (((show d_10.1 h0 3 = d_9.1 h0 3 by rw [ed_10]; exact yi_ne (by decide))).trans (show d_9.1 h0 3 = d_8.1 h0 3 by rw [ed_9]; exact yi_ne (by decide))))))))).trans (show d_8.1 h0 3 = p0 by rw [ed_8]; exact yi_self)), (((((show d_15.2.1 h0 8 = d_14.2.1 h0 8 by rw [ed_15]; exact yj_ne (by decide))).trans (show d_14.2.1 h0 8 = d_13.2.1 h0 8 by rw [ed_14]; exact yj_ne (by decide)))).trans (show d_13.2.1 h0 8 = 0 by rw [ed_13]; exact yj_self)), fun a ha hn => (o2 (o2 (o2 (o2 (o2 (o2 (o2 (o2 (o2 (o2 (yAg.o hgad_3 (by rw [ha]; decide)) (yAg.o hgad_6 (by rw [ha]; decide))) (show d_7.1 a = d_6.1 a ∧ d_7.2.1 a = d_6.2.1 a by rw [ed_7]; exact yi_o hn)) (show d_8.1 a = d_7.1 a ∧ d_8.2.1 a = d_7.2.1 a by rw [ed_8]; exact yi_o hn)) (show d_9.1 a = d_8.1 a ∧ d_9.2.1 a = d_8.2.1 a by rw [ed_9]; exact yi_o hn)) (show d_10.1 a = d_9.1 a ∧ d_10.2.1 a = d_9.2.1 a by rw [ed_10]; exact yi_o hn)) (show d_11.1 a = d_10.1 a ∧ d_11.2.1 a = d_10.2.1 a by rw [ed_11]; exact yi_o hn)) (show d_12.1 a = d_11.1 a ∧ d_12.2.1 a = d_11.2.1 a by rw [ed_12]; exact yi_o hn)) (show d_13.1 a = d_12.1 a ∧ d_13.2.1 a = d_12.2.1 a by rw [ed_13]; exact yj_o hn)) (show d_14.1 a = d_13.1 a ∧ d_14.2.1 a = d_13.2.1 a by rw [ed_14]; exact yj_o hn)) (show d_15.1 a = d_14.1 a ∧ d_15.2.1 a = d_14.2.1 a by rw [ed_15]; exact yj_o hn))⟩⟩, by rw [ht]; exact hP, hD⟩, hS.F ht⟩) hS.2.2 dX4_open_65
theorem dX4_shut_0 : decode cX4_shut 0 = .ok (.aload_n 0, 1) := by decide +kernel
theorem dX4_shut_1 : decode cX4_shut 1 = .ok (.iconst 0, 1) := by decide +kernel
theorem dX4_shut_2 : decode cX4_shut 2 = .ok (.putfield 24, 3) := by decide +kernel
theorem dX4_shut_5 : decode cX4_shut 5 = .ok (.return_, 1) := by decide +kernel
set_option maxHeartbeats 4000000 in
set_option maxRecDepth 100000 in
theorem g_X4_shut (l : Launch) (G : xG) (S : yS) (d : yD) (h0 : Nat) (hSh : ySh S) (hPo : yPo S d) (hm_h0 : h0 ∈ S.1) (hk_h0 : S.2.1 h0 = 4) : xWv l G yX4_shut cX4_shut 1 none 0 0 0 0 [.ref h0] (yW G S d) (fun u : yD => yAg S [4] d u ∧ (yPo S d → yPo S u) ∧ (u.1 h0 2 = 0 ∧ u.1 h0 3 = d.1 h0 3 ∧ ∀ a, S.2.1 a = 4 → a ≠ h0 → u.1 a = d.1 a ∧ u.2.1 a = d.2.1 a)) (fun u => yW G S u) := by
  intro sz
  refine xstart (by decide) (Nat.le_of_ble_eq_true rfl) (fun p e s m args below meth c ls C0 hr hlocks hin hsz hP hK hD hN hl => ?_)
  obtain ⟨hx, hb, hml, hown, htl⟩ := id C0
  subst hsz
  have hD := hD.self (sz := s.heap.size)
  generalize hAe : va_A (yW G S d) s.heap.size = A at hD ⊢
  have hA : ∀ q : Nat, s.heap.size ≤ q → A q := fun q h => by rw [← hAe]; exact Or.inr h
  have hS : va_S A s.heap s.heap [] := va_S.rf
  have hg0 : yAg S [4] d d := yAg.rf
  have hl : lv_has ls 1 [(0, .ref h0)] := hl
  refine lv_aload_n hx hb dX4_shut_0 rfl (lv_at hl 0 rfl) ?_
  refine lv_iconst (v := 0) hx hb dX4_shut_1 (by decide) ?_
  refine yputI (ci := 4) (k := 2) (ty := .int) (C := RX4) (T := TX4) (N := 11) C0 hK hP hD hS hm_h0 hk_h0 (by decide) rfl inlX4 tyX4 tyX4_ok nmX4 (by decide) mW345 (fun _ h9 => h9) rfl (by decide +kernel) rfl rfl (Nat.le_of_ble_eq_true rfl) ysi_4_2 dX4_shut_2 (fun H locs hP hD hS => ?_)
  obtain ⟨d_1, ed_1⟩ : ∃ z : yD, z = yi d h0 2 0 := ⟨_, rfl⟩
  rw [← ed_1] at hP hD
  have hgd_1 : yAg S [4] d d_1 := by rw [ed_1]; exact yAg.i hg0 (by rw [hk_h0]; decide)
  have hsd_1 : yAg S [4] d d_1 := by rw [ed_1]; exact yAg.i yAg.rf (by rw [hk_h0]; decide)
  have hPod_1 : yPo S d_1 := by rw [ed_1]; exact yPo.i hPo hk_h0 (Or.inl rfl)
  exact W.vret hx hb hr (fun t ht hW => ⟨⟨d_1, rfl, ⟨hgd_1, (fun _ => hPod_1), ⟨((rfl).trans (show d_1.1 h0 2 = 0 by rw [ed_1]; exact yi_self)), (show d_1.1 h0 3 = d.1 h0 3 by rw [ed_1]; exact yi_ne (by decide)), fun a ha hn => (show d_1.1 a = d.1 a ∧ d_1.2.1 a = d.2.1 a by rw [ed_1]; exact yi_o hn)⟩⟩, by rw [ht]; exact hP, hD⟩, hS.F ht⟩) hS.2.2 dX4_shut_5
theorem dX4_take_0 : decode cX4_take 0 = .ok (.aload_n 0, 1) := by decide +kernel
theorem dX4_take_1 : decode cX4_take 1 = .ok (.getfield 9, 3) := by decide +kernel
theorem dX4_take_4 : decode cX4_take 4 = .ok (.aload_n 1, 1) := by decide +kernel
theorem dX4_take_5 : decode cX4_take 5 = .ok (.getfield 9, 3) := by decide +kernel
theorem dX4_take_8 : decode cX4_take 8 = .ok (.invokestatic 66, 3) := by decide +kernel
theorem dX4_take_11 : decode cX4_take 11 = .ok (.aload_n 0, 1) := by decide +kernel
theorem dX4_take_12 : decode cX4_take 12 = .ok (.getfield 15, 3) := by decide +kernel
theorem dX4_take_15 : decode cX4_take 15 = .ok (.aload_n 1, 1) := by decide +kernel
theorem dX4_take_16 : decode cX4_take 16 = .ok (.getfield 15, 3) := by decide +kernel
theorem dX4_take_19 : decode cX4_take 19 = .ok (.invokestatic 66, 3) := by decide +kernel
theorem dX4_take_22 : decode cX4_take 22 = .ok (.aload_n 0, 1) := by decide +kernel
theorem dX4_take_23 : decode cX4_take 23 = .ok (.aload_n 1, 1) := by decide +kernel
theorem dX4_take_24 : decode cX4_take 24 = .ok (.getfield 24, 3) := by decide +kernel
theorem dX4_take_27 : decode cX4_take 27 = .ok (.putfield 24, 3) := by decide +kernel
theorem dX4_take_30 : decode cX4_take 30 = .ok (.aload_n 0, 1) := by decide +kernel
theorem dX4_take_31 : decode cX4_take 31 = .ok (.aload_n 1, 1) := by decide +kernel
theorem dX4_take_32 : decode cX4_take 32 = .ok (.getfield 28, 3) := by decide +kernel
theorem dX4_take_35 : decode cX4_take 35 = .ok (.putfield 28, 3) := by decide +kernel
theorem dX4_take_38 : decode cX4_take 38 = .ok (.aload_n 0, 1) := by decide +kernel
theorem dX4_take_39 : decode cX4_take 39 = .ok (.aload_n 1, 1) := by decide +kernel
theorem dX4_take_40 : decode cX4_take 40 = .ok (.getfield 31, 3) := by decide +kernel
theorem dX4_take_43 : decode cX4_take 43 = .ok (.putfield 31, 3) := by decide +kernel
theorem dX4_take_46 : decode cX4_take 46 = .ok (.aload_n 0, 1) := by decide +kernel
theorem dX4_take_47 : decode cX4_take 47 = .ok (.aload_n 1, 1) := by decide +kernel
theorem dX4_take_48 : decode cX4_take 48 = .ok (.getfield 34, 3) := by decide +kernel
theorem dX4_take_51 : decode cX4_take 51 = .ok (.putfield 34, 3) := by decide +kernel
theorem dX4_take_54 : decode cX4_take 54 = .ok (.aload_n 0, 1) := by decide +kernel
theorem dX4_take_55 : decode cX4_take 55 = .ok (.aload_n 1, 1) := by decide +kernel
theorem dX4_take_56 : decode cX4_take 56 = .ok (.getfield 37, 3) := by decide +kernel
theorem dX4_take_59 : decode cX4_take 59 = .ok (.putfield 37, 3) := by decide +kernel
theorem dX4_take_62 : decode cX4_take 62 = .ok (.aload_n 0, 1) := by decide +kernel
theorem dX4_take_63 : decode cX4_take 63 = .ok (.aload_n 1, 1) := by decide +kernel
theorem dX4_take_64 : decode cX4_take 64 = .ok (.getfield 40, 3) := by decide +kernel
theorem dX4_take_67 : decode cX4_take 67 = .ok (.putfield 40, 3) := by decide +kernel
theorem dX4_take_70 : decode cX4_take 70 = .ok (.aload_n 0, 1) := by decide +kernel
theorem dX4_take_71 : decode cX4_take 71 = .ok (.aload_n 1, 1) := by decide +kernel
theorem dX4_take_72 : decode cX4_take 72 = .ok (.getfield 43, 3) := by decide +kernel
theorem dX4_take_75 : decode cX4_take 75 = .ok (.putfield 43, 3) := by decide +kernel
theorem dX4_take_78 : decode cX4_take 78 = .ok (.aload_n 0, 1) := by decide +kernel
theorem dX4_take_79 : decode cX4_take 79 = .ok (.aload_n 1, 1) := by decide +kernel
theorem dX4_take_80 : decode cX4_take 80 = .ok (.getfield 47, 3) := by decide +kernel
theorem dX4_take_83 : decode cX4_take 83 = .ok (.putfield 47, 3) := by decide +kernel
theorem dX4_take_86 : decode cX4_take 86 = .ok (.aload_n 0, 1) := by decide +kernel
theorem dX4_take_87 : decode cX4_take 87 = .ok (.aload_n 1, 1) := by decide +kernel
theorem dX4_take_88 : decode cX4_take 88 = .ok (.getfield 50, 3) := by decide +kernel
theorem dX4_take_91 : decode cX4_take 91 = .ok (.putfield 50, 3) := by decide +kernel
theorem dX4_take_94 : decode cX4_take 94 = .ok (.return_, 1) := by decide +kernel
set_option maxHeartbeats 4000000 in
set_option maxRecDepth 100000 in
theorem g_X4_take (l : Launch) (G : xG) (S : yS) (d : yD) (h0 : Nat) (h1 : Nat) (hSh : ySh S) (hPo : yPo S d) (hm_h0 : h0 ∈ S.1) (hk_h0 : S.2.1 h0 = 4) (hm_h1 : h1 ∈ S.1) (hk_h1 : S.2.1 h1 = 4) (hne : h1 ≠ h0) : xWv l G yX4_take cX4_take 2 none 3 63 0 0 [.ref h0, .ref h1] (yW G S d) (fun u : yD => yAg S [4, 20, 21] d u ∧ (yPo S d → yPo S u) ∧ (u.1 h0 2 = d.1 h1 2 ∧ u.1 h0 3 = d.1 h1 3 ∧ u.2.1 h0 8 = d.2.1 h1 8 ∧ ∀ a, S.2.1 a = 4 → a ≠ h0 → u.1 a = d.1 a ∧ u.2.1 a = d.2.1 a)) (fun u => yW G S u) := by
  intro sz
  refine xstart (by decide) (Nat.le_of_ble_eq_true rfl) (fun p e s m args below meth c ls C0 hr hlocks hin hsz hP hK hD hN hl => ?_)
  obtain ⟨hx, hb, hml, hown, htl⟩ := id C0
  subst hsz
  have hD := hD.self (sz := s.heap.size)
  generalize hAe : va_A (yW G S d) s.heap.size = A at hD ⊢
  have hA : ∀ q : Nat, s.heap.size ≤ q → A q := fun q h => by rw [← hAe]; exact Or.inr h
  have hS : va_S A s.heap s.heap [] := va_S.rf
  have hg0 : yAg S [4, 20, 21] d d := yAg.rf
  have hl : lv_has ls 2 [(0, .ref h0), (1, .ref h1)] := hl
  refine lv_aload_n hx hb dX4_take_0 rfl (lv_at hl 0 rfl) ?_
  refine yget (ci := 4) (k := 0) (v := .ref (S.2.2.1 h0 0)) (C := RX4) (T := TX4) (N := 11) C0 hK hP hm_h0 hk_h0 (by decide) rfl inlX4 (by decide) mW73 (fun _ h9 => h9) rfl dX4_take_1 ?_
  obtain ⟨hmy_1, hky_1⟩ := ySh.f4_0 hSh _ hm_h0 hk_h0
  refine lv_aload_n hx hb dX4_take_4 rfl (lv_at hl 1 rfl) ?_
  refine yget (ci := 4) (k := 0) (v := .ref (S.2.2.1 h1 0)) (C := RX4) (T := TX4) (N := 11) C0 hK hP hm_h1 hk_h1 (by decide) rfl inlX4 (by decide) mW73 (fun _ h9 => h9) rfl dX4_take_5 ?_
  obtain ⟨hmy_2, hky_2⟩ := ySh.f4_0 hSh _ hm_h1 hk_h1
  refine ySNwv (As := [.ref (S.2.2.1 h0 0), .ref (S.2.2.1 h1 0)]) (rest := []) C0 (g_X8_copyAll l G S d (S.2.2.1 h0 0) 20 (S.2.2.1 h1 0) 20 hPo hmy_1 hky_1 hmy_2 hky_2 (by decide) rfl rfl (by decide) (by decide) rfl rfl (by decide) (by decide) (by decide)) ok_X8_copyAll (xN.n19 hN) ⟨Nat.le_of_ble_eq_true rfl, Nat.le_of_ble_eq_true rfl⟩ hP hD hS hA hK hN rfl hl.1 rfl (Nat.le_of_ble_eq_true rfl) ⟨Nat.le_of_ble_eq_true rfl, Nat.le_of_ble_eq_true rfl⟩ dX4_take_8 (fun d_4 H locs hr_3 hP hD hS => ?_)
  obtain ⟨hgad_4, hpad_4, hxd_4⟩ := hr_3
  have hgd_4 : yAg S [4, 20, 21] d d_4 := yAg.tr hg0 hgad_4 (by first | decide | exact fun _ h => h)
  have hPod_4 : yPo S d_4 := hpad_4 hPo
  refine lv_aload_n hx hb dX4_take_11 rfl (lv_at hl 0 rfl) ?_
  refine yget (ci := 4) (k := 1) (v := .ref (S.2.2.1 h0 1)) (C := RX4) (T := TX4) (N := 11) C0 hK hP hm_h0 hk_h0 (by decide) rfl inlX4 (by decide) mW74 (fun _ h9 => h9) rfl dX4_take_12 ?_
  obtain ⟨hmy_5, hky_5⟩ := ySh.f4_1 hSh _ hm_h0 hk_h0
  refine lv_aload_n hx hb dX4_take_15 rfl (lv_at hl 1 rfl) ?_
  refine yget (ci := 4) (k := 1) (v := .ref (S.2.2.1 h1 1)) (C := RX4) (T := TX4) (N := 11) C0 hK hP hm_h1 hk_h1 (by decide) rfl inlX4 (by decide) mW74 (fun _ h9 => h9) rfl dX4_take_16 ?_
  obtain ⟨hmy_6, hky_6⟩ := ySh.f4_1 hSh _ hm_h1 hk_h1
  refine ySNwv (As := [.ref (S.2.2.1 h0 1), .ref (S.2.2.1 h1 1)]) (rest := []) C0 (g_X8_copyAll l G S d_4 (S.2.2.1 h0 1) 21 (S.2.2.1 h1 1) 21 hPod_4 hmy_5 hky_5 hmy_6 hky_6 (by decide) rfl rfl (by decide) (by decide) rfl rfl (by decide) (by decide) (by decide)) ok_X8_copyAll (xN.n19 hN) ⟨Nat.le_of_ble_eq_true rfl, Nat.le_of_ble_eq_true rfl⟩ hP hD hS hA hK hN rfl hl.1 rfl (Nat.le_of_ble_eq_true rfl) ⟨Nat.le_of_ble_eq_true rfl, Nat.le_of_ble_eq_true rfl⟩ dX4_take_19 (fun d_8 H locs hr_7 hP hD hS => ?_)
  obtain ⟨hgad_8, hpad_8, hxd_8⟩ := hr_7
  have hgd_8 : yAg S [4, 20, 21] d d_8 := yAg.tr hgd_4 hgad_8 (by first | decide | exact fun _ h => h)
  have hPod_8 : yPo S d_8 := hpad_8 hPod_4
  refine lv_aload_n hx hb dX4_take_22 rfl (lv_at hl 0 rfl) ?_
  refine lv_aload_n hx hb dX4_take_23 rfl (lv_at hl 1 rfl) ?_
  refine yget (ci := 4) (k := 2) (v := .int (d_8.1 h1 2)) (C := RX4) (T := TX4) (N := 11) C0 hK hP hm_h1 hk_h1 (by decide) rfl inlX4 (by decide) mW345 (fun _ h9 => h9) rfl dX4_take_24 ?_
  refine lv_topi (fun z_9 ez_9 => ?_)
  refine yputI (ci := 4) (k := 2) (ty := .int) (C := RX4) (T := TX4) (N := 11) C0 hK hP hD hS hm_h0 hk_h0 (by decide) rfl inlX4 tyX4 tyX4_ok nmX4 (by decide) mW345 (fun _ h9 => h9) rfl (by decide +kernel) rfl rfl (Nat.le_of_ble_eq_true rfl) ysi_4_2 dX4_take_27 (fun H locs hP hD hS => ?_)
  obtain ⟨d_10, ed_10⟩ : ∃ z : yD, z = yi d_8 h0 2 z_9 := ⟨_, rfl⟩
  rw [← ed_10] at hP hD
  have hgd_10 : yAg S [4, 20, 21] d d_10 := by rw [ed_10]; exact yAg.i hgd_8 (by rw [hk_h0]; decide)
  have hsd_10 : yAg S [4] d_8 d_10 := by rw [ed_10]; exact yAg.i yAg.rf (by rw [hk_h0]; decide)
  have hPod_10 : yPo S d_10 := by rw [ed_10]; exact yPo.i hPod_8 hk_h0 (Or.inl rfl)
  refine lv_aload_n hx hb dX4_take_30 rfl (lv_at hl 0 rfl) ?_
  refine lv_aload_n hx hb dX4_take_31 rfl (lv_at hl 1 rfl) ?_
  refine yget (ci := 4) (k := 3) (v := .int (d_10.1 h1 3)) (C := RX4) (T := TX4) (N := 11) C0 hK hP hm_h1 hk_h1 (by decide) rfl inlX4 (by decide) mW346 (fun _ h9 => h9) rfl dX4_take_32 ?_
  refine lv_topi (fun z_11 ez_11 => ?_)
  refine yputI (ci := 4) (k := 3) (ty := .int) (C := RX4) (T := TX4) (N := 11) C0 hK hP hD hS hm_h0 hk_h0 (by decide) rfl inlX4 tyX4 tyX4_ok nmX4 (by decide) mW346 (fun _ h9 => h9) rfl (by decide +kernel) rfl rfl (Nat.le_of_ble_eq_true rfl) ysi_4_3 dX4_take_35 (fun H locs hP hD hS => ?_)
  obtain ⟨d_12, ed_12⟩ : ∃ z : yD, z = yi d_10 h0 3 z_11 := ⟨_, rfl⟩
  rw [← ed_12] at hP hD
  have hgd_12 : yAg S [4, 20, 21] d d_12 := by rw [ed_12]; exact yAg.i hgd_10 (by rw [hk_h0]; decide)
  have hsd_12 : yAg S [4] d_10 d_12 := by rw [ed_12]; exact yAg.i yAg.rf (by rw [hk_h0]; decide)
  have hPod_12 : yPo S d_12 := by rw [ed_12]; exact yPo.i hPod_10 hk_h0 (Or.inl rfl)
  refine lv_aload_n hx hb dX4_take_38 rfl (lv_at hl 0 rfl) ?_
  refine lv_aload_n hx hb dX4_take_39 rfl (lv_at hl 1 rfl) ?_
  refine yget (ci := 4) (k := 4) (v := .int (d_12.1 h1 4)) (C := RX4) (T := TX4) (N := 11) C0 hK hP hm_h1 hk_h1 (by decide) rfl inlX4 (by decide) mW347 (fun _ h9 => h9) rfl dX4_take_40 ?_
  refine lv_topi (fun z_13 ez_13 => ?_)
  refine yputI (ci := 4) (k := 4) (ty := .int) (C := RX4) (T := TX4) (N := 11) C0 hK hP hD hS hm_h0 hk_h0 (by decide) rfl inlX4 tyX4 tyX4_ok nmX4 (by decide) mW347 (fun _ h9 => h9) rfl (by decide +kernel) rfl rfl (Nat.le_of_ble_eq_true rfl) ysi_4_4 dX4_take_43 (fun H locs hP hD hS => ?_)
  obtain ⟨d_14, ed_14⟩ : ∃ z : yD, z = yi d_12 h0 4 z_13 := ⟨_, rfl⟩
  rw [← ed_14] at hP hD
  have hgd_14 : yAg S [4, 20, 21] d d_14 := by rw [ed_14]; exact yAg.i hgd_12 (by rw [hk_h0]; decide)
  have hsd_14 : yAg S [4] d_12 d_14 := by rw [ed_14]; exact yAg.i yAg.rf (by rw [hk_h0]; decide)
  have hPod_14 : yPo S d_14 := by rw [ed_14]; exact yPo.i hPod_12 hk_h0 (Or.inl rfl)
  refine lv_aload_n hx hb dX4_take_46 rfl (lv_at hl 0 rfl) ?_
  refine lv_aload_n hx hb dX4_take_47 rfl (lv_at hl 1 rfl) ?_
  refine yget (ci := 4) (k := 5) (v := .int (d_14.1 h1 5)) (C := RX4) (T := TX4) (N := 11) C0 hK hP hm_h1 hk_h1 (by decide) rfl inlX4 (by decide) mW348 (fun _ h9 => h9) rfl dX4_take_48 ?_
  refine lv_topi (fun z_15 ez_15 => ?_)
  refine yputI (ci := 4) (k := 5) (ty := .int) (C := RX4) (T := TX4) (N := 11) C0 hK hP hD hS hm_h0 hk_h0 (by decide) rfl inlX4 tyX4 tyX4_ok nmX4 (by decide) mW348 (fun _ h9 => h9) rfl (by decide +kernel) rfl rfl (Nat.le_of_ble_eq_true rfl) ysi_4_5 dX4_take_51 (fun H locs hP hD hS => ?_)
  obtain ⟨d_16, ed_16⟩ : ∃ z : yD, z = yi d_14 h0 5 z_15 := ⟨_, rfl⟩
  rw [← ed_16] at hP hD
  have hgd_16 : yAg S [4, 20, 21] d d_16 := by rw [ed_16]; exact yAg.i hgd_14 (by rw [hk_h0]; decide)
  have hsd_16 : yAg S [4] d_14 d_16 := by rw [ed_16]; exact yAg.i yAg.rf (by rw [hk_h0]; decide)
  have hPod_16 : yPo S d_16 := by rw [ed_16]; exact yPo.i hPod_14 hk_h0 (Or.inl rfl)
  refine lv_aload_n hx hb dX4_take_54 rfl (lv_at hl 0 rfl) ?_
  refine lv_aload_n hx hb dX4_take_55 rfl (lv_at hl 1 rfl) ?_
  refine yget (ci := 4) (k := 6) (v := .int (d_16.1 h1 6)) (C := RX4) (T := TX4) (N := 11) C0 hK hP hm_h1 hk_h1 (by decide) rfl inlX4 (by decide) mW349 (fun _ h9 => h9) rfl dX4_take_56 ?_
  refine lv_topi (fun z_17 ez_17 => ?_)
  refine yputI (ci := 4) (k := 6) (ty := .int) (C := RX4) (T := TX4) (N := 11) C0 hK hP hD hS hm_h0 hk_h0 (by decide) rfl inlX4 tyX4 tyX4_ok nmX4 (by decide) mW349 (fun _ h9 => h9) rfl (by decide +kernel) rfl rfl (Nat.le_of_ble_eq_true rfl) ysi_4_6 dX4_take_59 (fun H locs hP hD hS => ?_)
  obtain ⟨d_18, ed_18⟩ : ∃ z : yD, z = yi d_16 h0 6 z_17 := ⟨_, rfl⟩
  rw [← ed_18] at hP hD
  have hgd_18 : yAg S [4, 20, 21] d d_18 := by rw [ed_18]; exact yAg.i hgd_16 (by rw [hk_h0]; decide)
  have hsd_18 : yAg S [4] d_16 d_18 := by rw [ed_18]; exact yAg.i yAg.rf (by rw [hk_h0]; decide)
  have hPod_18 : yPo S d_18 := by rw [ed_18]; exact yPo.i hPod_16 hk_h0 (Or.inl rfl)
  refine lv_aload_n hx hb dX4_take_62 rfl (lv_at hl 0 rfl) ?_
  refine lv_aload_n hx hb dX4_take_63 rfl (lv_at hl 1 rfl) ?_
  refine yget (ci := 4) (k := 7) (v := .int (d_18.1 h1 7)) (C := RX4) (T := TX4) (N := 11) C0 hK hP hm_h1 hk_h1 (by decide) rfl inlX4 (by decide) mW350 (fun _ h9 => h9) rfl dX4_take_64 ?_
  refine lv_topi (fun z_19 ez_19 => ?_)
  refine yputI (ci := 4) (k := 7) (ty := .int) (C := RX4) (T := TX4) (N := 11) C0 hK hP hD hS hm_h0 hk_h0 (by decide) rfl inlX4 tyX4 tyX4_ok nmX4 (by decide) mW350 (fun _ h9 => h9) rfl (by decide +kernel) rfl rfl (Nat.le_of_ble_eq_true rfl) ysi_4_7 dX4_take_67 (fun H locs hP hD hS => ?_)
  obtain ⟨d_20, ed_20⟩ : ∃ z : yD, z = yi d_18 h0 7 z_19 := ⟨_, rfl⟩
  rw [← ed_20] at hP hD
  have hgd_20 : yAg S [4, 20, 21] d d_20 := by rw [ed_20]; exact yAg.i hgd_18 (by rw [hk_h0]; decide)
  have hsd_20 : yAg S [4] d_18 d_20 := by rw [ed_20]; exact yAg.i yAg.rf (by rw [hk_h0]; decide)
  have hPod_20 : yPo S d_20 := by rw [ed_20]; exact yPo.i hPod_18 hk_h0 (Or.inl rfl)
  refine lv_aload_n hx hb dX4_take_70 rfl (lv_at hl 0 rfl) ?_
  refine lv_aload_n hx hb dX4_take_71 rfl (lv_at hl 1 rfl) ?_
  refine yget (ci := 4) (k := 8) (v := .long (d_20.2.1 h1 8)) (C := RX4) (T := TX4) (N := 11) C0 hK hP hm_h1 hk_h1 (by decide) rfl inlX4 (by decide) mW351 (fun _ h9 => h9) rfl dX4_take_72 ?_
  refine lv_topl (fun z_21 ez_21 => ?_)
  refine yputJ (ci := 4) (k := 8) (C := RX4) (T := TX4) (N := 11) C0 hK hP hD hS hm_h0 hk_h0 (by decide) rfl inlX4 tyX4 tyX4_ok nmX4 (by decide) mW351 (fun _ h9 => h9) rfl (by decide +kernel) (Nat.le_of_ble_eq_true rfl) ysj_4_8 dX4_take_75 (fun H locs hP hD hS => ?_)
  obtain ⟨d_22, ed_22⟩ : ∃ z : yD, z = yj d_20 h0 8 z_21 := ⟨_, rfl⟩
  rw [← ed_22] at hP hD
  have hgd_22 : yAg S [4, 20, 21] d d_22 := by rw [ed_22]; exact yAg.j hgd_20 (by rw [hk_h0]; decide)
  have hsd_22 : yAg S [4] d_20 d_22 := by rw [ed_22]; exact yAg.j yAg.rf (by rw [hk_h0]; decide)
  have hPod_22 : yPo S d_22 := by rw [ed_22]; exact hPod_20
  refine lv_aload_n hx hb dX4_take_78 rfl (lv_at hl 0 rfl) ?_
  refine lv_aload_n hx hb dX4_take_79 rfl (lv_at hl 1 rfl) ?_
  refine yget (ci := 4) (k := 9) (v := .long (d_22.2.1 h1 9)) (C := RX4) (T := TX4) (N := 11) C0 hK hP hm_h1 hk_h1 (by decide) rfl inlX4 (by decide) mW352 (fun _ h9 => h9) rfl dX4_take_80 ?_
  refine lv_topl (fun z_23 ez_23 => ?_)
  refine yputJ (ci := 4) (k := 9) (C := RX4) (T := TX4) (N := 11) C0 hK hP hD hS hm_h0 hk_h0 (by decide) rfl inlX4 tyX4 tyX4_ok nmX4 (by decide) mW352 (fun _ h9 => h9) rfl (by decide +kernel) (Nat.le_of_ble_eq_true rfl) ysj_4_9 dX4_take_83 (fun H locs hP hD hS => ?_)
  obtain ⟨d_24, ed_24⟩ : ∃ z : yD, z = yj d_22 h0 9 z_23 := ⟨_, rfl⟩
  rw [← ed_24] at hP hD
  have hgd_24 : yAg S [4, 20, 21] d d_24 := by rw [ed_24]; exact yAg.j hgd_22 (by rw [hk_h0]; decide)
  have hsd_24 : yAg S [4] d_22 d_24 := by rw [ed_24]; exact yAg.j yAg.rf (by rw [hk_h0]; decide)
  have hPod_24 : yPo S d_24 := by rw [ed_24]; exact hPod_22
  refine lv_aload_n hx hb dX4_take_86 rfl (lv_at hl 0 rfl) ?_
  refine lv_aload_n hx hb dX4_take_87 rfl (lv_at hl 1 rfl) ?_
  refine yget (ci := 4) (k := 10) (v := .long (d_24.2.1 h1 10)) (C := RX4) (T := TX4) (N := 11) C0 hK hP hm_h1 hk_h1 (by decide) rfl inlX4 (by decide) mW353 (fun _ h9 => h9) rfl dX4_take_88 ?_
  refine lv_topl (fun z_25 ez_25 => ?_)
  refine yputJ (ci := 4) (k := 10) (C := RX4) (T := TX4) (N := 11) C0 hK hP hD hS hm_h0 hk_h0 (by decide) rfl inlX4 tyX4 tyX4_ok nmX4 (by decide) mW353 (fun _ h9 => h9) rfl (by decide +kernel) (Nat.le_of_ble_eq_true rfl) ysj_4_10 dX4_take_91 (fun H locs hP hD hS => ?_)
  obtain ⟨d_26, ed_26⟩ : ∃ z : yD, z = yj d_24 h0 10 z_25 := ⟨_, rfl⟩
  rw [← ed_26] at hP hD
  have hgd_26 : yAg S [4, 20, 21] d d_26 := by rw [ed_26]; exact yAg.j hgd_24 (by rw [hk_h0]; decide)
  have hsd_26 : yAg S [4] d_24 d_26 := by rw [ed_26]; exact yAg.j yAg.rf (by rw [hk_h0]; decide)
  have hPod_26 : yPo S d_26 := by rw [ed_26]; exact hPod_24
  exact W.vret hx hb hr (fun t ht hW => ⟨⟨d_26, rfl, ⟨hgd_26, (fun _ => hPod_26), ⟨((((((show d_26.1 h0 2 = d_24.1 h0 2 by rw [ed_26]; rfl)).trans (((show d_24.1 h0 2 = d_22.1 h0 2 by rw [ed_24]; rfl)).trans (((show d_22.1 h0 2 = d_20.1 h0 2 by rw [ed_22]; rfl)).trans (((show d_20.1 h0 2 = d_18.1 h0 2 by rw [ed_20]; exact yi_ne (by decide))).trans (((show d_18.1 h0 2 = d_16.1 h0 2 by rw [ed_18]; exact yi_ne (by decide))).trans (((show d_16.1 h0 2 = d_14.1 h0 2 by rw [ed_16]; exact yi_ne (by decide))).trans (((show d_14.1 h0 2 = d_12.1 h0 2 by rw [ed_14]; exact yi_ne (by decide))).trans (show d_12.1 h0 2 = d_10.1 h0 2 by rw [ed_12]; exact yi_ne (by decide)))))))))).trans (show d_10.1 h0 2 = z_9 by rw [ed_10]; exact yi_self)).trans (ez_9.trans (((congrFun (hgad_8 h1 (by rw [hk_h1]; decide)).1 2)).trans (congrFun (hgad_4 h1 (by rw [hk_h1]; decide)).1 2)))), ((((((show d_26.1 h0 3 = d_24.1 h0 3 by rw [ed_26]; rfl)).trans (((show d_24.1 h0 3 = d_22.1 h0 3 by rw [ed_24]; rfl)).trans (((show d_22.1 h0 3 = d_20.1 h0 3 by rw [ed_22]; rfl)).trans (((show d_20.1 h0 3 = d_18.1 h0 3 by rw [ed_20]; exact yi_ne (by decide))).trans (((show d_18.1 h0 3 = d_16.1 h0 3 by rw [ed_18]; exact yi_ne (by decide))).trans (((show d_16.1 h0 3 = d_14.1 h0 3 by rw [ed_16]; exact yi_ne (by decide))).trans (show d_14.1 h0 3 = d_12.1 h0 3 by rw [ed_14]; exact yi_ne (by decide))))))))).trans (show d_12.1 h0 3 = z_11 by rw [ed_12]; exact yi_self)).trans (ez_11.trans (((congrFun (show d_10.1 h1 = d_8.1 h1 by rw [ed_10]; exact (yi_o hne).1) 3)).trans (((congrFun (hgad_8 h1 (by rw [hk_h1]; decide)).1 3)).trans (congrFun (hgad_4 h1 (by rw [hk_h1]; decide)).1 3))))), ((((((show d_26.2.1 h0 8 = d_24.2.1 h0 8 by rw [ed_26]; exact yj_ne (by decide))).trans (show d_24.2.1 h0 8 = d_22.2.1 h0 8 by rw [ed_24]; exact yj_ne (by decide)))).trans (show d_22.2.1 h0 8 = z_21 by rw [ed_22]; exact yj_self)).trans (ez_21.trans (((congrFun (show d_20.2.1 h1 = d_18.2.1 h1 by rw [ed_20]; exact (yi_o hne).2) 8)).trans (((congrFun (show d_18.2.1 h1 = d_16.2.1 h1 by rw [ed_18]; exact (yi_o hne).2) 8)).trans (((congrFun (show d_16.2.1 h1 = d_14.2.1 h1 by rw [ed_16]; exact (yi_o hne).2) 8)).trans (((congrFun (show d_14.2.1 h1 = d_12.2.1 h1 by rw [ed_14]; exact (yi_o hne).2) 8)).trans (((congrFun (show d_12.2.1 h1 = d_10.2.1 h1 by rw [ed_12]; exact (yi_o hne).2) 8)).trans (((congrFun (show d_10.2.1 h1 = d_8.2.1 h1 by rw [ed_10]; exact (yi_o hne).2) 8)).trans (((congrFun (hgad_8 h1 (by rw [hk_h1]; decide)).2.1 8)).trans (congrFun (hgad_4 h1 (by rw [hk_h1]; decide)).2.1 8)))))))))), fun a ha hn => (o2 (o2 (o2 (o2 (o2 (o2 (o2 (o2 (o2 (o2 (yAg.o hgad_4 (by rw [ha]; decide)) (yAg.o hgad_8 (by rw [ha]; decide))) (show d_10.1 a = d_8.1 a ∧ d_10.2.1 a = d_8.2.1 a by rw [ed_10]; exact yi_o hn)) (show d_12.1 a = d_10.1 a ∧ d_12.2.1 a = d_10.2.1 a by rw [ed_12]; exact yi_o hn)) (show d_14.1 a = d_12.1 a ∧ d_14.2.1 a = d_12.2.1 a by rw [ed_14]; exact yi_o hn)) (show d_16.1 a = d_14.1 a ∧ d_16.2.1 a = d_14.2.1 a by rw [ed_16]; exact yi_o hn)) (show d_18.1 a = d_16.1 a ∧ d_18.2.1 a = d_16.2.1 a by rw [ed_18]; exact yi_o hn)) (show d_20.1 a = d_18.1 a ∧ d_20.2.1 a = d_18.2.1 a by rw [ed_20]; exact yi_o hn)) (show d_22.1 a = d_20.1 a ∧ d_22.2.1 a = d_20.2.1 a by rw [ed_22]; exact yj_o hn)) (show d_24.1 a = d_22.1 a ∧ d_24.2.1 a = d_22.2.1 a by rw [ed_24]; exact yj_o hn)) (show d_26.1 a = d_24.1 a ∧ d_26.2.1 a = d_24.2.1 a by rw [ed_26]; exact yj_o hn))⟩⟩, by rw [ht]; exact hP, hD⟩, hS.F ht⟩) hS.2.2 dX4_take_94
theorem dX0_take_0 : decode cX0_take 0 = .ok (.aload_n 0, 1) := by decide +kernel
theorem dX0_take_1 : decode cX0_take 1 = .ok (.getfield 12, 3) := by decide +kernel
theorem dX0_take_4 : decode cX0_take 4 = .ok (.aload_n 1, 1) := by decide +kernel
theorem dX0_take_5 : decode cX0_take 5 = .ok (.getfield 12, 3) := by decide +kernel
theorem dX0_take_8 : decode cX0_take 8 = .ok (.invokevirtual 47, 3) := by decide +kernel
theorem dX0_take_11 : decode cX0_take 11 = .ok (.aload_n 0, 1) := by decide +kernel
theorem dX0_take_12 : decode cX0_take 12 = .ok (.getfield 21, 3) := by decide +kernel
theorem dX0_take_15 : decode cX0_take 15 = .ok (.aload_n 1, 1) := by decide +kernel
theorem dX0_take_16 : decode cX0_take 16 = .ok (.getfield 21, 3) := by decide +kernel
theorem dX0_take_19 : decode cX0_take 19 = .ok (.invokevirtual 51, 3) := by decide +kernel
theorem dX0_take_22 : decode cX0_take 22 = .ok (.aload_n 0, 1) := by decide +kernel
theorem dX0_take_23 : decode cX0_take 23 = .ok (.getfield 28, 3) := by decide +kernel
theorem dX0_take_26 : decode cX0_take 26 = .ok (.aload_n 1, 1) := by decide +kernel
theorem dX0_take_27 : decode cX0_take 27 = .ok (.getfield 28, 3) := by decide +kernel
theorem dX0_take_30 : decode cX0_take 30 = .ok (.invokevirtual 54, 3) := by decide +kernel
theorem dX0_take_33 : decode cX0_take 33 = .ok (.iconst 0, 1) := by decide +kernel
theorem dX0_take_34 : decode cX0_take 34 = .ok (.istore_n 2, 1) := by decide +kernel
theorem dX0_take_35 : decode cX0_take 35 = .ok (.iload_n 2, 1) := by decide +kernel
theorem dX0_take_36 : decode cX0_take 36 = .ok (.bipush 8, 2) := by decide +kernel
theorem dX0_take_38 : decode cX0_take 38 = .ok (.if_icmp .ge 22, 3) := by decide +kernel
theorem dX0_take_41 : decode cX0_take 41 = .ok (.aload_n 0, 1) := by decide +kernel
theorem dX0_take_42 : decode cX0_take 42 = .ok (.iload_n 2, 1) := by decide +kernel
theorem dX0_take_43 : decode cX0_take 43 = .ok (.invokevirtual 57, 3) := by decide +kernel
theorem dX0_take_46 : decode cX0_take 46 = .ok (.aload_n 1, 1) := by decide +kernel
theorem dX0_take_47 : decode cX0_take 47 = .ok (.iload_n 2, 1) := by decide +kernel
theorem dX0_take_48 : decode cX0_take 48 = .ok (.invokevirtual 57, 3) := by decide +kernel
theorem dX0_take_51 : decode cX0_take 51 = .ok (.invokevirtual 61, 3) := by decide +kernel
theorem dX0_take_54 : decode cX0_take 54 = .ok (.iinc 2 1, 3) := by decide +kernel
theorem dX0_take_57 : decode cX0_take 57 = .ok (.goto (-22), 3) := by decide +kernel
theorem dX0_take_60 : decode cX0_take 60 = .ok (.aload_n 0, 1) := by decide +kernel
theorem dX0_take_61 : decode cX0_take 61 = .ok (.aload_n 1, 1) := by decide +kernel
theorem dX0_take_62 : decode cX0_take 62 = .ok (.getfield 43, 3) := by decide +kernel
theorem dX0_take_65 : decode cX0_take 65 = .ok (.putfield 43, 3) := by decide +kernel
theorem dX0_take_68 : decode cX0_take 68 = .ok (.return_, 1) := by decide +kernel
set_option maxHeartbeats 4000000 in
set_option maxRecDepth 100000 in
theorem g_X0_take (l : Launch) (G : xG) (S : yS) (d : yD) (h0 : Nat) (h1 : Nat) (hSh : ySh S) (hPo : yPo S d) (hm_h0 : h0 ∈ S.1) (hk_h0 : S.2.1 h0 = 0) (hm_h1 : h1 ∈ S.1) (hk_h1 : S.2.1 h1 = 0) (hne : h1 ≠ h0) : xWv l G yX0_take cX0_take 3 none 4 84 0 0 [.ref h0, .ref h1] (yW G S d) (fun u : yD => yAg S [0, 1, 2, 4, 6, 10, 11, 12, 13, 14, 15, 16, 18, 19, 20, 21] d u ∧ (yPo S d → yPo S u) ∧ ((u.1 (S.2.2.1 h0 0) 6 = d.1 (S.2.2.1 h1 0) 6 ∧ ∀ a, S.2.1 a = 6 → a ≠ S.2.2.1 h0 0 → u.1 a = d.1 a) ∧ zTake S d u h0 h1 ∧ zTk S d u (S.2.2.1 h0 0) (S.2.2.1 h1 0))) (fun u => yW G S u) := by
  intro sz
  refine xstart (by decide) (Nat.le_of_ble_eq_true rfl) (fun p e s m args below meth c ls C0 hr hlocks hin hsz hP hK hD hN hl => ?_)
  obtain ⟨hx, hb, hml, hown, htl⟩ := id C0
  subst hsz
  have hD := hD.self (sz := s.heap.size)
  generalize hAe : va_A (yW G S d) s.heap.size = A at hD ⊢
  have hA : ∀ q : Nat, s.heap.size ≤ q → A q := fun q h => by rw [← hAe]; exact Or.inr h
  have hS : va_S A s.heap s.heap [] := va_S.rf
  have hg0 : yAg S [0, 1, 2, 4, 6, 10, 11, 12, 13, 14, 15, 16, 18, 19, 20, 21] d d := yAg.rf
  have hl : lv_has ls 3 [(0, .ref h0), (1, .ref h1)] := hl
  refine lv_aload_n hx hb dX0_take_0 rfl (lv_at hl 0 rfl) ?_
  refine yget (ci := 0) (k := 0) (v := .ref (S.2.2.1 h0 0)) (C := RX0) (T := TX0) (N := 6) C0 hK hP hm_h0 hk_h0 (by decide) rfl inlX0 (by decide) mW31 (fun _ h9 => h9) rfl dX0_take_1 ?_
  obtain ⟨hmy_1, hky_1⟩ := ySh.f0_0 hSh _ hm_h0 hk_h0
  refine lv_aload_n hx hb dX0_take_4 rfl (lv_at hl 1 rfl) ?_
  refine yget (ci := 0) (k := 0) (v := .ref (S.2.2.1 h1 0)) (C := RX0) (T := TX0) (N := 6) C0 hK hP hm_h1 hk_h1 (by decide) rfl inlX0 (by decide) mW31 (fun _ h9 => h9) rfl dX0_take_5 ?_
  obtain ⟨hmy_2, hky_2⟩ := ySh.f0_0 hSh _ hm_h1 hk_h1
  refine yVwv (As := [.ref (S.2.2.1 h1 0)]) (rest := []) C0 (g_X6_take l G S d (S.2.2.1 h0 0) (S.2.2.1 h1 0) hSh hPo hmy_1 hky_1 hmy_2 hky_2 (fun q => hne (ySh.j0_0 hSh _ _ hm_h1 hm_h0 hk_h1 hk_h0 q))) ok_X6_take (mW1077 : Cond.methodLink RX0 47 yX6_take ∈ wsT) ⟨Nat.le_of_ble_eq_true rfl, Nat.le_of_ble_eq_true rfl⟩ hP hD hS hA hK hN hmy_1 hky_1 (by decide) rfl rfl rfl hl.1 rfl (Nat.le_of_ble_eq_true rfl) ⟨Nat.le_of_ble_eq_true rfl, Nat.le_of_ble_eq_true rfl⟩ dX0_take_8 (fun d_4 H locs hr_3 hP hD hS => ?_)
  obtain ⟨hgad_4, hpad_4, hxd_4⟩ := hr_3
  have hgd_4 : yAg S [0, 1, 2, 4, 6, 10, 11, 12, 13, 14, 15, 16, 18, 19, 20, 21] d d_4 := yAg.tr hg0 hgad_4 (by first | decide | exact fun _ h => h)
  have hPod_4 : yPo S d_4 := hpad_4 hPo
  refine lv_aload_n hx hb dX0_take_11 rfl (lv_at hl 0 rfl) ?_
  refine yget (ci := 0) (k := 1) (v := .ref (S.2.2.1 h0 1)) (C := RX0) (T := TX0) (N := 6) C0 hK hP hm_h0 hk_h0 (by decide) rfl inlX0 (by decide) mW35 (fun _ h9 => h9) rfl dX0_take_12 ?_
  obtain ⟨hmy_5, hky_5⟩ := ySh.f0_1 hSh _ hm_h0 hk_h0
  refine lv_aload_n hx hb dX0_take_15 rfl (lv_at hl 1 rfl) ?_
  refine yget (ci := 0) (k := 1) (v := .ref (S.2.2.1 h1 1)) (C := RX0) (T := TX0) (N := 6) C0 hK hP hm_h1 hk_h1 (by decide) rfl inlX0 (by decide) mW35 (fun _ h9 => h9) rfl dX0_take_16 ?_
  obtain ⟨hmy_6, hky_6⟩ := ySh.f0_1 hSh _ hm_h1 hk_h1
  refine yVwv (As := [.ref (S.2.2.1 h1 1)]) (rest := []) C0 (g_X2_take l G S d_4 (S.2.2.1 h0 1) (S.2.2.1 h1 1) hSh hPod_4 hmy_5 hky_5 hmy_6 hky_6) ok_X2_take (mW1084 : Cond.methodLink RX0 51 yX2_take ∈ wsT) ⟨Nat.le_of_ble_eq_true rfl, Nat.le_of_ble_eq_true rfl⟩ hP hD hS hA hK hN hmy_5 hky_5 (by decide) rfl rfl rfl hl.1 rfl (Nat.le_of_ble_eq_true rfl) ⟨Nat.le_of_ble_eq_true rfl, Nat.le_of_ble_eq_true rfl⟩ dX0_take_19 (fun d_8 H locs hr_7 hP hD hS => ?_)
  obtain ⟨hgad_8, hpad_8, hxd_8⟩ := hr_7
  have hgd_8 : yAg S [0, 1, 2, 4, 6, 10, 11, 12, 13, 14, 15, 16, 18, 19, 20, 21] d d_8 := yAg.tr hgd_4 hgad_8 (by first | decide | exact fun _ h => h)
  have hPod_8 : yPo S d_8 := hpad_8 hPod_4
  refine lv_aload_n hx hb dX0_take_22 rfl (lv_at hl 0 rfl) ?_
  refine yget (ci := 0) (k := 2) (v := .ref (S.2.2.1 h0 2)) (C := RX0) (T := TX0) (N := 6) C0 hK hP hm_h0 hk_h0 (by decide) rfl inlX0 (by decide) mW39 (fun _ h9 => h9) rfl dX0_take_23 ?_
  obtain ⟨hmy_9, hky_9⟩ := ySh.f0_2 hSh _ hm_h0 hk_h0
  refine lv_aload_n hx hb dX0_take_26 rfl (lv_at hl 1 rfl) ?_
  refine yget (ci := 0) (k := 2) (v := .ref (S.2.2.1 h1 2)) (C := RX0) (T := TX0) (N := 6) C0 hK hP hm_h1 hk_h1 (by decide) rfl inlX0 (by decide) mW39 (fun _ h9 => h9) rfl dX0_take_27 ?_
  obtain ⟨hmy_10, hky_10⟩ := ySh.f0_2 hSh _ hm_h1 hk_h1
  refine yVwv (As := [.ref (S.2.2.1 h1 2)]) (rest := []) C0 (g_X1_take l G S d_8 (S.2.2.1 h0 2) (S.2.2.1 h1 2) hSh hPod_8 hmy_9 hky_9 hmy_10 hky_10 (fun q => hne (ySh.j0_2 hSh _ _ hm_h1 hm_h0 hk_h1 hk_h0 q))) ok_X1_take (mW1088 : Cond.methodLink RX0 54 yX1_take ∈ wsT) ⟨Nat.le_of_ble_eq_true rfl, Nat.le_of_ble_eq_true rfl⟩ hP hD hS hA hK hN hmy_9 hky_9 (by decide) rfl rfl rfl hl.1 rfl (Nat.le_of_ble_eq_true rfl) ⟨Nat.le_of_ble_eq_true rfl, Nat.le_of_ble_eq_true rfl⟩ dX0_take_30 (fun d_12 H locs hr_11 hP hD hS => ?_)
  obtain ⟨hgad_12, hpad_12, hxd_12⟩ := hr_11
  have hgd_12 : yAg S [0, 1, 2, 4, 6, 10, 11, 12, 13, 14, 15, 16, 18, 19, 20, 21] d d_12 := yAg.tr hgd_8 hgad_12 (by first | decide | exact fun _ h => h)
  have hPod_12 : yPo S d_12 := hpad_12 hPod_8
  refine lv_iconst (v := 0) hx hb dX0_take_33 (by decide) ?_
  refine lv_istore_n (lv' := [(2, .int 0), (0, .ref h0), (1, .ref h1)]) hx hb dX0_take_34 rfl hl (by decide) rfl (fun ls hl => ?_)
  refine yloop (σ := Int32 × yD) (fun x => (2147483647 - (x.1 : Int32).toInt).toNat) 35 (fun x H locs ls => va_P G.1 xcl (yW G S x.2) H ∧ va_D A (yW G S x.2) ∧ va_S A s.heap H locs ∧ yAg S [0, 1, 2, 4, 6, 10, 11, 12, 13, 14, 15, 16, 18, 19, 20, 21] d x.2 ∧ yPo S x.2 ∧ yAg S [4, 20, 21] d_12 x.2 ∧ (zTI S d_12 x.2 h0 h1 x.1) ∧ lv_has ls 3 [(2, .int x.1), (0, .ref h0), (1, .ref h1)]) (fun x H locs ls hI hnext_15 => ?_) (0, d_12) ⟨hP, hD, hS, hgd_12, hPod_12, yAg.rf, zTI.ini, lv_sub hl [0, 1, 2] rfl⟩
  obtain ⟨v_13, d_14⟩ := x
  obtain ⟨hP, hD, hS, hgd_14, hPod_14, hLJd_14, hex_16, hl⟩ := hI
  have hex_16 : (zTI S d_12 d_14 h0 h1 v_13) := hex_16
  have hl : lv_has ls 3 [(2, .int v_13), (0, .ref h0), (1, .ref h1)] := hl
  have hLJd_14 : yAg S [4, 20, 21] d_12 d_14 := hLJd_14
  refine lv_iload_n hx hb dX0_take_35 rfl (lv_at hl 0 rfl) ?_
  refine lv_bipush (v := 8) hx hb dX0_take_36 (by decide) ?_
  refine lv_icmp_ge (tgt := 60) hx hb dX0_take_38 (by decide) (fun c_17 => ?_) (fun c_17 => ?_)
  · refine lv_aload_n hx hb dX0_take_60 rfl (lv_at hl 1 rfl) ?_
    refine lv_aload_n hx hb dX0_take_61 rfl (lv_at hl 2 rfl) ?_
    refine yget (ci := 0) (k := 5) (v := .int (d_14.1 h1 5)) (C := RX0) (T := TX0) (N := 6) C0 hK hP hm_h1 hk_h1 (by decide) rfl inlX0 (by decide) mW698 (fun _ h9 => h9) rfl dX0_take_62 ?_
    refine lv_topi (fun z_18 ez_18 => ?_)
    refine yputI (ci := 0) (k := 5) (ty := .int) (C := RX0) (T := TX0) (N := 6) C0 hK hP hD hS hm_h0 hk_h0 (by decide) rfl inlX0 tyX0 tyX0_ok nmX0 (by decide) mW698 (fun _ h9 => h9) rfl (by decide +kernel) rfl rfl (Nat.le_of_ble_eq_true rfl) ysi_0_5 dX0_take_65 (fun H locs hP hD hS => ?_)
    obtain ⟨d_19, ed_19⟩ : ∃ z : yD, z = yi d_14 h0 5 z_18 := ⟨_, rfl⟩
    rw [← ed_19] at hP hD
    have hgd_19 : yAg S [0, 1, 2, 4, 6, 10, 11, 12, 13, 14, 15, 16, 18, 19, 20, 21] d d_19 := by rw [ed_19]; exact yAg.i hgd_14 (by rw [hk_h0]; decide)
    have hsd_19 : yAg S [0] d_14 d_19 := by rw [ed_19]; exact yAg.i yAg.rf (by rw [hk_h0]; decide)
    have hPod_19 : yPo S d_19 := by rw [ed_19]; exact yPo.i hPod_14 hk_h0 (Or.inl rfl)
    exact W.vret hx hb hr (fun t ht hW => ⟨⟨d_19, rfl, ⟨hgd_19, (fun _ => hPod_19), ⟨⟨(congrFun ((o2 (o2 (o2 (yAg.o hgad_8 (a := (S.2.2.1 h0 0)) (by rw [hky_1]; decide)) (yAg.o hgad_12 (a := (S.2.2.1 h0 0)) (by rw [hky_1]; decide))) (yAg.o hLJd_14 (a := (S.2.2.1 h0 0)) (by rw [hky_1]; decide))) (yAg.o hsd_19 (a := (S.2.2.1 h0 0)) (by rw [hky_1]; decide)))).1 6).trans hxd_4.1.1, fun a ha hn => ((o2 (o2 (o2 (yAg.o hgad_8 (a := a) (by rw [ha]; decide)) (yAg.o hgad_12 (a := a) (by rw [ha]; decide))) (yAg.o hLJd_14 (a := a) (by rw [ha]; decide))) (yAg.o hsd_19 (a := a) (by rw [ha]; decide)))).1.trans (hxd_4.1.2 a ha hn)⟩, ⟨⟨((congrFun ((o2 (yAg.o hLJd_14 (a := (S.2.2.1 h0 2)) (by rw [hky_9]; decide)) (yAg.o hsd_19 (a := (S.2.2.1 h0 2)) (by rw [hky_9]; decide)))).1 2).trans (hxd_12.1.trans (congrFun ((o2 (yAg.o hgad_4 (a := (S.2.2.1 h1 2)) (by rw [hky_10]; decide)) (yAg.o hgad_8 (a := (S.2.2.1 h1 2)) (by rw [hky_10]; decide)))).1 2))), ((congrFun ((o2 (yAg.o hLJd_14 (a := (S.2.2.1 h0 2)) (by rw [hky_9]; decide)) (yAg.o hsd_19 (a := (S.2.2.1 h0 2)) (by rw [hky_9]; decide)))).1 3).trans (hxd_12.2.1.trans (congrFun ((o2 (yAg.o hgad_4 (a := (S.2.2.1 h1 2)) (by rw [hky_10]; decide)) (yAg.o hgad_8 (a := (S.2.2.1 h1 2)) (by rw [hky_10]; decide)))).1 3))), fun a ha hn => o2 (o2 (o2 (yAg.o hgad_4 (a := a) (by rw [ha]; decide)) (yAg.o hgad_8 (a := a) (by rw [ha]; decide))) (hxd_12.2.2 a ha hn)) (o2 (yAg.o hLJd_14 (a := a) (by rw [ha]; decide)) (yAg.o hsd_19 (a := a) (by rw [ha]; decide)))⟩, zTI.fin hex_16 hSh hm_h0 hk_h0 hm_h1 hk_h1 c_17 (fun a ha => (yAg.o hsd_19 (a := a) (by rw [ha]; decide))) (fun a ha => (o2 (o2 (yAg.o hgad_4 (a := a) (by rw [ha]; decide)) (yAg.o hgad_8 (a := a) (by rw [ha]; decide))) (yAg.o hgad_12 (a := a) (by rw [ha]; decide))))⟩, (zTk.ag (zTk.ag (zTk.ag (zTk.ag hxd_4.2 hSh hmy_1 hky_1 hgad_8 (by decide)) hSh hmy_1 hky_1 hgad_12 (by decide)) hSh hmy_1 hky_1 hLJd_14 (by decide)) hSh hmy_1 hky_1 hsd_19 (by decide))⟩⟩, by rw [ht]; exact hP, hD⟩, hS.F ht⟩) hS.2.2 dX0_take_68
  · refine lv_aload_n hx hb dX0_take_41 rfl (lv_at hl 1 rfl) ?_
    refine lv_iload_n hx hb dX0_take_42 rfl (lv_at hl 0 rfl) ?_
    refine yVrr (As := [.int v_13]) (rest := []) C0 (g_X0_portAt l G S d_14 h0 v_13 hSh hm_h0 hk_h0) ok_X0_portAt (mW1092 : Cond.methodLink RX0 57 yX0_portAt ∈ wsT) ⟨Nat.le_of_ble_eq_true rfl, Nat.le_of_ble_eq_true rfl⟩ hP hD hK hN hm_h0 hk_h0 (by decide) rfl rfl rfl hl.1 rfl (Nat.le_of_ble_eq_true rfl) ⟨Nat.le_of_ble_eq_true rfl, Nat.le_of_ble_eq_true rfl⟩ dX0_take_43 (fun r_20 hr_20 => ?_)
    obtain ⟨hmr_20, hkr_20, her_20⟩ := hr_20
    refine lv_aload_n hx hb dX0_take_46 rfl (lv_at hl 2 rfl) ?_
    refine lv_iload_n hx hb dX0_take_47 rfl (lv_at hl 0 rfl) ?_
    refine yVrr (As := [.int v_13]) (rest := [.ref r_20]) C0 (g_X0_portAt l G S d_14 h1 v_13 hSh hm_h1 hk_h1) ok_X0_portAt (mW1092 : Cond.methodLink RX0 57 yX0_portAt ∈ wsT) ⟨Nat.le_of_ble_eq_true rfl, Nat.le_of_ble_eq_true rfl⟩ hP hD hK hN hm_h1 hk_h1 (by decide) rfl rfl rfl hl.1 rfl (Nat.le_of_ble_eq_true rfl) ⟨Nat.le_of_ble_eq_true rfl, Nat.le_of_ble_eq_true rfl⟩ dX0_take_48 (fun r_21 hr_21 => ?_)
    obtain ⟨hmr_21, hkr_21, her_21⟩ := hr_21
    refine yVwv (As := [.ref r_21]) (rest := []) C0 (g_X4_take l G S d_14 r_20 r_21 hSh hPod_14 hmr_20 hkr_20 hmr_21 hkr_21 (by rw [her_21, her_20]; exact yPA_ne hSh hm_h0 hk_h0 hm_h1 hk_h1 hne)) ok_X4_take (mW1093 : Cond.methodLink RX0 61 yX4_take ∈ wsT) ⟨Nat.le_of_ble_eq_true rfl, Nat.le_of_ble_eq_true rfl⟩ hP hD hS hA hK hN hmr_20 hkr_20 (by decide) rfl rfl rfl hl.1 rfl (Nat.le_of_ble_eq_true rfl) ⟨Nat.le_of_ble_eq_true rfl, Nat.le_of_ble_eq_true rfl⟩ dX0_take_51 (fun d_23 H locs hr_22 hP hD hS => ?_)
    obtain ⟨hgad_23, hpad_23, hxd_23⟩ := hr_22
    have hL0d_23 : yAg S [4, 20, 21] d_12 d_23 := yAg.tr hLJd_14 hgad_23 (by first | decide | exact fun _ h => h)
    have hgd_23 : yAg S [0, 1, 2, 4, 6, 10, 11, 12, 13, 14, 15, 16, 18, 19, 20, 21] d d_23 := yAg.tr hgd_14 hgad_23 (by first | decide | exact fun _ h => h)
    have hPod_23 : yPo S d_23 := hpad_23 hPod_14
    refine lv_iinc (v := v_13 + 1) (lv' := [(2, .int (v_13 + 1)), (0, .ref h0), (1, .ref h1)]) hx hb dX0_take_54 hl (k := 0) rfl rfl (by decide) rfl (fun ls hl => ?_)
    refine lv_goto (tgt := 35) hx hb dX0_take_57 (by decide) ?_
    exact hnext_15 (v_13 + 1, d_23) _ _ ls (xup c_17) ⟨hP, hD, hS, hgd_23, hPod_23, hL0d_23, (zTI.step hex_16 hSh hm_h0 hk_h0 hm_h1 hk_h1 hne c_17 her_20 her_21 hxd_23), lv_sub hl [0, 1, 2] rfl⟩
