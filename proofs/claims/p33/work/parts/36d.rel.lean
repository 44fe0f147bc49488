def zR4 (S : yS) (d : yD) (q m : Nat) : Prop := zR S d q m ∧ yR3 S d q m ∧ zI3 S d
section ZR4
variable {S : yS} {d u1 u2 : yD} {q m : Nat} {M M' F : List Nat}
theorem zR4.gen (h : zR4 S d q m) (hSh : ySh S) (hq : q ∈ S.1) (hkq : S.2.1 q = 8) (hm : m ∈ S.1) (hkm : S.2.1 m = 9) (hnk : S.2.2.1 q 0 ≠ S.2.2.1 q 1) (hg1 : yAg S M d u1) (hM : (6 ∉ M ∧ 9 ∉ M ∧ 51 ∉ M) ∧ (9 ∉ M ∧ 41 ∉ M ∧ 51 ∉ M ∧ 59 ∉ M) ∧ 1 ∉ M ∧ 4 ∉ M) (hN : zNoR M ∧ zNoK M ∧ zNoD M) (hi : u1.1 q 4 = d.1 q 4) (hg2 : yAg S M' u1 u2) (hM' : (8 ∉ M' ∧ 6 ∉ M' ∧ 51 ∉ M') ∧ (1 ∉ M' ∧ 4 ∉ M' ∧ 8 ∉ M' ∧ 51 ∉ M' ∧ 59 ∉ M') ∧ 41 ∉ M') (hN' : zNoD M' ∧ zNoK M' ∧ zNoR M') (hf : yK F u1 u2 m) (hF : (0 ∉ F ∧ 20 ∉ F) ∧ 2 ∉ F ∧ 3 ∉ F) : zR4 S u2 q m :=
  ⟨h.1.gen hSh hq hkq hm hkm hg1 hM hi hg2 hM' hf hF, h.2.1.gen hSh hq hkq hm hkm hnk hg1 ⟨hM.1.2.1, hM.1.2.2, hN.1, hN.2.1⟩ hN.2.2 hg2 ⟨hM'.1.1, hM'.1.2.2, hN'.1, hN'.2.1⟩ hN'.2.2 hi (hf 0 hF.1.1), h.2.2.kp (fun a ha => congrFun (hg1 a (by rw [ha]; exact hM.2.2.2)).1 3) hg2 hM'.2.1.2.1⟩
theorem zR4.tog (h : zR4 S d q m) (hSh : ySh S) (hq : q ∈ S.1) (hkq : S.2.1 q = 8) (hm : m ∈ S.1) (hkm : S.2.1 m = 9) (hnk : S.2.2.1 q 0 ≠ S.2.2.1 q 1) (hg1 : yAg S M d u1) (hM : (6 ∉ M ∧ 9 ∉ M ∧ 51 ∉ M) ∧ (9 ∉ M ∧ 41 ∉ M ∧ 51 ∉ M ∧ 59 ∉ M) ∧ 1 ∉ M ∧ 4 ∉ M) (hN : zNoR M ∧ zNoK M ∧ zNoD M) (hi : u1.1 q 4 = d.1 q 4) (hg2 : yAg S M' u1 u2) (hM' : (8 ∉ M' ∧ 6 ∉ M' ∧ 51 ∉ M') ∧ (1 ∉ M' ∧ 4 ∉ M' ∧ 8 ∉ M' ∧ 51 ∉ M' ∧ 59 ∉ M')) (hN' : zNoD M' ∧ zNoK M' ∧ zNoR M') (hf : yK F u1 u2 m) (hF : (0 ∉ F ∧ 20 ∉ F) ∧ 2 ∉ F ∧ 3 ∉ F) (gp : zPf S u1 u2 m (fun _ => False)) : zR4 S u2 q m :=
  ⟨h.1.tog hSh hq hkq hm hkm hg1 hM hi hg2 hM' hf hF gp, h.2.1.gen hSh hq hkq hm hkm hnk hg1 ⟨hM.1.2.1, hM.1.2.2, hN.1, hN.2.1⟩ hN.2.2 hg2 ⟨hM'.1.1, hM'.1.2.2, hN'.1, hN'.2.1⟩ hN'.2.2 hi (hf 0 hF.1.1), h.2.2.kp (fun a ha => congrFun (hg1 a (by rw [ha]; exact hM.2.2.2)).1 3) hg2 hM'.2.2.1⟩
theorem zR4.ini (h : zIni S d) (hSh : ySh S) (hq : q ∈ S.1) (hkq : S.2.1 q = 8) (hm : m ∈ S.1) (hkm : S.2.1 m = 9) : zR4 S d q m := ⟨zR.ini h hSh hq hkq hm hkm, yR3.ini h hSh hq hkq hm hkm, zI3.ini h⟩
set_option maxHeartbeats 1000000 in
theorem zR4.claim {p0 : Int32} {r r2 : Int32} (h : zR4 S d q m) (hMI : yMI S u1 m) (hPo : yPo S d) (hSh : ySh S) (hq : q ∈ S.1) (hkq : S.2.1 q = 8) (hm : m ∈ S.1) (hkm : S.2.1 m = 9) (hnk : S.2.2.1 q 0 ≠ S.2.2.1 q 1) (hg1 : yAg S [1, 8, 24] d u1) (hg2 : yAg S [9, 69] u1 u2) (hf : yK [2, 3, 38] u1 u2 m) (x1 : ((r.toInt = 0 ∧ ¬ (0 ≤ p0.toInt ∧ p0.toInt ≤ 7 ∧ 0 < (d.1 (yPA S (S.2.2.1 q 0) p0) 2).toInt) ∧ zKp S 1 d u1) ∨ (r.toInt = 1 ∧ (0 ≤ p0.toInt ∧ p0.toInt ≤ 7 ∧ 0 < (d.1 (yPA S (S.2.2.1 q 0) p0) 2).toInt) ∧ u1.1 (S.2.2.1 (S.2.2.1 q 0) 2) 3 = p0 ∧ u1.1 (S.2.2.1 (S.2.2.1 q 0) 2) 2 = 0 ∧ ∀ a, S.2.1 a = 1 → a ≠ (S.2.2.1 (S.2.2.1 q 0) 2) → u1.1 a = d.1 a ∧ u1.2.1 a = d.2.1 a)) ∧ u1.1 q 4 = d.1 q 4) (x2 : yMI S u2 m ∧ ((r2.toInt = 0 ∧ ¬ (0 ≤ p0.toInt ∧ p0.toInt ≤ 7 ∧ yOI S u1 m p0.toInt.toNat = 1) ∧ u2.1 m 2 = u1.1 m 2 ∧ u2.1 m 3 = u1.1 m 3) ∨ (r2.toInt = 1 ∧ (0 ≤ p0.toInt ∧ p0.toInt ≤ 7 ∧ yOI S u1 m p0.toInt.toNat = 1) ∧ u2.1 m 3 = p0 ∧ u2.1 m 2 = 0))) : r = r2 ∧ zR4 S u2 q m := by
  obtain ⟨e, g⟩ := zR.claim h.1 hPo hSh hq hkq hm hkm hnk hg1 hg2 hf x1 x2
  exact ⟨e, g, h.2.1.gen hSh hq hkq hm hkm hnk hg1 (by decide) (by decide) hg2 (by decide) (by decide) x1.2 (hf 0 (by decide)), h.2.2.kp (fun a ha => congrFun (hg1 a (by rw [ha]; decide)).1 3) hg2 (by decide)⟩
set_option maxHeartbeats 1000000 in
theorem zR4.tell {p0 : Int32} {p1 : Int32} {r r2 : Int32} (h : zR4 S d q m) (hMI : yMI S u1 m) (hPo : yPo S d) (hSh : ySh S) (hq : q ∈ S.1) (hkq : S.2.1 q = 8) (hm : m ∈ S.1) (hkm : S.2.1 m = 9) (hnk : S.2.2.1 q 0 ≠ S.2.2.1 q 1) (hg1 : yAg S [1, 8, 18, 19, 24] d u1) (hg2 : yAg S [9, 48, 49, 69] u1 u2) (hf : yK [2, 38] u1 u2 m) (x1 : ((r.toInt = -1 ∧ ¬ (1 ≤ p0.toInt ∧ p0.toInt ≤ 129600 ∧ (p1.toInt = -2 ∨ p1.toInt = -3 ∨ (0 ≤ p1.toInt ∧ p1.toInt ≤ 59)) ∧ (d.1 (S.2.2.1 (S.2.2.1 q 0) 2) 3).toInt ≠ -1 ∧ (d.1 (S.2.2.1 (S.2.2.1 q 0) 2) 2).toInt < 500) ∧ zKp S 1 d u1) ∨ ((1 ≤ p0.toInt ∧ p0.toInt ≤ 129600 ∧ (p1.toInt = -2 ∨ p1.toInt = -3 ∨ (0 ≤ p1.toInt ∧ p1.toInt ≤ 59)) ∧ (d.1 (S.2.2.1 (S.2.2.1 q 0) 2) 3).toInt ≠ -1 ∧ (d.1 (S.2.2.1 (S.2.2.1 q 0) 2) 2).toInt < 500) ∧ r = d.1 (S.2.2.1 (S.2.2.1 q 0) 2) 2 + 1 ∧ u1.1 (S.2.2.1 (S.2.2.1 q 0) 2) 2 = d.1 (S.2.2.1 (S.2.2.1 q 0) 2) 2 + 1 ∧ u1.1 (S.2.2.1 (S.2.2.1 q 0) 2) 3 = d.1 (S.2.2.1 (S.2.2.1 q 0) 2) 3 ∧ ∀ a, S.2.1 a = 1 → a ≠ (S.2.2.1 (S.2.2.1 q 0) 2) → u1.1 a = d.1 a ∧ u1.2.1 a = d.2.1 a)) ∧ u1.1 q 4 = d.1 q 4) (x2 : yMI S u2 m ∧ ((r2.toInt = -1 ∧ ¬ (1 ≤ p0.toInt ∧ p0.toInt ≤ 129600 ∧ (p1.toInt = -2 ∨ p1.toInt = -3 ∨ (0 ≤ p1.toInt ∧ p1.toInt ≤ 59)) ∧ 0 ≤ (u1.1 m 3).toInt ∧ (u1.1 m 2).toInt < 500) ∧ u2.1 m 2 = u1.1 m 2 ∧ u2.1 m 3 = u1.1 m 3) ∨ (r2.toInt = (u1.1 m 2).toInt + 1 ∧ (1 ≤ p0.toInt ∧ p0.toInt ≤ 129600 ∧ (p1.toInt = -2 ∨ p1.toInt = -3 ∨ (0 ≤ p1.toInt ∧ p1.toInt ≤ 59)) ∧ 0 ≤ (u1.1 m 3).toInt ∧ (u1.1 m 2).toInt < 500) ∧ (u2.1 m 2).toInt = (u1.1 m 2).toInt + 1 ∧ u2.1 m 3 = u1.1 m 3))) : r = r2 ∧ zR4 S u2 q m := by
  obtain ⟨e, g⟩ := zR.tell h.1 hMI hPo hSh hq hkq hm hkm hnk hg1 hg2 hf x1 x2
  exact ⟨e, g, h.2.1.gen hSh hq hkq hm hkm hnk hg1 (by decide) (by decide) hg2 (by decide) (by decide) x1.2 (hf 0 (by decide)), h.2.2.kp (fun a ha => congrFun (hg1 a (by rw [ha]; decide)).1 3) hg2 (by decide)⟩
set_option maxHeartbeats 1000000 in
theorem zR4.day {p0 : Int32} {p1 : Int32} {r r2 : Int32} (h : zR4 S d q m) (hMI : yMI S u1 m) (hPo : yPo S d) (hSh : ySh S) (hq : q ∈ S.1) (hkq : S.2.1 q = 8) (hm : m ∈ S.1) (hkm : S.2.1 m = 9) (hnk : S.2.2.1 q 0 ≠ S.2.2.1 q 1) (hg1 : yAg S [2, 8, 16, 20, 24] d u1) (hg2 : yAg S [9, 42, 43, 45, 46, 47, 69] u1 u2) (hf : yK [1, 38] u1 u2 m) (x1 : ((r.toInt = 0 ∧ ¬ (0 ≤ p0.toInt ∧ p0.toInt ≤ 7 ∧ 0 < (d.1 (yPA S (S.2.2.1 q 0) p0) 2).toInt ∧ 0 ≤ p1.toInt ∧ p1.toInt ≤ 89 ∧ p1.toInt < (d.1 (yPA S (S.2.2.1 q 0) p0) 2).toInt)) ∨ (r.toInt = 1 ∧ (0 ≤ p0.toInt ∧ p0.toInt ≤ 7 ∧ 0 < (d.1 (yPA S (S.2.2.1 q 0) p0) 2).toInt ∧ 0 ≤ p1.toInt ∧ p1.toInt ≤ 89 ∧ p1.toInt < (d.1 (yPA S (S.2.2.1 q 0) p0) 2).toInt))) ∧ u1.1 q 4 = d.1 q 4) (x2 : yMI S u2 m ∧ ((r2.toInt = 0 ∧ ¬ (0 ≤ p0.toInt ∧ p0.toInt ≤ 7 ∧ yOI S u1 m p0.toInt.toNat = 1 ∧ 0 ≤ p1.toInt ∧ p1.toInt < yOf S u1 m p0.toInt.toNat 2)) ∨ (r2.toInt = 1 ∧ (0 ≤ p0.toInt ∧ p0.toInt ≤ 7 ∧ yOI S u1 m p0.toInt.toNat = 1 ∧ 0 ≤ p1.toInt ∧ p1.toInt < yOf S u1 m p0.toInt.toNat 2)))) : r = r2 ∧ zR4 S u2 q m := by
  obtain ⟨e, g⟩ := zR.day h.1 hPo hSh hq hkq hm hkm hnk hg1 hg2 hf x1 x2
  exact ⟨e, g, h.2.1.gen hSh hq hkq hm hkm hnk hg1 (by decide) (by decide) hg2 (by decide) (by decide) x1.2 (hf 0 (by decide)), h.2.2.kp (fun a ha => congrFun (hg1 a (by rw [ha]; decide)).1 3) hg2 (by decide)⟩
set_option maxHeartbeats 1000000 in
theorem zR4.weight {p0 : Int32} {p1 : Int32} {r r2 : Int64} (h : zR4 S d q m) (hMI : yMI S u1 m) (hPo : yPo S d) (hSh : ySh S) (hq : q ∈ S.1) (hkq : S.2.1 q = 8) (hm : m ∈ S.1) (hkm : S.2.1 m = 9) (hnk : S.2.2.1 q 0 ≠ S.2.2.1 q 1) (hg1 : yAg S [8, 24] d u1) (hg2 : yAg S [9, 69] u1 u2) (hf : yK [38] u1 u2 m) (x1 : ((r = -1 ∧ ¬ (0 ≤ p0.toInt ∧ p0.toInt ≤ 7 ∧ 0 < (d.1 (yPA S (S.2.2.1 q 0) p0) 2).toInt ∧ 0 ≤ p1.toInt ∧ p1.toInt ≤ 1)) ∨ ((0 ≤ p0.toInt ∧ p0.toInt ≤ 7 ∧ 0 < (d.1 (yPA S (S.2.2.1 q 0) p0) 2).toInt ∧ 0 ≤ p1.toInt ∧ p1.toInt ≤ 1) ∧ (p1.toInt = 0 → r = d.2.1 (yPA S (S.2.2.1 q 0) p0) 8 / 1000) ∧ (p1.toInt = 1 → r = d.2.1 (yPA S (S.2.2.1 q 0) p0) 8 - d.2.1 (yPA S (S.2.2.1 q 0) p0) 8 / 1000 * 1000))) ∧ u1.1 q 4 = d.1 q 4) (x2 : yMI S u2 m ∧ ((r2 = -1 ∧ ¬ (0 ≤ p0.toInt ∧ p0.toInt ≤ 7 ∧ yOI S u1 m p0.toInt.toNat = 1 ∧ 0 ≤ p1.toInt ∧ p1.toInt ≤ 1)) ∨ ((0 ≤ p0.toInt ∧ p0.toInt ≤ 7 ∧ yOI S u1 m p0.toInt.toNat = 1 ∧ 0 ≤ p1.toInt ∧ p1.toInt ≤ 1) ∧ (p1.toInt = 0 → r2 = u1.2.2.2.2 (S.2.2.1 m 11) (12 * p0.toInt.toNat + 3) / 1000) ∧ (p1.toInt = 1 → r2 = u1.2.2.2.2 (S.2.2.1 m 11) (12 * p0.toInt.toNat + 3) - u1.2.2.2.2 (S.2.2.1 m 11) (12 * p0.toInt.toNat + 3) / 1000 * 1000)))) : r = r2 ∧ zR4 S u2 q m := by
  obtain ⟨e, g⟩ := zR.weight h.1 hPo hSh hq hkq hm hkm hnk hg1 hg2 hf x1 x2
  exact ⟨e, g, h.2.1.gen hSh hq hkq hm hkm hnk hg1 (by decide) (by decide) hg2 (by decide) (by decide) x1.2 (hf 0 (by decide)), h.2.2.kp (fun a ha => congrFun (hg1 a (by rw [ha]; decide)).1 3) hg2 (by decide)⟩
set_option maxHeartbeats 1000000 in
theorem zR4.office {p0 : Int32} {p1 : Int32} {p2 : Int32} {p3 : Int32} {r r2 : Int32} (h : zR4 S d q m) (hMI : yMI S u1 m) (hPo : yPo S d) (hSh : ySh S) (hq : q ∈ S.1) (hkq : S.2.1 q = 8) (hm : m ∈ S.1) (hkm : S.2.1 m = 9) (hnk : S.2.2.1 q 0 ≠ S.2.2.1 q 1) (hg1 : yAg S [4, 8, 24] d u1) (hg2 : yAg S [9, 41, 69] u1 u2) (hf : yK [38] u1 u2 m) (x1 : ((r.toInt = 0 ∧ ¬ (0 ≤ p0.toInt ∧ p0.toInt ≤ 7 ∧ 0 < (d.1 (yPA S (S.2.2.1 q 0) p0) 2).toInt ∧ 0 ≤ p1.toInt ∧ p1.toInt ≤ 1440 ∧ 0 ≤ p2.toInt ∧ p2.toInt ≤ 1440 ∧ 0 ≤ p3.toInt ∧ p3.toInt ≤ 100000) ∧ ∀ a, S.2.1 a = 4 → u1.1 a 2 = d.1 a 2 ∧ u1.1 a 3 = d.1 a 3 ∧ u1.2.1 a 8 = d.2.1 a 8) ∨ (r.toInt = 1 ∧ (0 ≤ p0.toInt ∧ p0.toInt ≤ 7 ∧ 0 < (d.1 (yPA S (S.2.2.1 q 0) p0) 2).toInt ∧ 0 ≤ p1.toInt ∧ p1.toInt ≤ 1440 ∧ 0 ≤ p2.toInt ∧ p2.toInt ≤ 1440 ∧ 0 ≤ p3.toInt ∧ p3.toInt ≤ 100000) ∧ ∀ a, S.2.1 a = 4 → u1.1 a 2 = d.1 a 2 ∧ u1.1 a 3 = d.1 a 3 ∧ u1.2.1 a 8 = d.2.1 a 8)) ∧ u1.1 q 4 = d.1 q 4) (x2 : yMI S u2 m ∧ ((r2.toInt = 0 ∧ ¬ (0 ≤ p0.toInt ∧ p0.toInt ≤ 7 ∧ yOI S u1 m p0.toInt.toNat = 1 ∧ 0 ≤ p1.toInt ∧ p1.toInt ≤ 1440 ∧ 0 ≤ p2.toInt ∧ p2.toInt ≤ 1440 ∧ 0 ≤ p3.toInt ∧ p3.toInt ≤ 100000) ∧ zPf S u1 u2 m (fun _ => False)) ∨ (r2.toInt = 1 ∧ (0 ≤ p0.toInt ∧ p0.toInt ≤ 7 ∧ yOI S u1 m p0.toInt.toNat = 1 ∧ 0 ≤ p1.toInt ∧ p1.toInt ≤ 1440 ∧ 0 ≤ p2.toInt ∧ p2.toInt ≤ 1440 ∧ 0 ≤ p3.toInt ∧ p3.toInt ≤ 100000) ∧ zPf S u1 u2 m (fun _ => False)))) : r = r2 ∧ zR4 S u2 q m := by
  obtain ⟨e, g⟩ := zR.office h.1 hPo hSh hq hkq hm hkm hnk hg1 hg2 hf x1 x2
  refine ⟨e, g, h.2.1.gen hSh hq hkq hm hkm hnk hg1 (by decide) (by decide) hg2 (by decide) (by decide) x1.2 (hf 0 (by decide)), h.2.2.kp ?_ hg2 (by decide)⟩
  rcases x1.1 with ⟨-, -, a⟩ | ⟨-, -, a⟩
  · exact fun x hx => (a x hx).2.1
  · exact fun x hx => (a x hx).2.1
set_option maxHeartbeats 1000000 in
theorem zR4.offset {p0 : Int32} {p1 : Int32} {r r2 : Int32} (h : zR4 S d q m) (hMI : yMI S u1 m) (hPo : yPo S d) (hSh : ySh S) (hq : q ∈ S.1) (hkq : S.2.1 q = 8) (hm : m ∈ S.1) (hkm : S.2.1 m = 9) (hnk : S.2.2.1 q 0 ≠ S.2.2.1 q 1) (hg1 : yAg S [4, 8, 24] d u1) (hg2 : yAg S [9, 41, 69] u1 u2) (hf : yK [38] u1 u2 m) (x1 : ((r.toInt = 0 ∧ ¬ (0 ≤ p0.toInt ∧ p0.toInt ≤ 7 ∧ 0 < (d.1 (yPA S (S.2.2.1 q 0) p0) 2).toInt ∧ 0 ≤ p1.toInt ∧ p1.toInt ≤ 1000000) ∧ ∀ a, S.2.1 a = 4 → u1.1 a 2 = d.1 a 2 ∧ u1.1 a 3 = d.1 a 3 ∧ u1.2.1 a 8 = d.2.1 a 8) ∨ (r.toInt = 1 ∧ (0 ≤ p0.toInt ∧ p0.toInt ≤ 7 ∧ 0 < (d.1 (yPA S (S.2.2.1 q 0) p0) 2).toInt ∧ 0 ≤ p1.toInt ∧ p1.toInt ≤ 1000000) ∧ ∀ a, S.2.1 a = 4 → u1.1 a 2 = d.1 a 2 ∧ u1.1 a 3 = d.1 a 3 ∧ u1.2.1 a 8 = d.2.1 a 8)) ∧ u1.1 q 4 = d.1 q 4) (x2 : yMI S u2 m ∧ ((r2.toInt = 0 ∧ ¬ (0 ≤ p0.toInt ∧ p0.toInt ≤ 7 ∧ yOI S u1 m p0.toInt.toNat = 1 ∧ 0 ≤ p1.toInt ∧ p1.toInt ≤ 1000000) ∧ zPf S u1 u2 m (fun _ => False)) ∨ (r2.toInt = 1 ∧ (0 ≤ p0.toInt ∧ p0.toInt ≤ 7 ∧ yOI S u1 m p0.toInt.toNat = 1 ∧ 0 ≤ p1.toInt ∧ p1.toInt ≤ 1000000) ∧ zPf S u1 u2 m (fun _ => False)))) : r = r2 ∧ zR4 S u2 q m := by
  obtain ⟨e, g⟩ := zR.offset h.1 hPo hSh hq hkq hm hkm hnk hg1 hg2 hf x1 x2
  refine ⟨e, g, h.2.1.gen hSh hq hkq hm hkm hnk hg1 (by decide) (by decide) hg2 (by decide) (by decide) x1.2 (hf 0 (by decide)), h.2.2.kp ?_ hg2 (by decide)⟩
  rcases x1.1 with ⟨-, -, a⟩ | ⟨-, -, a⟩
  · exact fun x hx => (a x hx).2.1
  · exact fun x hx => (a x hx).2.1
set_option maxHeartbeats 1000000 in
theorem zR4.rate {p0 : Int32} {p1 : Int64} {p2 : Int64} {r r2 : Int32} (h : zR4 S d q m) (hMI : yMI S u1 m) (hPo : yPo S d) (hSh : ySh S) (hq : q ∈ S.1) (hkq : S.2.1 q = 8) (hm : m ∈ S.1) (hkm : S.2.1 m = 9) (hnk : S.2.2.1 q 0 ≠ S.2.2.1 q 1) (hg1 : yAg S [4, 8, 24] d u1) (hg2 : yAg S [9, 41, 69] u1 u2) (hf : yK [38] u1 u2 m) (x1 : ((r.toInt = 0 ∧ ¬ (0 ≤ p0.toInt ∧ p0.toInt ≤ 7 ∧ 0 < (d.1 (yPA S (S.2.2.1 q 0) p0) 2).toInt ∧ 0 ≤ p1.toInt ∧ p1.toInt ≤ 1000000000 ∧ 0 ≤ p2.toInt ∧ p2.toInt ≤ 1000000000) ∧ ∀ a, S.2.1 a = 4 → u1.1 a 2 = d.1 a 2 ∧ u1.1 a 3 = d.1 a 3 ∧ u1.2.1 a 8 = d.2.1 a 8) ∨ (r.toInt = 1 ∧ (0 ≤ p0.toInt ∧ p0.toInt ≤ 7 ∧ 0 < (d.1 (yPA S (S.2.2.1 q 0) p0) 2).toInt ∧ 0 ≤ p1.toInt ∧ p1.toInt ≤ 1000000000 ∧ 0 ≤ p2.toInt ∧ p2.toInt ≤ 1000000000) ∧ ∀ a, S.2.1 a = 4 → u1.1 a 2 = d.1 a 2 ∧ u1.1 a 3 = d.1 a 3 ∧ u1.2.1 a 8 = d.2.1 a 8)) ∧ u1.1 q 4 = d.1 q 4) (x2 : yMI S u2 m ∧ ((r2.toInt = 0 ∧ ¬ (0 ≤ p0.toInt ∧ p0.toInt ≤ 7 ∧ yOI S u1 m p0.toInt.toNat = 1 ∧ 0 ≤ p1.toInt ∧ p1.toInt ≤ 1000000000 ∧ 0 ≤ p2.toInt ∧ p2.toInt ≤ 1000000000) ∧ zPf S u1 u2 m (fun _ => False)) ∨ (r2.toInt = 1 ∧ (0 ≤ p0.toInt ∧ p0.toInt ≤ 7 ∧ yOI S u1 m p0.toInt.toNat = 1 ∧ 0 ≤ p1.toInt ∧ p1.toInt ≤ 1000000000 ∧ 0 ≤ p2.toInt ∧ p2.toInt ≤ 1000000000) ∧ zPf S u1 u2 m (fun _ => False)))) : r = r2 ∧ zR4 S u2 q m := by
  obtain ⟨e, g⟩ := zR.rate h.1 hPo hSh hq hkq hm hkm hnk hg1 hg2 hf x1 x2
  refine ⟨e, g, h.2.1.gen hSh hq hkq hm hkm hnk hg1 (by decide) (by decide) hg2 (by decide) (by decide) x1.2 (hf 0 (by decide)), h.2.2.kp ?_ hg2 (by decide)⟩
  rcases x1.1 with ⟨-, -, a⟩ | ⟨-, -, a⟩
  · exact fun x hx => (a x hx).2.1
  · exact fun x hx => (a x hx).2.1
set_option maxHeartbeats 1000000 in
theorem zR4.close {p0 : Int32} {r r2 : Int32} (h : zR4 S d q m) (hMI : yMI S u1 m) (hPo : yPo S d) (hSh : ySh S) (hq : q ∈ S.1) (hkq : S.2.1 q = 8) (hm : m ∈ S.1) (hkm : S.2.1 m = 9) (hnk : S.2.2.1 q 0 ≠ S.2.2.1 q 1) (hg1 : yAg S [0, 2, 4, 8, 16, 24] d u1) (hg2 : yAg S [9, 41, 45, 46, 47, 69] u1 u2) (hf : yK [1, 38] u1 u2 m) (x1 : ((r.toInt = 0 ∧ ¬ (0 ≤ p0.toInt ∧ p0.toInt ≤ 7 ∧ 0 < (d.1 (yPA S (S.2.2.1 q 0) p0) 2).toInt) ∧ zKp S 4 d u1) ∨ (r.toInt = 1 ∧ (0 ≤ p0.toInt ∧ p0.toInt ≤ 7 ∧ 0 < (d.1 (yPA S (S.2.2.1 q 0) p0) 2).toInt) ∧ u1.1 (yPA S (S.2.2.1 q 0) p0) 2 = 0 ∧ u1.1 (yPA S (S.2.2.1 q 0) p0) 3 = d.1 (yPA S (S.2.2.1 q 0) p0) 3 ∧ ∀ a, S.2.1 a = 4 → a ≠ (yPA S (S.2.2.1 q 0) p0) → u1.1 a = d.1 a ∧ u1.2.1 a = d.2.1 a)) ∧ u1.1 q 4 = d.1 q 4) (x2 : yMI S u2 m ∧ ((r2.toInt = 0 ∧ ¬ (0 ≤ p0.toInt ∧ p0.toInt ≤ 7 ∧ yOI S u1 m p0.toInt.toNat = 1) ∧ zPf S u1 u2 m (fun _ => False)) ∨ (r2.toInt = 1 ∧ (0 ≤ p0.toInt ∧ p0.toInt ≤ 7 ∧ yOI S u1 m p0.toInt.toNat = 1) ∧ u2.2.2.2.2 (S.2.2.1 m 11) (12 * p0.toInt.toNat) = 0 ∧ zPf S u1 u2 m (fun i => i = 12 * p0.toInt.toNat)))) : r = r2 ∧ zR4 S u2 q m := by
  obtain ⟨e, g⟩ := zR.close h.1 hPo hSh hq hkq hm hkm hnk hg1 hg2 hf x1 x2
  refine ⟨e, g, h.2.1.gen hSh hq hkq hm hkm hnk hg1 (by decide) (by decide) hg2 (by decide) (by decide) x1.2 (hf 0 (by decide)), h.2.2.kp ?_ hg2 (by decide)⟩
  rcases x1.1 with ⟨-, -, a⟩ | ⟨-, -, -, a2, a3⟩
  · exact fun x hx => congrFun (a x hx).1 3
  · intro x hx
    by_cases e : x = yPA S (S.2.2.1 q 0) p0
    · rw [e]; exact a2
    · exact congrFun (a3 x hx e).1 3
set_option maxHeartbeats 1000000 in
theorem zR4.tons {p0 : Int32} {p1 : Int64} {r r2 : Int32} (h : zR4 S d q m) (hMI : yMI S u1 m) (hPo : yPo S d) (hSh : ySh S) (hq : q ∈ S.1) (hkq : S.2.1 q = 8) (hm : m ∈ S.1) (hkm : S.2.1 m = 9) (hnk : S.2.2.1 q 0 ≠ S.2.2.1 q 1) (hg1 : yAg S [4, 8, 24] d u1) (hg2 : yAg S [9, 41, 69] u1 u2) (hf : yK [38] u1 u2 m) (x1 : ((r.toInt = 0 ∧ ¬ (0 ≤ p0.toInt ∧ p0.toInt ≤ 7 ∧ 0 < (d.1 (yPA S (S.2.2.1 q 0) p0) 2).toInt ∧ 0 ≤ p1.toInt ∧ p1.toInt ≤ 100000000) ∧ zKp S 4 d u1) ∨ (r.toInt = 1 ∧ (0 ≤ p0.toInt ∧ p0.toInt ≤ 7 ∧ 0 < (d.1 (yPA S (S.2.2.1 q 0) p0) 2).toInt ∧ 0 ≤ p1.toInt ∧ p1.toInt ≤ 100000000) ∧ u1.2.1 (yPA S (S.2.2.1 q 0) p0) 8 = p1 ∧ (∀ a, S.2.1 a = 4 → u1.1 a = d.1 a) ∧ ∀ a, S.2.1 a = 4 → a ≠ (yPA S (S.2.2.1 q 0) p0) → u1.1 a = d.1 a ∧ u1.2.1 a = d.2.1 a)) ∧ u1.1 q 4 = d.1 q 4) (x2 : yMI S u2 m ∧ ((r2.toInt = 0 ∧ ¬ (0 ≤ p0.toInt ∧ p0.toInt ≤ 7 ∧ yOI S u1 m p0.toInt.toNat = 1 ∧ 0 ≤ p1.toInt ∧ p1.toInt ≤ 100000000) ∧ zPf S u1 u2 m (fun _ => False)) ∨ (r2.toInt = 1 ∧ (0 ≤ p0.toInt ∧ p0.toInt ≤ 7 ∧ yOI S u1 m p0.toInt.toNat = 1 ∧ 0 ≤ p1.toInt ∧ p1.toInt ≤ 100000000) ∧ u2.2.2.2.2 (S.2.2.1 m 11) (12 * p0.toInt.toNat + 3) = p1 ∧ zPf S u1 u2 m (fun i => i = 12 * p0.toInt.toNat + 3)))) : r = r2 ∧ zR4 S u2 q m := by
  obtain ⟨e, g⟩ := zR.tons h.1 hPo hSh hq hkq hm hkm hnk hg1 hg2 hf x1 x2
  refine ⟨e, g, h.2.1.gen hSh hq hkq hm hkm hnk hg1 (by decide) (by decide) hg2 (by decide) (by decide) x1.2 (hf 0 (by decide)), h.2.2.kp ?_ hg2 (by decide)⟩
  rcases x1.1 with ⟨-, -, a⟩ | ⟨-, -, -, a2, -⟩
  · exact fun x hx => congrFun (a x hx).1 3
  · exact fun x hx => congrFun (a2 x hx) 3
set_option maxHeartbeats 1000000 in
theorem zR4.port {p0 : Int32} {p1 : Int32} {p2 : Int32} {r r2 : Int32} (h : zR4 S d q m) (hMI : yMI S u1 m) (hPo : yPo S d) (hSh : ySh S) (hq : q ∈ S.1) (hkq : S.2.1 q = 8) (hm : m ∈ S.1) (hkm : S.2.1 m = 9) (hnk : S.2.2.1 q 0 ≠ S.2.2.1 q 1) (hg1 : yAg S [0, 2, 4, 8, 16, 20, 21, 24] d u1) (hg2 : yAg S [9, 41, 42, 43, 44, 45, 46, 47, 69] u1 u2) (hf : yK [1, 38] u1 u2 m) (x1 : ((r.toInt = 0 ∧ ¬ (0 ≤ p0.toInt ∧ p0.toInt ≤ 7 ∧ 0 ≤ p1.toInt ∧ p1.toInt ≤ 39 ∧ p1.toInt < (d.1 (S.2.2.1 (S.2.2.1 q 0) 0) 6).toInt ∧ 1 ≤ p2.toInt ∧ p2.toInt ≤ 90) ∧ zKp S 4 d u1) ∨ (r.toInt = 1 ∧ (0 ≤ p0.toInt ∧ p0.toInt ≤ 7 ∧ 0 ≤ p1.toInt ∧ p1.toInt ≤ 39 ∧ p1.toInt < (d.1 (S.2.2.1 (S.2.2.1 q 0) 0) 6).toInt ∧ 1 ≤ p2.toInt ∧ p2.toInt ≤ 90) ∧ u1.1 (yPA S (S.2.2.1 q 0) p0) 2 = p2 ∧ u1.1 (yPA S (S.2.2.1 q 0) p0) 3 = p1 ∧ u1.2.1 (yPA S (S.2.2.1 q 0) p0) 8 = 0 ∧ ∀ a, S.2.1 a = 4 → a ≠ (yPA S (S.2.2.1 q 0) p0) → u1.1 a = d.1 a ∧ u1.2.1 a = d.2.1 a)) ∧ u1.1 q 4 = d.1 q 4) (x2 : yMI S u2 m ∧ ((r2.toInt = 0 ∧ ¬ (0 ≤ p0.toInt ∧ p0.toInt ≤ 7 ∧ 1 ≤ p2.toInt ∧ p2.toInt ≤ 90 ∧ 0 ≤ p1.toInt ∧ p1.toInt ≤ 39 ∧ p1.toInt < (u1.1 m 0).toInt) ∧ zPf S u1 u2 m (fun _ => False)) ∨ (r2.toInt = 1 ∧ (0 ≤ p0.toInt ∧ p0.toInt ≤ 7 ∧ 1 ≤ p2.toInt ∧ p2.toInt ≤ 90 ∧ 0 ≤ p1.toInt ∧ p1.toInt ≤ 39 ∧ p1.toInt < (u1.1 m 0).toInt) ∧ u2.2.2.2.2 (S.2.2.1 m 11) (12 * p0.toInt.toNat) = 1 ∧ u2.2.2.2.2 (S.2.2.1 m 11) (12 * p0.toInt.toNat + 2) = p2.toInt64 ∧ u2.2.2.2.2 (S.2.2.1 m 11) (12 * p0.toInt.toNat + 3) = 0 ∧ zPf S u1 u2 m (fun i => i / 12 = p0.toInt.toNat)))) : r = r2 ∧ zR4 S u2 q m := by
  obtain ⟨e, g⟩ := zR.port h.1 hPo hSh hq hkq hm hkm hnk hg1 hg2 hf x1 x2
  refine ⟨e, g, h.2.1.gen hSh hq hkq hm hkm hnk hg1 (by decide) (by decide) hg2 (by decide) (by decide) x1.2 (hf 0 (by decide)), ?_⟩
  rcases x1.1 with ⟨-, -, a⟩ | ⟨-, ⟨-, -, c0, c39, -⟩, -, a2, -, a4⟩
  · exact h.2.2.kp (fun x hx => congrFun (a x hx).1 3) hg2 (by decide)
  · exact h.2.2.pt a4 (by rw [a2]; exact ⟨c0, c39⟩) hg2 (by decide)
set_option maxHeartbeats 1000000 in
theorem zR4.image  {r r2 : Int32} (h : zR4 S d q m) (hMI : yMI S u1 m) (hPo : yPo S d) (hSh : ySh S) (hq : q ∈ S.1) (hkq : S.2.1 q = 8) (hm : m ∈ S.1) (hkm : S.2.1 m = 9) (hnk : S.2.2.1 q 0 ≠ S.2.2.1 q 1) (hg1 : yAg S [0, 1, 2, 4, 6, 8, 10, 11, 12, 13, 14, 15, 16, 18, 19, 20, 21, 24] d u1) (hg2 : yAg S [9, 51, 52, 53, 54, 55, 56, 57, 58, 59, 60, 61, 62, 63, 64, 65, 66, 67] u1 u2) (hf : yK [20, 38] u1 u2 m) (x1 : (u1.1 q 4 = 1 ∧ u1.1 (S.2.2.1 (S.2.2.1 q 1) 0) 6 = d.1 (S.2.2.1 (S.2.2.1 q 0) 0) 6 ∧ u1.1 (S.2.2.1 (S.2.2.1 q 0) 0) 6 = d.1 (S.2.2.1 (S.2.2.1 q 0) 0) 6 ∧ r = 1) ∧ zTake S d u1 (S.2.2.1 q 1) (S.2.2.1 q 0) ∧ zTk S d u1 (S.2.2.1 (S.2.2.1 q 1) 0) (S.2.2.1 (S.2.2.1 q 0) 0)) (x2 : yMI S u2 m ∧ (u2.1 m 20 = 1 ∧ u2.2.2.2.1 (S.2.2.1 m 21) 0 = u1.1 m 0 ∧ u2.1 m 0 = u1.1 m 0 ∧ r2 = 1) ∧ u2.2.2.2.1 (S.2.2.1 m 21) 2 = u1.1 m 2 ∧ u2.2.2.2.1 (S.2.2.1 m 21) 3 = u1.1 m 3 ∧ (∀ j : Nat, j < 96 → u2.2.2.2.2 (S.2.2.1 m 29) j = u1.2.2.2.2 (S.2.2.1 m 11) j) ∧ ∀ s, 4 ≤ s → s ≤ 10 → ∀ j : Nat, j < 2400 → u2.2.2.2.1 (S.2.2.1 m (s + 18)) j = zNr s (u1.2.2.2.1 (S.2.2.1 m s) j)) : r = r2 ∧ zR4 S u2 q m := by
  obtain ⟨e, g⟩ := zR.image h.1 hPo hSh hq hkq hm hkm hnk hg1 hg2 hf x1 x2
  obtain ⟨x1, ht, tk⟩ := x1
  obtain ⟨-, x2, -, -, -, x6⟩ := x2
  have b := yB0 hSh hq hkq
  exact ⟨e, g, h.2.1.image hSh hq hkq hm hkm hnk hg1 (by decide) hg2 (by decide) tk x2.2.2.1 x2.2.1 x6, h.2.2.take hSh b.2.1.1 b.2.1.2 b.1.1 b.1.2 ht hg2 (by decide)⟩
set_option maxHeartbeats 1000000 in
theorem zR4.back  {r r2 : Int32} (h : zR4 S d q m) (hMI : yMI S u1 m) (hPo : yPo S d) (hSh : ySh S) (hq : q ∈ S.1) (hkq : S.2.1 q = 8) (hm : m ∈ S.1) (hkm : S.2.1 m = 9) (hnk : S.2.2.1 q 0 ≠ S.2.2.1 q 1) (hg1 : yAg S [0, 1, 2, 4, 6, 8, 10, 11, 12, 13, 14, 15, 16, 18, 19, 20, 21, 24] d u1) (hg2 : yAg S [9, 34, 35, 36, 37, 38, 39, 40, 41, 42, 43, 44, 45, 46, 47, 48, 49, 69] u1 u2) (hf : yK [0, 1, 2, 3, 38] u1 u2 m) (x1 : (((d.1 q 4 = 0 ∧ r = 0 ∧ u1.1 (S.2.2.1 (S.2.2.1 q 0) 0) 6 = d.1 (S.2.2.1 (S.2.2.1 q 0) 0) 6) ∨ (¬ d.1 q 4 = 0 ∧ r = 1 ∧ u1.1 (S.2.2.1 (S.2.2.1 q 0) 0) 6 = d.1 (S.2.2.1 (S.2.2.1 q 1) 0) 6)) ∧ u1.1 (S.2.2.1 (S.2.2.1 q 1) 0) 6 = d.1 (S.2.2.1 (S.2.2.1 q 1) 0) 6 ∧ u1.1 q 4 = d.1 q 4) ∧ ((d.1 q 4 = 0 ∧ zKp S 1 d u1 ∧ zKp S 4 d u1 ∧ zRk S d u1) ∨ (¬ d.1 q 4 = 0 ∧ zTake S d u1 (S.2.2.1 q 0) (S.2.2.1 q 1) ∧ zTk S d u1 (S.2.2.1 (S.2.2.1 q 0) 0) (S.2.2.1 (S.2.2.1 q 1) 0)))) (x2 : yMI S u2 m ∧ (((u1.1 m 20 = 0 ∧ u2.1 m 0 = u1.1 m 0 ∧ r2 = 0) ∧ u2.1 m 2 = u1.1 m 2 ∧ u2.1 m 3 = u1.1 m 3 ∧ zPf S u1 u2 m (fun _ => False) ∧ zTr S u2 m (fun s => u1.2.2.2.1 (S.2.2.1 m s))) ∨ ((¬ u1.1 m 20 = 0 ∧ u2.1 m 0 = u1.2.2.2.1 (S.2.2.1 m 21) 0 ∧ r2 = 1) ∧ u2.1 m 2 = u1.2.2.2.1 (S.2.2.1 m 21) 2 ∧ u2.1 m 3 = u1.2.2.2.1 (S.2.2.1 m 21) 3 ∧ (∀ j : Nat, j < 96 → u2.2.2.2.2 (S.2.2.1 m 11) j = u1.2.2.2.2 (S.2.2.1 m 29) j) ∧ ∀ s, 4 ≤ s → s ≤ 10 → ∀ j : Nat, j < 2400 → u2.2.2.2.1 (S.2.2.1 m s) j = zNr s (u1.2.2.2.1 (S.2.2.1 m (s + 18)) j)))) : r = r2 ∧ zR4 S u2 q m := by
  obtain ⟨e, g⟩ := zR.back h.1 hPo hSh hq hkq hm hkm hnk hg1 hg2 hf x1 x2
  obtain ⟨x1, ht⟩ := x1
  obtain ⟨-, x2⟩ := x2
  have b := yB0 hSh hq hkq
  refine ⟨e, g, h.2.1.back hPo hSh hq hkq hm hkm hnk h.1.1.2.1 hg1 (by decide) hg2 (by decide) x1.2.2 (ht.imp (fun w => ⟨w.1, w.2.2.2⟩) (fun w => ⟨w.1, w.2.2⟩)) (x2.imp (fun w => ⟨⟨w.1.1, w.1.2.1⟩, w.2.2.2.2⟩) (fun w => ⟨⟨w.1.1, w.1.2.1⟩, w.2.2.2.2⟩)), ?_⟩
  rcases ht with ⟨-, -, a, -⟩ | ⟨-, t, -⟩
  · exact h.2.2.kp (fun x hx => congrFun (a x hx).1 3) hg2 (by decide)
  · exact h.2.2.take hSh b.1.1 b.1.2 b.2.1.1 b.2.1.2 t hg2 (by decide)
set_option maxHeartbeats 1000000 in
theorem zR4.contract  {r r2 : Int32} (h : zR4 S d q m) (hMI : yMI S u1 m) (hPo : yPo S d) (hSh : ySh S) (hq : q ∈ S.1) (hkq : S.2.1 q = 8) (hm : m ∈ S.1) (hkm : S.2.1 m = 9) (hnk : S.2.2.1 q 0 ≠ S.2.2.1 q 1) (hg1 : yAg S [6, 8, 24] d u1) (hg2 : yAg S [9, 34, 69] u1 u2) (hf : yK [0, 38] u1 u2 m) (x1 : ((40 ≤ d.1 (S.2.2.1 (S.2.2.1 q 0) 0) 6 ∧ r = -1 ∧ u1.1 (S.2.2.1 (S.2.2.1 q 0) 0) 6 = d.1 (S.2.2.1 (S.2.2.1 q 0) 0) 6) ∨ (¬ 40 ≤ d.1 (S.2.2.1 (S.2.2.1 q 0) 0) 6 ∧ r = d.1 (S.2.2.1 (S.2.2.1 q 0) 0) 6 ∧ u1.1 (S.2.2.1 (S.2.2.1 q 0) 0) 6 = d.1 (S.2.2.1 (S.2.2.1 q 0) 0) 6 + 1)) ∧ u1.1 (S.2.2.1 (S.2.2.1 q 1) 0) 6 = d.1 (S.2.2.1 (S.2.2.1 q 1) 0) 6 ∧ u1.1 q 4 = d.1 q 4) (x2 : yMI S u2 m ∧ (((u1.1 m 0).toInt = 40 ∧ r2.toInt = -1 ∧ (u2.1 m 0).toInt = (u1.1 m 0).toInt ∧ zTr S u2 m (fun s => u1.2.2.2.1 (S.2.2.1 m s))) ∨ ((u1.1 m 0).toInt ≤ 39 ∧ r2.toInt = (u1.1 m 0).toInt ∧ (u2.1 m 0).toInt = (u1.1 m 0).toInt + 1 ∧ (∀ j : Nat, j < 60 → u2.2.2.2.1 (S.2.2.1 m 4) (60 * (u1.1 m 0).toInt.toNat + j) = 0) ∧ (∀ k : Nat, (k < 60 * (u1.1 m 0).toInt.toNat ∨ 60 * (u1.1 m 0).toInt.toNat + 60 ≤ k) → u2.2.2.2.1 (S.2.2.1 m 4) k = u1.2.2.2.1 (S.2.2.1 m 4) k) ∧ ∀ s, 5 ≤ s → s ≤ 10 → u2.2.2.2.1 (S.2.2.1 m s) = u1.2.2.2.1 (S.2.2.1 m s)))) : r = r2 ∧ zR4 S u2 q m := by
  obtain ⟨e, g⟩ := zR.contract h.1 hPo hSh hq hkq hm hkm hnk hg1 hg2 hf x1 x2
  obtain ⟨-, x2⟩ := x2
  have hb := hMI
  obtain ⟨⟨t0, k0⟩, t1, k1⟩ := yT2 hSh hq hkq
  have hT := h.2.1.now hSh hm hkm hg1 (by decide)
  refine ⟨e, g, h.2.1.up hSh hq hkq hm hkm hnk hg1 (by decide) hg2 (by decide) x1.2.2 (fun i hi k _ => congrFun (hg1 _ (by rw [yk6 hSh t1 k1 hi]; exact (by decide : zNoD _).c hi)).2.2.2.1 k) ?_, h.2.2.kp (fun a ha => congrFun (hg1 a (by rw [ha]; decide)).1 3) hg2 (by decide)⟩
  have fd : ∀ i, i < 6 → yTd S u1 (S.2.2.1 (S.2.2.1 q 0) 0) i = yTd S d (S.2.2.1 (S.2.2.1 q 0) 0) i := fun i hi => (hg1 _ (by rw [yk6 hSh t0 k0 hi]; exact (by decide : zNoD _).c hi)).2.2.2.1
  rcases x2 with ⟨-, -, w3, tr⟩ | ⟨w1, -, w3, c0, c1, c2⟩
  · rw [w3]
    exact hT.cg (fun i hi k _ => congrFun (fd i hi) k) (fun s a b k _ => congrFun (tr s a b) k)
  · have n0 : 0 ≤ (u1.1 m 0).toInt := hMI.c.1.1
    rw [w3, show ((u1.1 m 0).toInt + 1).toNat = (u1.1 m 0).toInt.toNat + 1 by omega]
    exact (hT.more (F' := yTm S u2 m) c0 c1 c2).cg (fun i hi k _ => congrFun (fd i hi) k) (fun _ _ _ _ _ => rfl)
set_option maxHeartbeats 1000000 in
theorem zR4.as  (h : zR4 S d q m) (hMI : yMI S u1 m) (hPo : yPo S d) (hSh : ySh S) (hq : q ∈ S.1) (hkq : S.2.1 q = 8) (hm : m ∈ S.1) (hkm : S.2.1 m = 9) (hnk : S.2.2.1 q 0 ≠ S.2.2.1 q 1) (hg1 : yAg S [3, 5, 7, 8, 10, 11, 12, 13, 14, 15, 22, 23, 24] d u1) (hg2 : yAg S [9, 69, 74, 75, 77, 78] u1 u2) (hf : yK [38, 49, 50, 51, 52, 53, 54, 55, 57, 62, 63, 64, 65] u1 u2 m) (x1 : ((∀ i, i < 6 → ∀ k, k < 2400 → u1.2.2.2.1 (S.2.2.1 (S.2.2.1 (S.2.2.1 q 0) 0) i) k = d.2.2.2.1 (S.2.2.1 (S.2.2.1 (S.2.2.1 q 0) 0) i) k) ∧ ∀ t, t ∈ S.1 → S.2.1 t = 6 → t ≠ S.2.2.1 (S.2.2.1 q 0) 0 → ∀ i, i < 6 → u1.2.2.2.1 (S.2.2.1 t i) = d.2.2.2.1 (S.2.2.1 t i)) ∧ u1.1 q 4 = d.1 q 4) (x2 : yMI S u2 m) : zR4 S u2 q m := by
  obtain ⟨x1, hi⟩ := x1
  obtain ⟨⟨t0, k0⟩, t1, k1⟩ := yT2 hSh hq hkq
  refine ⟨h.1.gen hSh hq hkq hm hkm hg1 (by decide) hi hg2 (by decide) hf (by decide), h.2.1.up hSh hq hkq hm hkm hnk hg1 (by decide) hg2 (by decide) hi (fun i hi k _ => congrFun (x1.2 _ t1 k1 (yT2ne hSh hq hkq hnk) i hi) k) ?_, h.2.2.kp (fun a ha => congrFun (hg1 a (by rw [ha]; decide)).1 3) hg2 (by decide)⟩
  rw [hf 0 (by decide)]
  exact (h.2.1.now hSh hm hkm hg1 (by decide)).cg (fun i hi k hk => x1.1 i hi k hk) (fun s a b k _ => congrFun (hg2 _ (by rw [zk9 hSh hm hkm a b]; exact (by decide : zNoR _).c a b)).2.2.2.1 k)
set_option maxHeartbeats 1000000 in
theorem zR4.term {p0 : Int32} {p1 : Int32} {p2 : Int32} {p3 : Int32} {p4 : Int32} {p5 : Int32} {r r2 : Int32} (h : zR4 S d q m) (hMI : yMI S u1 m) (hPo : yPo S d) (hSh : ySh S) (hq : q ∈ S.1) (hkq : S.2.1 q = 8) (hm : m ∈ S.1) (hkm : S.2.1 m = 9) (hnk : S.2.2.1 q 0 ≠ S.2.2.1 q 1) (hg1 : yAg S [8, 10, 11, 12, 13, 14, 15, 24] d u1) (hg2 : yAg S [9, 34, 35, 36, 37, 38, 39, 40, 69] u1 u2) (hf : yK [38] u1 u2 m) (x1 : ((r.toInt = 0 ∧ ¬ (((0 ≤ p0.toInt ∧ p0.toInt ≤ 39 ∧ p0.toInt < (d.1 (S.2.2.1 (S.2.2.1 q 0) 0) 6).toInt) ∧ 0 ≤ p1.toInt ∧ p1.toInt ≤ 59) ∧ (0 ≤ p2.toInt ∧ p2.toInt ≤ 4 ∧ 0 ≤ p3.toInt ∧ p3.toInt ≤ 4 ∧ (p3.toInt = 1 → 0 ≤ p4.toInt ∧ p4.toInt ≤ 1440 ∧ 0 ≤ p5.toInt ∧ p5.toInt ≤ 1440) ∧ (p3.toInt = 3 → 0 ≤ p4.toInt ∧ p4.toInt ≤ 4) ∧ (p3.toInt = 4 → 0 ≤ p4.toInt ∧ p4.toInt ≤ 129600 ∧ 0 ≤ p5.toInt ∧ p5.toInt ≤ 129600))) ∧ zTm S d u1 (S.2.2.1 (S.2.2.1 q 0) 0) (fun i => d.2.2.2.1 (S.2.2.1 (S.2.2.1 (S.2.2.1 q 0) 0) i))) ∨ (r.toInt = 1 ∧ (((0 ≤ p0.toInt ∧ p0.toInt ≤ 39 ∧ p0.toInt < (d.1 (S.2.2.1 (S.2.2.1 q 0) 0) 6).toInt) ∧ 0 ≤ p1.toInt ∧ p1.toInt ≤ 59) ∧ (0 ≤ p2.toInt ∧ p2.toInt ≤ 4 ∧ 0 ≤ p3.toInt ∧ p3.toInt ≤ 4 ∧ (p3.toInt = 1 → 0 ≤ p4.toInt ∧ p4.toInt ≤ 1440 ∧ 0 ≤ p5.toInt ∧ p5.toInt ≤ 1440) ∧ (p3.toInt = 3 → 0 ≤ p4.toInt ∧ p4.toInt ≤ 4) ∧ (p3.toInt = 4 → 0 ≤ p4.toInt ∧ p4.toInt ≤ 129600 ∧ 0 ≤ p5.toInt ∧ p5.toInt ≤ 129600))) ∧ zTm S d u1 (S.2.2.1 (S.2.2.1 q 0) 0) (fun i => xput 2402 (d.2.2.2.1 (S.2.2.1 (S.2.2.1 (S.2.2.1 q 0) 0) i)) (p0 * 60 + p1) (([p2, p3, p4, p5, 0, 0] : List Int32).getD i 0)))) ∧ u1.1 q 4 = d.1 q 4) (x2 : yMI S u2 m ∧ ((r2.toInt = 0 ∧ ¬ (((0 ≤ p0.toInt ∧ p0.toInt ≤ 39 ∧ p0.toInt < (u1.1 m 0).toInt) ∧ 0 ≤ p1.toInt ∧ p1.toInt ≤ 59) ∧ (0 ≤ p2.toInt ∧ p2.toInt ≤ 4 ∧ 0 ≤ p3.toInt ∧ p3.toInt ≤ 4 ∧ (p3.toInt = 1 → 0 ≤ p4.toInt ∧ p4.toInt ≤ 1440 ∧ 0 ≤ p5.toInt ∧ p5.toInt ≤ 1440) ∧ (p3.toInt = 3 → 0 ≤ p4.toInt ∧ p4.toInt ≤ 4) ∧ (p3.toInt = 4 → 0 ≤ p4.toInt ∧ p4.toInt ≤ 129600 ∧ 0 ≤ p5.toInt ∧ p5.toInt ≤ 129600))) ∧ zTr S u2 m (fun s => u1.2.2.2.1 (S.2.2.1 m s))) ∨ (r2.toInt = 1 ∧ (((0 ≤ p0.toInt ∧ p0.toInt ≤ 39 ∧ p0.toInt < (u1.1 m 0).toInt) ∧ 0 ≤ p1.toInt ∧ p1.toInt ≤ 59) ∧ (0 ≤ p2.toInt ∧ p2.toInt ≤ 4 ∧ 0 ≤ p3.toInt ∧ p3.toInt ≤ 4 ∧ (p3.toInt = 1 → 0 ≤ p4.toInt ∧ p4.toInt ≤ 1440 ∧ 0 ≤ p5.toInt ∧ p5.toInt ≤ 1440) ∧ (p3.toInt = 3 → 0 ≤ p4.toInt ∧ p4.toInt ≤ 4) ∧ (p3.toInt = 4 → 0 ≤ p4.toInt ∧ p4.toInt ≤ 129600 ∧ 0 ≤ p5.toInt ∧ p5.toInt ≤ 129600))) ∧ zTr S u2 m (fun s => upd (u1.2.2.2.1 (S.2.2.1 m s)) (60 * p0.toInt.toNat + p1.toInt.toNat) (([(vp_nar .byte 2), (vp_nar .byte p2.toInt8.toInt32), (vp_nar .byte p3.toInt8.toInt32), p4, p5, (vp_nar .byte 0), 0] : List Int32).getD (s - 4) 0))))) : r = r2 ∧ zR4 S u2 q m := by
  obtain ⟨x1, hi⟩ := x1
  obtain ⟨-, x2⟩ := x2
  have em : u1.1 m = d.1 m := (hg1 m (by rw [hkm]; decide)).1
  have hn : d.1 (S.2.2.1 (S.2.2.1 q 0) 0) 6 = u1.1 m 0 := by rw [em]; exact h.1.1.1
  rw [hn] at x1
  have hT := h.2.1.now hSh hm hkm hg1 (by decide)
  have g : zR S u2 q m := h.1.gen hSh hq hkq hm hkm hg1 (by decide) hi hg2 (by decide) hf (by decide)
  have g3 : zI3 S u2 := h.2.2.kp (fun a ha => congrFun (hg1 a (by rw [ha]; decide)).1 3) hg2 (by decide)
  have hce := fun hr => hT.ce (c := p0) (p := p1) hr
  have hx : (0 ≤ p0.toInt ∧ p0.toInt ≤ 39 ∧ p0.toInt < (u1.1 m 0).toInt) ∧ 0 ≤ p1.toInt ∧ p1.toInt ≤ 59 → ∀ i, xat 2402 (d.2.2.2.1 (S.2.2.1 (S.2.2.1 (S.2.2.1 q 0) 0) i)) (p0 * 60 + p1) = yTd S d (S.2.2.1 (S.2.2.1 q 0) 0) i (60 * p0.toInt.toNat + p1.toInt.toNat) := fun hr i => xaK hr.1.1 hr.1.2.1 hr.2.1 hr.2.2
  have h0 : u2.1 m 0 = u1.1 m 0 := hf 0 (by decide)
  obtain ⟨e, hh⟩ := ans Iff.rfl x1 x2
  refine ⟨e, g, ?_, g3⟩
  rcases hh with ⟨-, a, b⟩ | ⟨⟨hr, r0, r4, s0, s4, -⟩, a, b⟩
  · exact h.2.1.same hSh hq hkq hm hkm hnk hg1 (by decide) hg2 (by decide) hi h0 a b
  · refine h.2.1.row (K := 60 * p0.toInt.toNat + p1.toInt.toNat) hSh hq hkq hm hkm hnk hg1 (by decide) hg2 (by decide) hi h0 (by have := hr.1; rw [← em]; omega) a b ?_ ?_ ?_
    · exact fun i _ k hk => xpN ⟨⟨hr.1.1, hr.1.2.1⟩, hr.2⟩ hk
    · exact fun s _ _ k hk => upN hk
    · exact .mk2 (upE.trans (show vp_nar .byte (2 : Int32) = 2 by decide +kernel)) (xpE ⟨⟨hr.1.1, hr.1.2.1⟩, hr.2⟩) (upE.trans (nb r0 (by omega)).1) ⟨r0, r4⟩ (xpE ⟨⟨hr.1.1, hr.1.2.1⟩, hr.2⟩) (upE.trans (nb s0 (by omega)).1) ⟨s0, s4⟩ (xpE ⟨⟨hr.1.1, hr.1.2.1⟩, hr.2⟩) upE (xpE ⟨⟨hr.1.1, hr.1.2.1⟩, hr.2⟩) upE (xpE ⟨⟨hr.1.1, hr.1.2.1⟩, hr.2⟩) (upE.trans (show vp_nar .byte (0 : Int32) = 0 by decide +kernel)) (show 0 ≤ (0 : Int32).toInt ∧ (0 : Int32).toInt ≤ 31 by decide +kernel) (xpE ⟨⟨hr.1.1, hr.1.2.1⟩, hr.2⟩) upE
set_option maxHeartbeats 1000000 in
theorem zR4.yields {p0 : Int32} {p1 : Int32} {p2 : Int32} {r r2 : Int32} (h : zR4 S d q m) (hMI : yMI S u1 m) (hPo : yPo S d) (hSh : ySh S) (hq : q ∈ S.1) (hkq : S.2.1 q = 8) (hm : m ∈ S.1) (hkm : S.2.1 m = 9) (hnk : S.2.2.1 q 0 ≠ S.2.2.1 q 1) (hg1 : yAg S [8, 14, 24] d u1) (hg2 : yAg S [9, 39, 69] u1 u2) (hf : yK [38] u1 u2 m) (x1 : ((r.toInt = -1 ∧ ¬ ((((0 ≤ p0.toInt ∧ p0.toInt ≤ 39 ∧ p0.toInt < (d.1 (S.2.2.1 (S.2.2.1 q 0) 0) 6).toInt) ∧ 0 ≤ p1.toInt ∧ p1.toInt ≤ 59) ∧ (xat 2402 (d.2.2.2.1 (S.2.2.1 (S.2.2.1 (S.2.2.1 q 0) 0) 0)) (p0 * 60 + p1)).toInt ≠ 6 ∧ (xat 2402 (d.2.2.2.1 (S.2.2.1 (S.2.2.1 (S.2.2.1 q 0) 0) 0)) (p0 * 60 + p1)).toInt ≠ 5) ∧ 0 ≤ p2.toInt ∧ p2.toInt ≤ 31) ∧ zTm S d u1 (S.2.2.1 (S.2.2.1 q 0) 0) (fun i => d.2.2.2.1 (S.2.2.1 (S.2.2.1 (S.2.2.1 q 0) 0) i))) ∨ (((((0 ≤ p0.toInt ∧ p0.toInt ≤ 39 ∧ p0.toInt < (d.1 (S.2.2.1 (S.2.2.1 q 0) 0) 6).toInt) ∧ 0 ≤ p1.toInt ∧ p1.toInt ≤ 59) ∧ (xat 2402 (d.2.2.2.1 (S.2.2.1 (S.2.2.1 (S.2.2.1 q 0) 0) 0)) (p0 * 60 + p1)).toInt ≠ 6 ∧ (xat 2402 (d.2.2.2.1 (S.2.2.1 (S.2.2.1 (S.2.2.1 q 0) 0) 0)) (p0 * 60 + p1)).toInt ≠ 5) ∧ 0 ≤ p2.toInt ∧ p2.toInt ≤ 31) ∧ r = xat 2402 (d.2.2.2.1 (S.2.2.1 (S.2.2.1 (S.2.2.1 q 0) 0) 4)) (p0 * 60 + p1) ∧ zTm S d u1 (S.2.2.1 (S.2.2.1 q 0) 0) (fun i => if i = 4 then xput 2402 (d.2.2.2.1 (S.2.2.1 (S.2.2.1 (S.2.2.1 q 0) 0) 4)) (p0 * 60 + p1) p2 else d.2.2.2.1 (S.2.2.1 (S.2.2.1 (S.2.2.1 q 0) 0) i)))) ∧ u1.1 q 4 = d.1 q 4) (x2 : yMI S u2 m ∧ ((r2.toInt = -1 ∧ ¬ ((((0 ≤ p0.toInt ∧ p0.toInt ≤ 39 ∧ p0.toInt < (u1.1 m 0).toInt) ∧ 0 ≤ p1.toInt ∧ p1.toInt ≤ 59) ∧ (yCe S u1 m 4 p0 p1).toInt ≠ 0 ∧ (yCe S u1 m 4 p0 p1).toInt ≠ 1) ∧ 0 ≤ p2.toInt ∧ p2.toInt ≤ 31) ∧ zTr S u2 m (fun s => u1.2.2.2.1 (S.2.2.1 m s))) ∨ (((((0 ≤ p0.toInt ∧ p0.toInt ≤ 39 ∧ p0.toInt < (u1.1 m 0).toInt) ∧ 0 ≤ p1.toInt ∧ p1.toInt ≤ 59) ∧ (yCe S u1 m 4 p0 p1).toInt ≠ 0 ∧ (yCe S u1 m 4 p0 p1).toInt ≠ 1) ∧ 0 ≤ p2.toInt ∧ p2.toInt ≤ 31) ∧ r2 = yCe S u1 m 9 p0 p1 ∧ zTr S u2 m (fun s => if s = 9 then upd (u1.2.2.2.1 (S.2.2.1 m 9)) (60 * p0.toInt.toNat + p1.toInt.toNat) (vp_nar .byte p2.toInt8.toInt32) else u1.2.2.2.1 (S.2.2.1 m s))))) : r = r2 ∧ zR4 S u2 q m := by
  obtain ⟨x1, hi⟩ := x1
  obtain ⟨-, x2⟩ := x2
  have em : u1.1 m = d.1 m := (hg1 m (by rw [hkm]; decide)).1
  have hn : d.1 (S.2.2.1 (S.2.2.1 q 0) 0) 6 = u1.1 m 0 := by rw [em]; exact h.1.1.1
  rw [hn] at x1
  have hT := h.2.1.now hSh hm hkm hg1 (by decide)
  have g : zR S u2 q m := h.1.gen hSh hq hkq hm hkm hg1 (by decide) hi hg2 (by decide) hf (by decide)
  have g3 : zI3 S u2 := h.2.2.kp (fun a ha => congrFun (hg1 a (by rw [ha]; decide)).1 3) hg2 (by decide)
  have hce := fun hr => hT.ce (c := p0) (p := p1) hr
  have hx : (0 ≤ p0.toInt ∧ p0.toInt ≤ 39 ∧ p0.toInt < (u1.1 m 0).toInt) ∧ 0 ≤ p1.toInt ∧ p1.toInt ≤ 59 → ∀ i, xat 2402 (d.2.2.2.1 (S.2.2.1 (S.2.2.1 (S.2.2.1 q 0) 0) i)) (p0 * 60 + p1) = yTd S d (S.2.2.1 (S.2.2.1 q 0) 0) i (60 * p0.toInt.toNat + p1.toInt.toNat) := fun hr i => xaK hr.1.1 hr.1.2.1 hr.2.1 hr.2.2
  have h0 : u2.1 m 0 = u1.1 m 0 := hf 0 (by decide)
  have hC : (((0 ≤ p0.toInt ∧ p0.toInt ≤ 39 ∧ p0.toInt < (u1.1 m 0).toInt) ∧ 0 ≤ p1.toInt ∧ p1.toInt ≤ 59) ∧ (xat 2402 (d.2.2.2.1 (S.2.2.1 (S.2.2.1 (S.2.2.1 q 0) 0) 0)) (p0 * 60 + p1)).toInt ≠ 6 ∧ (xat 2402 (d.2.2.2.1 (S.2.2.1 (S.2.2.1 (S.2.2.1 q 0) 0) 0)) (p0 * 60 + p1)).toInt ≠ 5) ↔ (((0 ≤ p0.toInt ∧ p0.toInt ≤ 39 ∧ p0.toInt < (u1.1 m 0).toInt) ∧ 0 ≤ p1.toInt ∧ p1.toInt ≤ 59) ∧ (yCe S u1 m 4 p0 p1).toInt ≠ 0 ∧ (yCe S u1 m 4 p0 p1).toInt ≠ 1) := by
    constructor
    · rintro ⟨hr, a, b⟩
      have k := (hce hr).kinds
      rw [hx hr 0] at a b
      exact ⟨hr, fun z => a (k.1.mpr z), fun z => b (k.2.1.mpr z)⟩
    · rintro ⟨hr, a, b⟩
      have k := (hce hr).kinds
      rw [hx hr 0]
      exact ⟨hr, fun z => a (k.1.mp z), fun z => b (k.2.1.mp z)⟩
  rcases x1 with ⟨a, b, c⟩ | ⟨⟨⟨hr, w6, w5⟩, y0, y31⟩, a, c⟩
  · rcases x2 with ⟨a2, -, c2⟩ | ⟨⟨w, y⟩, -, -⟩
    · exact ⟨Int32.toInt_inj.mp (a.trans a2.symm), g, h.2.1.same hSh hq hkq hm hkm hnk hg1 (by decide) hg2 (by decide) hi h0 c c2, g3⟩
    · exact absurd ⟨hC.mpr w, y⟩ b
  · obtain ⟨-, n0, n1⟩ := hC.mp ⟨hr, w6, w5⟩
    rcases x2 with ⟨-, b, -⟩ | ⟨-, a2, c2⟩
    · exact absurd ⟨⟨hr, n0, n1⟩, y0, y31⟩ b
    · refine ⟨?_, g, ?_, g3⟩
      · rw [a, a2, hx hr 4]; exact ((hce hr).kinds.2.2.1 n0 n1).2.2.2.2.1
      · refine h.2.1.row (K := 60 * p0.toInt.toNat + p1.toInt.toNat) hSh hq hkq hm hkm hnk hg1 (by decide) hg2 (by decide) hi h0 (by have := hr.1; rw [← em]; omega) c c2 ?_ ?_ ?_
        · intro i _ k hk
          by_cases e : i = 4
          · subst e; exact (congrFun (if_pos rfl) k).trans (xpN ⟨⟨hr.1.1, hr.1.2.1⟩, hr.2⟩ hk)
          · exact congrFun (if_neg e) k
        · intro s _ _ k hk
          by_cases e : s = 9
          · subst e; exact (congrFun (if_pos rfl) k).trans (upN hk)
          · exact congrFun (if_neg e) k
        · exact (hce hr).y n0 n1 ⟨y0, y31⟩ (fun i e => congrFun (if_neg e) _) ((congrFun (if_pos rfl) _).trans (xpE ⟨⟨hr.1.1, hr.1.2.1⟩, hr.2⟩)) (fun s e => congrFun (if_neg e) _) ((congrFun (if_pos rfl) _).trans (upE.trans (nb y0 (by omega)).1))
set_option maxHeartbeats 1000000 in
theorem zR4.amount {p0 : Int32} {p1 : Int32} {p2 : Int32} {r r2 : Int32} (h : zR4 S d q m) (hMI : yMI S u1 m) (hPo : yPo S d) (hSh : ySh S) (hq : q ∈ S.1) (hkq : S.2.1 q = 8) (hm : m ∈ S.1) (hkm : S.2.1 m = 9) (hnk : S.2.2.1 q 0 ≠ S.2.2.1 q 1) (hg1 : yAg S [8, 15, 24] d u1) (hg2 : yAg S [9, 40, 69] u1 u2) (hf : yK [38] u1 u2 m) (x1 : ((r.toInt = 0 ∧ ¬ ((((0 ≤ p0.toInt ∧ p0.toInt ≤ 39 ∧ p0.toInt < (d.1 (S.2.2.1 (S.2.2.1 q 0) 0) 6).toInt) ∧ 0 ≤ p1.toInt ∧ p1.toInt ≤ 59) ∧ (xat 2402 (d.2.2.2.1 (S.2.2.1 (S.2.2.1 (S.2.2.1 q 0) 0) 0)) (p0 * 60 + p1)).toInt ≠ 6 ∧ (xat 2402 (d.2.2.2.1 (S.2.2.1 (S.2.2.1 (S.2.2.1 q 0) 0) 0)) (p0 * 60 + p1)).toInt ≠ 5) ∧ -1000000 ≤ p2.toInt ∧ p2.toInt ≤ 1000000) ∧ zTm S d u1 (S.2.2.1 (S.2.2.1 q 0) 0) (fun i => d.2.2.2.1 (S.2.2.1 (S.2.2.1 (S.2.2.1 q 0) 0) i))) ∨ (r.toInt = 1 ∧ ((((0 ≤ p0.toInt ∧ p0.toInt ≤ 39 ∧ p0.toInt < (d.1 (S.2.2.1 (S.2.2.1 q 0) 0) 6).toInt) ∧ 0 ≤ p1.toInt ∧ p1.toInt ≤ 59) ∧ (xat 2402 (d.2.2.2.1 (S.2.2.1 (S.2.2.1 (S.2.2.1 q 0) 0) 0)) (p0 * 60 + p1)).toInt ≠ 6 ∧ (xat 2402 (d.2.2.2.1 (S.2.2.1 (S.2.2.1 (S.2.2.1 q 0) 0) 0)) (p0 * 60 + p1)).toInt ≠ 5) ∧ -1000000 ≤ p2.toInt ∧ p2.toInt ≤ 1000000) ∧ zTm S d u1 (S.2.2.1 (S.2.2.1 q 0) 0) (fun i => if i = 5 then xput 2402 (d.2.2.2.1 (S.2.2.1 (S.2.2.1 (S.2.2.1 q 0) 0) 5)) (p0 * 60 + p1) p2 else d.2.2.2.1 (S.2.2.1 (S.2.2.1 (S.2.2.1 q 0) 0) i)))) ∧ u1.1 q 4 = d.1 q 4) (x2 : yMI S u2 m ∧ ((r2.toInt = 0 ∧ ¬ ((((0 ≤ p0.toInt ∧ p0.toInt ≤ 39 ∧ p0.toInt < (u1.1 m 0).toInt) ∧ 0 ≤ p1.toInt ∧ p1.toInt ≤ 59) ∧ (yCe S u1 m 4 p0 p1).toInt ≠ 0 ∧ (yCe S u1 m 4 p0 p1).toInt ≠ 1) ∧ -1000000 ≤ p2.toInt ∧ p2.toInt ≤ 1000000) ∧ zTr S u2 m (fun s => u1.2.2.2.1 (S.2.2.1 m s))) ∨ (r2.toInt = 1 ∧ ((((0 ≤ p0.toInt ∧ p0.toInt ≤ 39 ∧ p0.toInt < (u1.1 m 0).toInt) ∧ 0 ≤ p1.toInt ∧ p1.toInt ≤ 59) ∧ (yCe S u1 m 4 p0 p1).toInt ≠ 0 ∧ (yCe S u1 m 4 p0 p1).toInt ≠ 1) ∧ -1000000 ≤ p2.toInt ∧ p2.toInt ≤ 1000000) ∧ zTr S u2 m (fun s => if s = 10 then upd (u1.2.2.2.1 (S.2.2.1 m 10)) (60 * p0.toInt.toNat + p1.toInt.toNat) p2 else u1.2.2.2.1 (S.2.2.1 m s))))) : r = r2 ∧ zR4 S u2 q m := by
  obtain ⟨x1, hi⟩ := x1
  obtain ⟨-, x2⟩ := x2
  have em : u1.1 m = d.1 m := (hg1 m (by rw [hkm]; decide)).1
  have hn : d.1 (S.2.2.1 (S.2.2.1 q 0) 0) 6 = u1.1 m 0 := by rw [em]; exact h.1.1.1
  rw [hn] at x1
  have hT := h.2.1.now hSh hm hkm hg1 (by decide)
  have g : zR S u2 q m := h.1.gen hSh hq hkq hm hkm hg1 (by decide) hi hg2 (by decide) hf (by decide)
  have g3 : zI3 S u2 := h.2.2.kp (fun a ha => congrFun (hg1 a (by rw [ha]; decide)).1 3) hg2 (by decide)
  have hce := fun hr => hT.ce (c := p0) (p := p1) hr
  have hx : (0 ≤ p0.toInt ∧ p0.toInt ≤ 39 ∧ p0.toInt < (u1.1 m 0).toInt) ∧ 0 ≤ p1.toInt ∧ p1.toInt ≤ 59 → ∀ i, xat 2402 (d.2.2.2.1 (S.2.2.1 (S.2.2.1 (S.2.2.1 q 0) 0) i)) (p0 * 60 + p1) = yTd S d (S.2.2.1 (S.2.2.1 q 0) 0) i (60 * p0.toInt.toNat + p1.toInt.toNat) := fun hr i => xaK hr.1.1 hr.1.2.1 hr.2.1 hr.2.2
  have h0 : u2.1 m 0 = u1.1 m 0 := hf 0 (by decide)
  have hC : (((0 ≤ p0.toInt ∧ p0.toInt ≤ 39 ∧ p0.toInt < (u1.1 m 0).toInt) ∧ 0 ≤ p1.toInt ∧ p1.toInt ≤ 59) ∧ (xat 2402 (d.2.2.2.1 (S.2.2.1 (S.2.2.1 (S.2.2.1 q 0) 0) 0)) (p0 * 60 + p1)).toInt ≠ 6 ∧ (xat 2402 (d.2.2.2.1 (S.2.2.1 (S.2.2.1 (S.2.2.1 q 0) 0) 0)) (p0 * 60 + p1)).toInt ≠ 5) ↔ (((0 ≤ p0.toInt ∧ p0.toInt ≤ 39 ∧ p0.toInt < (u1.1 m 0).toInt) ∧ 0 ≤ p1.toInt ∧ p1.toInt ≤ 59) ∧ (yCe S u1 m 4 p0 p1).toInt ≠ 0 ∧ (yCe S u1 m 4 p0 p1).toInt ≠ 1) := by
    constructor
    · rintro ⟨hr, a, b⟩
      have k := (hce hr).kinds
      rw [hx hr 0] at a b
      exact ⟨hr, fun z => a (k.1.mpr z), fun z => b (k.2.1.mpr z)⟩
    · rintro ⟨hr, a, b⟩
      have k := (hce hr).kinds
      rw [hx hr 0]
      exact ⟨hr, fun z => a (k.1.mp z), fun z => b (k.2.1.mp z)⟩
  have hD : ((((0 ≤ p0.toInt ∧ p0.toInt ≤ 39 ∧ p0.toInt < (u1.1 m 0).toInt) ∧ 0 ≤ p1.toInt ∧ p1.toInt ≤ 59) ∧ (xat 2402 (d.2.2.2.1 (S.2.2.1 (S.2.2.1 (S.2.2.1 q 0) 0) 0)) (p0 * 60 + p1)).toInt ≠ 6 ∧ (xat 2402 (d.2.2.2.1 (S.2.2.1 (S.2.2.1 (S.2.2.1 q 0) 0) 0)) (p0 * 60 + p1)).toInt ≠ 5) ∧ -1000000 ≤ p2.toInt ∧ p2.toInt ≤ 1000000) ↔ ((((0 ≤ p0.toInt ∧ p0.toInt ≤ 39 ∧ p0.toInt < (u1.1 m 0).toInt) ∧ 0 ≤ p1.toInt ∧ p1.toInt ≤ 59) ∧ (yCe S u1 m 4 p0 p1).toInt ≠ 0 ∧ (yCe S u1 m 4 p0 p1).toInt ≠ 1) ∧ -1000000 ≤ p2.toInt ∧ p2.toInt ≤ 1000000) := ⟨fun w => ⟨hC.mp w.1, w.2⟩, fun w => ⟨hC.mpr w.1, w.2⟩⟩
  obtain ⟨e, hh⟩ := ans hD x1 x2
  refine ⟨e, g, ?_, g3⟩
  rcases hh with ⟨-, a, b⟩ | ⟨⟨⟨hr, w6, w5⟩, -⟩, a, b⟩
  · exact h.2.1.same hSh hq hkq hm hkm hnk hg1 (by decide) hg2 (by decide) hi h0 a b
  · obtain ⟨-, n0, n1⟩ := hC.mp ⟨hr, w6, w5⟩
    refine h.2.1.row (K := 60 * p0.toInt.toNat + p1.toInt.toNat) hSh hq hkq hm hkm hnk hg1 (by decide) hg2 (by decide) hi h0 (by have := hr.1; rw [← em]; omega) a b ?_ ?_ ?_
    · intro i _ k hk
      by_cases e : i = 5
      · subst e; exact (congrFun (if_pos rfl) k).trans (xpN ⟨⟨hr.1.1, hr.1.2.1⟩, hr.2⟩ hk)
      · exact congrFun (if_neg e) k
    · intro s _ _ k hk
      by_cases e : s = 10
      · subst e; exact (congrFun (if_pos rfl) k).trans (upN hk)
      · exact congrFun (if_neg e) k
    · exact (hce hr).a n0 n1 (fun i e => congrFun (if_neg e) _) ((congrFun (if_pos rfl) _).trans (xpE ⟨⟨hr.1.1, hr.1.2.1⟩, hr.2⟩)) (fun s e => congrFun (if_neg e) _) ((congrFun (if_pos rfl) _).trans upE)
set_option maxHeartbeats 1000000 in
theorem zR4.heading {p0 : Int32} {p1 : Int32} {p2 : Int32} {r r2 : Int32} (h : zR4 S d q m) (hMI : yMI S u1 m) (hPo : yPo S d) (hSh : ySh S) (hq : q ∈ S.1) (hkq : S.2.1 q = 8) (hm : m ∈ S.1) (hkm : S.2.1 m = 9) (hnk : S.2.2.1 q 0 ≠ S.2.2.1 q 1) (hg1 : yAg S [8, 10, 11, 12, 13, 14, 15, 24] d u1) (hg2 : yAg S [9, 34, 40, 69] u1 u2) (hf : yK [38] u1 u2 m) (x1 : ((r.toInt = 0 ∧ ¬ ((0 ≤ p0.toInt ∧ p0.toInt ≤ 39 ∧ p0.toInt < (d.1 (S.2.2.1 (S.2.2.1 q 0) 0) 6).toInt) ∧ 0 ≤ p1.toInt ∧ p1.toInt ≤ 59) ∧ zTm S d u1 (S.2.2.1 (S.2.2.1 q 0) 0) (fun i => d.2.2.2.1 (S.2.2.1 (S.2.2.1 (S.2.2.1 q 0) 0) i))) ∨ (r.toInt = 1 ∧ ((0 ≤ p0.toInt ∧ p0.toInt ≤ 39 ∧ p0.toInt < (d.1 (S.2.2.1 (S.2.2.1 q 0) 0) 6).toInt) ∧ 0 ≤ p1.toInt ∧ p1.toInt ≤ 59) ∧ zTm S d u1 (S.2.2.1 (S.2.2.1 q 0) 0) (fun i => xput 2402 (d.2.2.2.1 (S.2.2.1 (S.2.2.1 (S.2.2.1 q 0) 0) i)) (p0 * 60 + p1) (([5, 0, p2, 0, 0, 0] : List Int32).getD i 0)))) ∧ u1.1 q 4 = d.1 q 4) (x2 : yMI S u2 m ∧ ((r2.toInt = 0 ∧ ¬ ((0 ≤ p0.toInt ∧ p0.toInt ≤ 39 ∧ p0.toInt < (u1.1 m 0).toInt) ∧ 0 ≤ p1.toInt ∧ p1.toInt ≤ 59) ∧ zTr S u2 m (fun s => u1.2.2.2.1 (S.2.2.1 m s))) ∨ (r2.toInt = 1 ∧ ((0 ≤ p0.toInt ∧ p0.toInt ≤ 39 ∧ p0.toInt < (u1.1 m 0).toInt) ∧ 0 ≤ p1.toInt ∧ p1.toInt ≤ 59) ∧ zTr S u2 m (fun s => if s = 10 then upd (u1.2.2.2.1 (S.2.2.1 m 10)) (60 * p0.toInt.toNat + p1.toInt.toNat) p2 else if s = 4 then upd (u1.2.2.2.1 (S.2.2.1 m 4)) (60 * p0.toInt.toNat + p1.toInt.toNat) (vp_nar .byte 1) else u1.2.2.2.1 (S.2.2.1 m s))))) : r = r2 ∧ zR4 S u2 q m := by
  obtain ⟨x1, hi⟩ := x1
  obtain ⟨-, x2⟩ := x2
  have em : u1.1 m = d.1 m := (hg1 m (by rw [hkm]; decide)).1
  have hn : d.1 (S.2.2.1 (S.2.2.1 q 0) 0) 6 = u1.1 m 0 := by rw [em]; exact h.1.1.1
  rw [hn] at x1
  have hT := h.2.1.now hSh hm hkm hg1 (by decide)
  have g : zR S u2 q m := h.1.gen hSh hq hkq hm hkm hg1 (by decide) hi hg2 (by decide) hf (by decide)
  have g3 : zI3 S u2 := h.2.2.kp (fun a ha => congrFun (hg1 a (by rw [ha]; decide)).1 3) hg2 (by decide)
  have hce := fun hr => hT.ce (c := p0) (p := p1) hr
  have hx : (0 ≤ p0.toInt ∧ p0.toInt ≤ 39 ∧ p0.toInt < (u1.1 m 0).toInt) ∧ 0 ≤ p1.toInt ∧ p1.toInt ≤ 59 → ∀ i, xat 2402 (d.2.2.2.1 (S.2.2.1 (S.2.2.1 (S.2.2.1 q 0) 0) i)) (p0 * 60 + p1) = yTd S d (S.2.2.1 (S.2.2.1 q 0) 0) i (60 * p0.toInt.toNat + p1.toInt.toNat) := fun hr i => xaK hr.1.1 hr.1.2.1 hr.2.1 hr.2.2
  have h0 : u2.1 m 0 = u1.1 m 0 := hf 0 (by decide)
  obtain ⟨e, hh⟩ := ans Iff.rfl x1 x2
  refine ⟨e, g, ?_, g3⟩
  rcases hh with ⟨-, a, b⟩ | ⟨hr, a, b⟩
  · exact h.2.1.same hSh hq hkq hm hkm hnk hg1 (by decide) hg2 (by decide) hi h0 a b
  · refine h.2.1.row (K := 60 * p0.toInt.toNat + p1.toInt.toNat) hSh hq hkq hm hkm hnk hg1 (by decide) hg2 (by decide) hi h0 (by have := hr.1; rw [← em]; omega) a b ?_ ?_ ?_
    · exact fun i _ k hk => xpN ⟨⟨hr.1.1, hr.1.2.1⟩, hr.2⟩ hk
    · intro s _ _ k hk
      by_cases e : s = 10
      · subst e; exact (congrFun (if_pos rfl) k).trans (upN hk)
      · by_cases e4 : s = 4
        · subst e4; exact (congrFun ((if_neg e).trans (if_pos rfl)) k).trans (upN hk)
        · exact congrFun ((if_neg e).trans (if_neg e4)) k
    · exact Or.inr (Or.inl ⟨(congrFun ((if_neg (by decide)).trans (if_pos rfl)) _).trans (upE.trans (by decide +kernel)), xpE ⟨⟨hr.1.1, hr.1.2.1⟩, hr.2⟩, (xpE ⟨⟨hr.1.1, hr.1.2.1⟩, hr.2⟩).trans ((congrFun (if_pos rfl) _).trans upE).symm⟩)
set_option maxHeartbeats 1000000 in
theorem zR4.strike {p0 : Int32} {p1 : Int32} {r r2 : Int32} (h : zR4 S d q m) (hMI : yMI S u1 m) (hPo : yPo S d) (hSh : ySh S) (hq : q ∈ S.1) (hkq : S.2.1 q = 8) (hm : m ∈ S.1) (hkm : S.2.1 m = 9) (hnk : S.2.2.1 q 0 ≠ S.2.2.1 q 1) (hg1 : yAg S [8, 10, 11, 12, 13, 14, 15, 24] d u1) (hg2 : yAg S [9, 34, 69] u1 u2) (hf : yK [38] u1 u2 m) (x1 : ((r.toInt = 0 ∧ ¬ (((0 ≤ p0.toInt ∧ p0.toInt ≤ 39 ∧ p0.toInt < (d.1 (S.2.2.1 (S.2.2.1 q 0) 0) 6).toInt) ∧ 0 ≤ p1.toInt ∧ p1.toInt ≤ 59) ∧ (xat 2402 (d.2.2.2.1 (S.2.2.1 (S.2.2.1 (S.2.2.1 q 0) 0) 0)) (p0 * 60 + p1)).toInt ≠ 6) ∧ zTm S d u1 (S.2.2.1 (S.2.2.1 q 0) 0) (fun i => d.2.2.2.1 (S.2.2.1 (S.2.2.1 (S.2.2.1 q 0) 0) i))) ∨ (r.toInt = 1 ∧ (((0 ≤ p0.toInt ∧ p0.toInt ≤ 39 ∧ p0.toInt < (d.1 (S.2.2.1 (S.2.2.1 q 0) 0) 6).toInt) ∧ 0 ≤ p1.toInt ∧ p1.toInt ≤ 59) ∧ (xat 2402 (d.2.2.2.1 (S.2.2.1 (S.2.2.1 (S.2.2.1 q 0) 0) 0)) (p0 * 60 + p1)).toInt ≠ 6) ∧ zTm S d u1 (S.2.2.1 (S.2.2.1 q 0) 0) (fun i => xput 2402 (d.2.2.2.1 (S.2.2.1 (S.2.2.1 (S.2.2.1 q 0) 0) i)) (p0 * 60 + p1) (([6, 0, 0, 0, 0, 0] : List Int32).getD i 0)))) ∧ u1.1 q 4 = d.1 q 4) (x2 : yMI S u2 m ∧ ((r2.toInt = 0 ∧ ¬ (((0 ≤ p0.toInt ∧ p0.toInt ≤ 39 ∧ p0.toInt < (u1.1 m 0).toInt) ∧ 0 ≤ p1.toInt ∧ p1.toInt ≤ 59) ∧ (yCe S u1 m 4 p0 p1).toInt ≠ 0) ∧ zTr S u2 m (fun s => u1.2.2.2.1 (S.2.2.1 m s))) ∨ (r2.toInt = 1 ∧ (((0 ≤ p0.toInt ∧ p0.toInt ≤ 39 ∧ p0.toInt < (u1.1 m 0).toInt) ∧ 0 ≤ p1.toInt ∧ p1.toInt ≤ 59) ∧ (yCe S u1 m 4 p0 p1).toInt ≠ 0) ∧ zTr S u2 m (fun s => if s = 4 then upd (u1.2.2.2.1 (S.2.2.1 m 4)) (60 * p0.toInt.toNat + p1.toInt.toNat) (vp_nar .byte 0) else u1.2.2.2.1 (S.2.2.1 m s))))) : r = r2 ∧ zR4 S u2 q m := by
  obtain ⟨x1, hi⟩ := x1
  obtain ⟨-, x2⟩ := x2
  have em : u1.1 m = d.1 m := (hg1 m (by rw [hkm]; decide)).1
  have hn : d.1 (S.2.2.1 (S.2.2.1 q 0) 0) 6 = u1.1 m 0 := by rw [em]; exact h.1.1.1
  rw [hn] at x1
  have hT := h.2.1.now hSh hm hkm hg1 (by decide)
  have g : zR S u2 q m := h.1.gen hSh hq hkq hm hkm hg1 (by decide) hi hg2 (by decide) hf (by decide)
  have g3 : zI3 S u2 := h.2.2.kp (fun a ha => congrFun (hg1 a (by rw [ha]; decide)).1 3) hg2 (by decide)
  have hce := fun hr => hT.ce (c := p0) (p := p1) hr
  have hx : (0 ≤ p0.toInt ∧ p0.toInt ≤ 39 ∧ p0.toInt < (u1.1 m 0).toInt) ∧ 0 ≤ p1.toInt ∧ p1.toInt ≤ 59 → ∀ i, xat 2402 (d.2.2.2.1 (S.2.2.1 (S.2.2.1 (S.2.2.1 q 0) 0) i)) (p0 * 60 + p1) = yTd S d (S.2.2.1 (S.2.2.1 q 0) 0) i (60 * p0.toInt.toNat + p1.toInt.toNat) := fun hr i => xaK hr.1.1 hr.1.2.1 hr.2.1 hr.2.2
  have h0 : u2.1 m 0 = u1.1 m 0 := hf 0 (by decide)
  have hC : (((0 ≤ p0.toInt ∧ p0.toInt ≤ 39 ∧ p0.toInt < (u1.1 m 0).toInt) ∧ 0 ≤ p1.toInt ∧ p1.toInt ≤ 59) ∧ (xat 2402 (d.2.2.2.1 (S.2.2.1 (S.2.2.1 (S.2.2.1 q 0) 0) 0)) (p0 * 60 + p1)).toInt ≠ 6) ↔ (((0 ≤ p0.toInt ∧ p0.toInt ≤ 39 ∧ p0.toInt < (u1.1 m 0).toInt) ∧ 0 ≤ p1.toInt ∧ p1.toInt ≤ 59) ∧ (yCe S u1 m 4 p0 p1).toInt ≠ 0) := by
    constructor
    · rintro ⟨hr, a⟩
      have k := (hce hr).kinds
      rw [hx hr 0] at a
      exact ⟨hr, fun z => a (k.1.mpr z)⟩
    · rintro ⟨hr, a⟩
      have k := (hce hr).kinds
      rw [hx hr 0]
      exact ⟨hr, fun z => a (k.1.mp z)⟩
  obtain ⟨e, hh⟩ := ans hC x1 x2
  refine ⟨e, g, ?_, g3⟩
  rcases hh with ⟨-, a, b⟩ | ⟨⟨hr, -⟩, a, b⟩
  · exact h.2.1.same hSh hq hkq hm hkm hnk hg1 (by decide) hg2 (by decide) hi h0 a b
  · refine h.2.1.row (K := 60 * p0.toInt.toNat + p1.toInt.toNat) hSh hq hkq hm hkm hnk hg1 (by decide) hg2 (by decide) hi h0 (by have := hr.1; rw [← em]; omega) a b ?_ ?_ ?_
    · exact fun i _ k hk => xpN ⟨⟨hr.1.1, hr.1.2.1⟩, hr.2⟩ hk
    · intro s _ _ k hk
      by_cases e : s = 4
      · subst e; exact (congrFun (if_pos rfl) k).trans (upN hk)
      · exact congrFun (if_neg e) k
    · exact Or.inl ⟨(congrFun (if_pos rfl) _).trans (upE.trans (by decide +kernel)), xpE ⟨⟨hr.1.1, hr.1.2.1⟩, hr.2⟩⟩
set_option maxHeartbeats 1000000 in
theorem zR4.kind {p0 : Int32} {p1 : Int32} {r r2 : Int32} (h : zR4 S d q m) (hMI : yMI S u1 m) (hPo : yPo S d) (hSh : ySh S) (hq : q ∈ S.1) (hkq : S.2.1 q = 8) (hm : m ∈ S.1) (hkm : S.2.1 m = 9) (hnk : S.2.2.1 q 0 ≠ S.2.2.1 q 1) (hg1 : yAg S [8, 24] d u1) (hg2 : yAg S [9, 69] u1 u2) (hf : yK [38] u1 u2 m) (x1 : ((r.toInt = -1 ∧ ¬ ((0 ≤ p0.toInt ∧ p0.toInt ≤ 39 ∧ p0.toInt < (d.1 (S.2.2.1 (S.2.2.1 q 0) 0) 6).toInt) ∧ 0 ≤ p1.toInt ∧ p1.toInt ≤ 59) ∧ zTm S d u1 (S.2.2.1 (S.2.2.1 q 0) 0) (fun i => d.2.2.2.1 (S.2.2.1 (S.2.2.1 (S.2.2.1 q 0) 0) i))) ∨ (((0 ≤ p0.toInt ∧ p0.toInt ≤ 39 ∧ p0.toInt < (d.1 (S.2.2.1 (S.2.2.1 q 0) 0) 6).toInt) ∧ 0 ≤ p1.toInt ∧ p1.toInt ≤ 59) ∧ r = xat 2402 (d.2.2.2.1 (S.2.2.1 (S.2.2.1 (S.2.2.1 q 0) 0) 0)) (p0 * 60 + p1) ∧ zTm S d u1 (S.2.2.1 (S.2.2.1 q 0) 0) (fun i => d.2.2.2.1 (S.2.2.1 (S.2.2.1 (S.2.2.1 q 0) 0) i)))) ∧ u1.1 q 4 = d.1 q 4) (x2 : yMI S u2 m ∧ ((r2.toInt = -1 ∧ ¬ ((0 ≤ p0.toInt ∧ p0.toInt ≤ 39 ∧ p0.toInt < (u1.1 m 0).toInt) ∧ 0 ≤ p1.toInt ∧ p1.toInt ≤ 59) ∧ zTr S u2 m (fun s => u1.2.2.2.1 (S.2.2.1 m s))) ∨ (((0 ≤ p0.toInt ∧ p0.toInt ≤ 39 ∧ p0.toInt < (u1.1 m 0).toInt) ∧ 0 ≤ p1.toInt ∧ p1.toInt ≤ 59) ∧ (((yCe S u1 m 4 p0 p1).toInt = 0 → r2.toInt = 6) ∧ ((yCe S u1 m 4 p0 p1).toInt = 1 → r2.toInt = 5) ∧ ((yCe S u1 m 4 p0 p1).toInt ≠ 0 → (yCe S u1 m 4 p0 p1).toInt ≠ 1 → r2 = yCe S u1 m 5 p0 p1)) ∧ zTr S u2 m (fun s => u1.2.2.2.1 (S.2.2.1 m s))))) : r = r2 ∧ zR4 S u2 q m := by
  obtain ⟨x1, hi⟩ := x1
  obtain ⟨-, x2⟩ := x2
  have em : u1.1 m = d.1 m := (hg1 m (by rw [hkm]; decide)).1
  have hn : d.1 (S.2.2.1 (S.2.2.1 q 0) 0) 6 = u1.1 m 0 := by rw [em]; exact h.1.1.1
  rw [hn] at x1
  have hT := h.2.1.now hSh hm hkm hg1 (by decide)
  have g : zR S u2 q m := h.1.gen hSh hq hkq hm hkm hg1 (by decide) hi hg2 (by decide) hf (by decide)
  have g3 : zI3 S u2 := h.2.2.kp (fun a ha => congrFun (hg1 a (by rw [ha]; decide)).1 3) hg2 (by decide)
  have hce := fun hr => hT.ce (c := p0) (p := p1) hr
  have hx : (0 ≤ p0.toInt ∧ p0.toInt ≤ 39 ∧ p0.toInt < (u1.1 m 0).toInt) ∧ 0 ≤ p1.toInt ∧ p1.toInt ≤ 59 → ∀ i, xat 2402 (d.2.2.2.1 (S.2.2.1 (S.2.2.1 (S.2.2.1 q 0) 0) i)) (p0 * 60 + p1) = yTd S d (S.2.2.1 (S.2.2.1 q 0) 0) i (60 * p0.toInt.toNat + p1.toInt.toNat) := fun hr i => xaK hr.1.1 hr.1.2.1 hr.2.1 hr.2.2
  have h0 : u2.1 m 0 = u1.1 m 0 := hf 0 (by decide)
  rcases x1 with ⟨a, b, c⟩ | ⟨hr, a, c⟩
  · rcases x2 with ⟨a2, -, c2⟩ | ⟨w, -, -⟩
    · exact ⟨Int32.toInt_inj.mp (a.trans a2.symm), g, h.2.1.same hSh hq hkq hm hkm hnk hg1 (by decide) hg2 (by decide) hi h0 c c2, g3⟩
    · exact absurd w b
  · rcases x2 with ⟨-, b, -⟩ | ⟨-, ⟨a0, a1, a2⟩, c2⟩
    · exact absurd hr b
    · refine ⟨?_, g, h.2.1.same hSh hq hkq hm hkm hnk hg1 (by decide) hg2 (by decide) hi h0 c c2, g3⟩
      have k := (hce hr).kinds
      rw [hx hr 0] at a
      by_cases z0 : (yCe S u1 m 4 p0 p1).toInt = 0
      · exact Int32.toInt_inj.mp (by rw [a, k.1.mpr z0, a0 z0])
      · by_cases z1 : (yCe S u1 m 4 p0 p1).toInt = 1
        · exact Int32.toInt_inj.mp (by rw [a, k.2.1.mpr z1, a1 z1])
        · rw [a, a2 z0 z1]; exact (k.2.2.1 z0 z1).1
set_option maxHeartbeats 1000000 in
theorem zR4.headed {p0 : Int32} {p1 : Int32} {r r2 : Int32} (h : zR4 S d q m) (hMI : yMI S u1 m) (hPo : yPo S d) (hSh : ySh S) (hq : q ∈ S.1) (hkq : S.2.1 q = 8) (hm : m ∈ S.1) (hkm : S.2.1 m = 9) (hnk : S.2.2.1 q 0 ≠ S.2.2.1 q 1) (hg1 : yAg S [8, 24] d u1) (hg2 : yAg S [9, 69] u1 u2) (hf : yK [38] u1 u2 m) (x1 : ((r.toInt = -1 ∧ ¬ (((0 ≤ p0.toInt ∧ p0.toInt ≤ 39 ∧ p0.toInt < (d.1 (S.2.2.1 (S.2.2.1 q 0) 0) 6).toInt) ∧ 0 ≤ p1.toInt ∧ p1.toInt ≤ 59) ∧ (xat 2402 (d.2.2.2.1 (S.2.2.1 (S.2.2.1 (S.2.2.1 q 0) 0) 0)) (p0 * 60 + p1)).toInt ≠ 6 ∧ (xat 2402 (d.2.2.2.1 (S.2.2.1 (S.2.2.1 (S.2.2.1 q 0) 0) 0)) (p0 * 60 + p1)).toInt = 5) ∧ zTm S d u1 (S.2.2.1 (S.2.2.1 q 0) 0) (fun i => d.2.2.2.1 (S.2.2.1 (S.2.2.1 (S.2.2.1 q 0) 0) i))) ∨ ((((0 ≤ p0.toInt ∧ p0.toInt ≤ 39 ∧ p0.toInt < (d.1 (S.2.2.1 (S.2.2.1 q 0) 0) 6).toInt) ∧ 0 ≤ p1.toInt ∧ p1.toInt ≤ 59) ∧ (xat 2402 (d.2.2.2.1 (S.2.2.1 (S.2.2.1 (S.2.2.1 q 0) 0) 0)) (p0 * 60 + p1)).toInt ≠ 6 ∧ (xat 2402 (d.2.2.2.1 (S.2.2.1 (S.2.2.1 (S.2.2.1 q 0) 0) 0)) (p0 * 60 + p1)).toInt = 5) ∧ r = xat 2402 (d.2.2.2.1 (S.2.2.1 (S.2.2.1 (S.2.2.1 q 0) 0) 2)) (p0 * 60 + p1) ∧ zTm S d u1 (S.2.2.1 (S.2.2.1 q 0) 0) (fun i => d.2.2.2.1 (S.2.2.1 (S.2.2.1 (S.2.2.1 q 0) 0) i)))) ∧ u1.1 q 4 = d.1 q 4) (x2 : yMI S u2 m ∧ ((r2.toInt = -1 ∧ ¬ (((0 ≤ p0.toInt ∧ p0.toInt ≤ 39 ∧ p0.toInt < (u1.1 m 0).toInt) ∧ 0 ≤ p1.toInt ∧ p1.toInt ≤ 59) ∧ (yCe S u1 m 4 p0 p1).toInt = 1) ∧ zTr S u2 m (fun s => u1.2.2.2.1 (S.2.2.1 m s))) ∨ ((((0 ≤ p0.toInt ∧ p0.toInt ≤ 39 ∧ p0.toInt < (u1.1 m 0).toInt) ∧ 0 ≤ p1.toInt ∧ p1.toInt ≤ 59) ∧ (yCe S u1 m 4 p0 p1).toInt = 1) ∧ r2 = yCe S u1 m 10 p0 p1 ∧ zTr S u2 m (fun s => u1.2.2.2.1 (S.2.2.1 m s))))) : r = r2 ∧ zR4 S u2 q m := by
  obtain ⟨x1, hi⟩ := x1
  obtain ⟨-, x2⟩ := x2
  have em : u1.1 m = d.1 m := (hg1 m (by rw [hkm]; decide)).1
  have hn : d.1 (S.2.2.1 (S.2.2.1 q 0) 0) 6 = u1.1 m 0 := by rw [em]; exact h.1.1.1
  rw [hn] at x1
  have hT := h.2.1.now hSh hm hkm hg1 (by decide)
  have g : zR S u2 q m := h.1.gen hSh hq hkq hm hkm hg1 (by decide) hi hg2 (by decide) hf (by decide)
  have g3 : zI3 S u2 := h.2.2.kp (fun a ha => congrFun (hg1 a (by rw [ha]; decide)).1 3) hg2 (by decide)
  have hce := fun hr => hT.ce (c := p0) (p := p1) hr
  have hx : (0 ≤ p0.toInt ∧ p0.toInt ≤ 39 ∧ p0.toInt < (u1.1 m 0).toInt) ∧ 0 ≤ p1.toInt ∧ p1.toInt ≤ 59 → ∀ i, xat 2402 (d.2.2.2.1 (S.2.2.1 (S.2.2.1 (S.2.2.1 q 0) 0) i)) (p0 * 60 + p1) = yTd S d (S.2.2.1 (S.2.2.1 q 0) 0) i (60 * p0.toInt.toNat + p1.toInt.toNat) := fun hr i => xaK hr.1.1 hr.1.2.1 hr.2.1 hr.2.2
  have h0 : u2.1 m 0 = u1.1 m 0 := hf 0 (by decide)
  rcases x1 with ⟨a, b, c⟩ | ⟨⟨hr, w6, w5⟩, a, c⟩
  · rcases x2 with ⟨a2, -, c2⟩ | ⟨⟨hr, w⟩, -, -⟩
    · exact ⟨Int32.toInt_inj.mp (a.trans a2.symm), g, h.2.1.same hSh hq hkq hm hkm hnk hg1 (by decide) hg2 (by decide) hi h0 c c2, g3⟩
    · have k := (hce hr).kinds
      have q5 := k.2.1.mpr w
      exact absurd ⟨hr, by rw [hx hr 0, q5]; decide, by rw [hx hr 0]; exact q5⟩ b
  · have k := (hce hr).kinds
    rw [hx hr 0] at w5
    have q1 := k.2.1.mp w5
    rcases x2 with ⟨-, b, -⟩ | ⟨-, a2, c2⟩
    · exact absurd ⟨hr, q1⟩ b
    · refine ⟨?_, g, h.2.1.same hSh hq hkq hm hkm hnk hg1 (by decide) hg2 (by decide) hi h0 c c2, g3⟩
      rw [a, a2, hx hr 2]; exact k.2.2.2 q1
set_option maxHeartbeats 1000000 in
theorem zR4.span {p0 : Int32} {p1 : Int32} {p2 : Int32} {r r2 : Int32} (h : zR4 S d q m) (hMI : yMI S u1 m) (hPo : yPo S d) (hSh : ySh S) (hq : q ∈ S.1) (hkq : S.2.1 q = 8) (hm : m ∈ S.1) (hkm : S.2.1 m = 9) (hnk : S.2.2.1 q 0 ≠ S.2.2.1 q 1) (hg1 : yAg S [8, 24] d u1) (hg2 : yAg S [9, 69] u1 u2) (hf : yK [38] u1 u2 m) (x1 : ((r.toInt = -1 ∧ ¬ ((((0 ≤ p0.toInt ∧ p0.toInt ≤ 39 ∧ p0.toInt < (d.1 (S.2.2.1 (S.2.2.1 q 0) 0) 6).toInt) ∧ 0 ≤ p1.toInt ∧ p1.toInt ≤ 59) ∧ (xat 2402 (d.2.2.2.1 (S.2.2.1 (S.2.2.1 (S.2.2.1 q 0) 0) 0)) (p0 * 60 + p1)).toInt ≠ 6 ∧ (xat 2402 (d.2.2.2.1 (S.2.2.1 (S.2.2.1 (S.2.2.1 q 0) 0) 0)) (p0 * 60 + p1)).toInt ≠ 5) ∧ 0 ≤ p2.toInt ∧ p2.toInt ≤ 4) ∧ zTm S d u1 (S.2.2.1 (S.2.2.1 q 0) 0) (fun i => d.2.2.2.1 (S.2.2.1 (S.2.2.1 (S.2.2.1 q 0) 0) i))) ∨ (((((0 ≤ p0.toInt ∧ p0.toInt ≤ 39 ∧ p0.toInt < (d.1 (S.2.2.1 (S.2.2.1 q 0) 0) 6).toInt) ∧ 0 ≤ p1.toInt ∧ p1.toInt ≤ 59) ∧ (xat 2402 (d.2.2.2.1 (S.2.2.1 (S.2.2.1 (S.2.2.1 q 0) 0) 0)) (p0 * 60 + p1)).toInt ≠ 6 ∧ (xat 2402 (d.2.2.2.1 (S.2.2.1 (S.2.2.1 (S.2.2.1 q 0) 0) 0)) (p0 * 60 + p1)).toInt ≠ 5) ∧ 0 ≤ p2.toInt ∧ p2.toInt ≤ 4) ∧ ((p2.toInt = 0 → r = xat 2402 (d.2.2.2.1 (S.2.2.1 (S.2.2.1 (S.2.2.1 q 0) 0) 1)) (p0 * 60 + p1)) ∧ (p2.toInt = 1 → r = xat 2402 (d.2.2.2.1 (S.2.2.1 (S.2.2.1 (S.2.2.1 q 0) 0) 2)) (p0 * 60 + p1)) ∧ (p2.toInt = 2 → r = xat 2402 (d.2.2.2.1 (S.2.2.1 (S.2.2.1 (S.2.2.1 q 0) 0) 3)) (p0 * 60 + p1)) ∧ (p2.toInt = 3 → r = xat 2402 (d.2.2.2.1 (S.2.2.1 (S.2.2.1 (S.2.2.1 q 0) 0) 4)) (p0 * 60 + p1)) ∧ (p2.toInt = 4 → r = xat 2402 (d.2.2.2.1 (S.2.2.1 (S.2.2.1 (S.2.2.1 q 0) 0) 5)) (p0 * 60 + p1))) ∧ zTm S d u1 (S.2.2.1 (S.2.2.1 q 0) 0) (fun i => d.2.2.2.1 (S.2.2.1 (S.2.2.1 (S.2.2.1 q 0) 0) i)))) ∧ u1.1 q 4 = d.1 q 4) (x2 : yMI S u2 m ∧ ((r2.toInt = -1 ∧ ¬ ((((0 ≤ p0.toInt ∧ p0.toInt ≤ 39 ∧ p0.toInt < (u1.1 m 0).toInt) ∧ 0 ≤ p1.toInt ∧ p1.toInt ≤ 59) ∧ (yCe S u1 m 4 p0 p1).toInt ≠ 0 ∧ (yCe S u1 m 4 p0 p1).toInt ≠ 1) ∧ 0 ≤ p2.toInt ∧ p2.toInt ≤ 4) ∧ zTr S u2 m (fun s => u1.2.2.2.1 (S.2.2.1 m s))) ∨ (((((0 ≤ p0.toInt ∧ p0.toInt ≤ 39 ∧ p0.toInt < (u1.1 m 0).toInt) ∧ 0 ≤ p1.toInt ∧ p1.toInt ≤ 59) ∧ (yCe S u1 m 4 p0 p1).toInt ≠ 0 ∧ (yCe S u1 m 4 p0 p1).toInt ≠ 1) ∧ 0 ≤ p2.toInt ∧ p2.toInt ≤ 4) ∧ ((p2.toInt = 0 → r2 = yCe S u1 m 6 p0 p1) ∧ (p2.toInt = 1 → r2 = yCe S u1 m 7 p0 p1) ∧ (p2.toInt = 2 → r2 = yCe S u1 m 8 p0 p1) ∧ (p2.toInt = 3 → r2 = yCe S u1 m 9 p0 p1) ∧ (p2.toInt = 4 → r2 = yCe S u1 m 10 p0 p1)) ∧ zTr S u2 m (fun s => u1.2.2.2.1 (S.2.2.1 m s))))) : r = r2 ∧ zR4 S u2 q m := by
  obtain ⟨x1, hi⟩ := x1
  obtain ⟨-, x2⟩ := x2
  have em : u1.1 m = d.1 m := (hg1 m (by rw [hkm]; decide)).1
  have hn : d.1 (S.2.2.1 (S.2.2.1 q 0) 0) 6 = u1.1 m 0 := by rw [em]; exact h.1.1.1
  rw [hn] at x1
  have hT := h.2.1.now hSh hm hkm hg1 (by decide)
  have g : zR S u2 q m := h.1.gen hSh hq hkq hm hkm hg1 (by decide) hi hg2 (by decide) hf (by decide)
  have g3 : zI3 S u2 := h.2.2.kp (fun a ha => congrFun (hg1 a (by rw [ha]; decide)).1 3) hg2 (by decide)
  have hce := fun hr => hT.ce (c := p0) (p := p1) hr
  have hx : (0 ≤ p0.toInt ∧ p0.toInt ≤ 39 ∧ p0.toInt < (u1.1 m 0).toInt) ∧ 0 ≤ p1.toInt ∧ p1.toInt ≤ 59 → ∀ i, xat 2402 (d.2.2.2.1 (S.2.2.1 (S.2.2.1 (S.2.2.1 q 0) 0) i)) (p0 * 60 + p1) = yTd S d (S.2.2.1 (S.2.2.1 q 0) 0) i (60 * p0.toInt.toNat + p1.toInt.toNat) := fun hr i => xaK hr.1.1 hr.1.2.1 hr.2.1 hr.2.2
  have h0 : u2.1 m 0 = u1.1 m 0 := hf 0 (by decide)
  have hC : (((0 ≤ p0.toInt ∧ p0.toInt ≤ 39 ∧ p0.toInt < (u1.1 m 0).toInt) ∧ 0 ≤ p1.toInt ∧ p1.toInt ≤ 59) ∧ (xat 2402 (d.2.2.2.1 (S.2.2.1 (S.2.2.1 (S.2.2.1 q 0) 0) 0)) (p0 * 60 + p1)).toInt ≠ 6 ∧ (xat 2402 (d.2.2.2.1 (S.2.2.1 (S.2.2.1 (S.2.2.1 q 0) 0) 0)) (p0 * 60 + p1)).toInt ≠ 5) ↔ (((0 ≤ p0.toInt ∧ p0.toInt ≤ 39 ∧ p0.toInt < (u1.1 m 0).toInt) ∧ 0 ≤ p1.toInt ∧ p1.toInt ≤ 59) ∧ (yCe S u1 m 4 p0 p1).toInt ≠ 0 ∧ (yCe S u1 m 4 p0 p1).toInt ≠ 1) := by
    constructor
    · rintro ⟨hr, a, b⟩
      have k := (hce hr).kinds
      rw [hx hr 0] at a b
      exact ⟨hr, fun z => a (k.1.mpr z), fun z => b (k.2.1.mpr z)⟩
    · rintro ⟨hr, a, b⟩
      have k := (hce hr).kinds
      rw [hx hr 0]
      exact ⟨hr, fun z => a (k.1.mp z), fun z => b (k.2.1.mp z)⟩
  rcases x1 with ⟨a, b, c⟩ | ⟨⟨⟨hr, w6, w5⟩, y0, y4⟩, ⟨a0, a1, a2, a3, a4⟩, c⟩
  · rcases x2 with ⟨a2, -, c2⟩ | ⟨⟨w, y⟩, -, -⟩
    · exact ⟨Int32.toInt_inj.mp (a.trans a2.symm), g, h.2.1.same hSh hq hkq hm hkm hnk hg1 (by decide) hg2 (by decide) hi h0 c c2, g3⟩
    · exact absurd ⟨hC.mpr w, y⟩ b
  · obtain ⟨-, n0, n1⟩ := hC.mp ⟨hr, w6, w5⟩
    rcases x2 with ⟨-, b, -⟩ | ⟨-, ⟨b0, b1, b2, b3, b4⟩, c2⟩
    · exact absurd ⟨⟨hr, n0, n1⟩, y0, y4⟩ b
    · refine ⟨?_, g, h.2.1.same hSh hq hkq hm hkm hnk hg1 (by decide) hg2 (by decide) hi h0 c c2, g3⟩
      obtain ⟨k0, k1, k2, k3, k4, k5⟩ := (hce hr).kinds.2.2.1 n0 n1
      obtain z | z | z | z | z : p2.toInt = 0 ∨ p2.toInt = 1 ∨ p2.toInt = 2 ∨ p2.toInt = 3 ∨ p2.toInt = 4 := by omega
      · rw [a0 z, b0 z, hx hr 1]; exact k1
      · rw [a1 z, b1 z, hx hr 2]; exact k2
      · rw [a2 z, b2 z, hx hr 3]; exact k3
      · rw [a3 z, b3 z, hx hr 4]; exact k4
      · rw [a4 z, b4 z, hx hr 5]; exact k5
set_option maxHeartbeats 1000000 in
theorem zR4.together {p0 : Int32} {r r2 : Int32} (h : zR4 S d q m) (hMI : yMI S u1 m) (hPo : yPo S d) (hSh : ySh S) (hq : q ∈ S.1) (hkq : S.2.1 q = 8) (hm : m ∈ S.1) (hkm : S.2.1 m = 9) (hnk : S.2.2.1 q 0 ≠ S.2.2.1 q 1) (hg1 : yAg S [0, 8, 24] d u1) (hg2 : yAg S [9, 41, 69] u1 u2) (hf : yK [38] u1 u2 m) (x1 : ((r.toInt = 0 ∧ ¬ zTC p0 (fun j => 0 < (d.1 (yPA S (S.2.2.1 q 0) j) 2).toInt)) ∨ (r.toInt = 1 ∧ zTC p0 (fun j => 0 < (d.1 (yPA S (S.2.2.1 q 0) j) 2).toInt))) ∧ u1.1 q 4 = d.1 q 4) (x2 : yMI S u2 m ∧ ((r2.toInt = 0 ∧ ¬ zTC p0 (fun j => yOI S u1 m (j).toInt.toNat = 1)) ∨ (r2.toInt = 1 ∧ zTC p0 (fun j => yOI S u1 m (j).toInt.toNat = 1))) ∧ zPf S u1 u2 m (fun _ => False)) : r = r2 ∧ zR4 S u2 q m := by
  obtain ⟨x1, hi⟩ := x1
  obtain ⟨-, x2, gp⟩ := x2
  have k11 := (ySh.f9_11 hSh m hm hkm).2
  have e11 : u1.2.2.2.2 (S.2.2.1 m 11) = d.2.2.2.2 (S.2.2.1 m 11) := (hg1 _ (by rw [k11]; decide)).2.2.2.2
  have hP : zRP S d (S.2.2.1 q 0) (u1.2.2.2.2 (S.2.2.1 m 11)) := by rw [e11]; exact h.1.2.2.1
  have hC : zTC p0 (fun j => 0 < (d.1 (yPA S (S.2.2.1 q 0) j) 2).toInt) ↔ zTC p0 (fun j => yOI S u1 m j.toInt.toNat = 1) := by
    constructor
    · exact fun w => ⟨w.1, fun j a b c => ((hP.oi j).mp ⟨a, b, w.2 j a b c⟩).2.2⟩
    · exact fun w => ⟨w.1, fun j a b c => ((hP.oi j).mpr ⟨a, b, w.2 j a b c⟩).2.2⟩
  exact ⟨ans0 hC x1 x2, h.tog hSh hq hkq hm hkm hnk hg1 (by decide) (by decide) hi hg2 (by decide) (by decide) hf (by decide) gp⟩
end ZR4
