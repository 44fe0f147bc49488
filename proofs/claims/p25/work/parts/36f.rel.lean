section ZEV5
variable {S : yS} {d u1 u2 : yD} {q m : Nat} {M M' F : List Nat}
set_option maxHeartbeats 1000000 in
theorem zEV.op_event {p0 : Int32} {p1 : Int32} {p2 : Int32} {r r2 : Int32} (h4 : zR4 S d q m) (h : zEV S d q m) (hPo : yPo S d) (hSh : ySh S) (hq : q ∈ S.1) (hkq : S.2.1 q = 8) (hm : m ∈ S.1) (hkm : S.2.1 m = 9) (hMI : yMI S d m) (hMI1 : yMI S u1 m) (hnk : S.2.2.1 q 0 ≠ S.2.2.1 q 1) (hg1 : yAg S [2, 8, 16, 24] d u1) (hg2 : yAg S [9, 45, 46, 47, 69] u1 u2) (hf : yK [1, 38] u1 u2 m) (himg : u1.1 q 4 = d.1 q 4) (x1 : ((0 ≤ p0.toInt ∧ p0.toInt ≤ 7 ∧ 0 < (d.1 (yPA S (S.2.2.1 q 0) p0) 2).toInt ∧ 0 ≤ p1.toInt ∧ p1.toInt ≤ 129599 ∧ p1.toInt < (d.1 (yPA S (S.2.2.1 q 0) p0) 2 * 1440).toInt ∧ 0 ≤ p2.toInt ∧ p2.toInt ≤ 7 ∧ zKI S d (yPA S (S.2.2.1 q 0) p0) p1 = 1 ∧ (d.1 (S.2.2.1 (S.2.2.1 q 0) 1) 2).toInt < 5000) → r.toInt = 1 ∧ zEo S d u1 (S.2.2.1 (S.2.2.1 q 0) 1) ∧ zAdd S d u1 (S.2.2.1 (S.2.2.1 q 0) 1) p0 p1 p2) ∧ (¬ (0 ≤ p0.toInt ∧ p0.toInt ≤ 7 ∧ 0 < (d.1 (yPA S (S.2.2.1 q 0) p0) 2).toInt ∧ 0 ≤ p1.toInt ∧ p1.toInt ≤ 129599 ∧ p1.toInt < (d.1 (yPA S (S.2.2.1 q 0) p0) 2 * 1440).toInt ∧ 0 ≤ p2.toInt ∧ p2.toInt ≤ 7 ∧ zKI S d (yPA S (S.2.2.1 q 0) p0) p1 = 1 ∧ (d.1 (S.2.2.1 (S.2.2.1 q 0) 1) 2).toInt < 5000) → r.toInt = 0 ∧ zNe S d u1)) (x2 : ((0 ≤ p0.toInt ∧ p0.toInt ≤ 7 ∧ yOI S u1 m p0.toInt.toNat = 1 ∧ 0 ≤ p1.toInt ∧ p1.toInt < 1440 * yOf S u1 m p0.toInt.toNat 2 ∧ 0 ≤ p2.toInt ∧ p2.toInt ≤ 7 ∧ yKI S u1 m p0 p1 = 1 ∧ (u1.1 m 1).toInt ≠ 5000) → r2.toInt = 1 ∧ zInV S u1 u2 m p0 p1 p2) ∧ (¬ (0 ≤ p0.toInt ∧ p0.toInt ≤ 7 ∧ yOI S u1 m p0.toInt.toNat = 1 ∧ 0 ≤ p1.toInt ∧ p1.toInt < 1440 * yOf S u1 m p0.toInt.toNat 2 ∧ 0 ≤ p2.toInt ∧ p2.toInt ≤ 7 ∧ yKI S u1 m p0 p1 = 1 ∧ (u1.1 m 1).toInt ≠ 5000) → r2.toInt = 0 ∧ zMe S u1 u2 m)) : r = r2 ∧ zEV S u2 q m := by
  obtain ⟨hA, hB⟩ := h4.1
  obtain ⟨E, ⟨hE, hEm⟩, hK⟩ := h.now hSh hm hkm hg1 (by decide)
  obtain ⟨⟨⟨b0, kb0⟩, b1, kb1⟩, ⟨v0, kv0⟩, v1, kv1⟩ := zbk0 hSh hq hkq
  obtain ⟨⟨k2, k3⟩, ⟨k5, k6, k7⟩, -⟩ := zkk hSh hm hkm
  have k11 := (ySh.f9_11 hSh m hm hkm).2
  have e11 : u1.2.2.2.2 (S.2.2.1 m 11) = d.2.2.2.2 (S.2.2.1 m 11) := (hg1 _ (by rw [k11]; decide)).2.2.2.2
  have em : u1.1 m = d.1 m := (hg1 m (by rw [hkm]; decide)).1
  have hP : zRP S d (S.2.2.1 q 0) (u1.2.2.2.2 (S.2.2.1 m 11)) := by rw [e11]; exact hB.2.1
  obtain ⟨hl1, hl2⟩ := zEc.len hE hEm
  have k1440 : (1440 : Int32).toInt = 1440 := by decide +kernel
  have k0_ : (0 : Int32).toInt = 0 := by decide +kernel
  have kT_ : (129600 : Int32).toInt = 129600 := by decide +kernel
  have hC :  (0 ≤ p0.toInt ∧ p0.toInt ≤ 7 ∧ 0 < (d.1 (yPA S (S.2.2.1 q 0) p0) 2).toInt ∧ 0 ≤ p1.toInt ∧ p1.toInt ≤ 129599 ∧ p1.toInt < (d.1 (yPA S (S.2.2.1 q 0) p0) 2 * 1440).toInt ∧ 0 ≤ p2.toInt ∧ p2.toInt ≤ 7 ∧ zKI S d (yPA S (S.2.2.1 q 0) p0) p1 = 1 ∧ (d.1 (S.2.2.1 (S.2.2.1 q 0) 1) 2).toInt < 5000) ↔ (0 ≤ p0.toInt ∧ p0.toInt ≤ 7 ∧ yOI S u1 m p0.toInt.toNat = 1 ∧ 0 ≤ p1.toInt ∧ p1.toInt < 1440 * yOf S u1 m p0.toInt.toNat 2 ∧ 0 ≤ p2.toInt ∧ p2.toInt ≤ 7 ∧ yKI S u1 m p0 p1 = 1 ∧ (u1.1 m 1).toInt ≠ 5000)  := by
    have o := hP.oi p0
    constructor
    · rintro ⟨a, b, c, m0, m1, m2, kk0, kk7, kn, mn⟩
      have g := hP.of a b c
      have h90 : (d.1 (yPA S (S.2.2.1 q 0) p0) 2).toInt ≤ 90 := by
        rcases hP p0 a b with ⟨x, -⟩ | ⟨-, x, -⟩
        · exact absurd c x
        · exact x
      have t : ((d.1 (yPA S (S.2.2.1 q 0) p0) 2) * 1440).toInt = (d.1 (yPA S (S.2.2.1 q 0) p0) 2).toInt * 1440 := tmul rfl rfl k1440 (by omega) (by omega)
      exact ⟨a, b, (o.mp ⟨a, b, c⟩).2.2, m0, by omega, kk0, kk7, (hK.I a b m0 m1).symm.trans kn, by omega⟩
    · rintro ⟨a, b, c, m0, m2, kk0, kk7, kn, mn⟩
      have c2 := (o.mpr ⟨a, b, c⟩).2.2
      have g := hP.of a b c2
      have h90 : (d.1 (yPA S (S.2.2.1 q 0) p0) 2).toInt ≤ 90 := by
        rcases hP p0 a b with ⟨x, -⟩ | ⟨-, x, -⟩
        · exact absurd c2 x
        · exact x
      have t : ((d.1 (yPA S (S.2.2.1 q 0) p0) 2) * 1440).toInt = (d.1 (yPA S (S.2.2.1 q 0) p0) 2).toInt * 1440 := tmul rfl rfl k1440 (by omega) (by omega)
      exact ⟨a, b, c2, m0, by omega, by omega, kk0, kk7, (hK.I a b m0 (by omega)).trans kn, by omega⟩
  by_cases c : (0 ≤ p0.toInt ∧ p0.toInt ≤ 7 ∧ 0 < (d.1 (yPA S (S.2.2.1 q 0) p0) 2).toInt ∧ 0 ≤ p1.toInt ∧ p1.toInt ≤ 129599 ∧ p1.toInt < (d.1 (yPA S (S.2.2.1 q 0) p0) 2 * 1440).toInt ∧ 0 ≤ p2.toInt ∧ p2.toInt ≤ 7 ∧ zKI S d (yPA S (S.2.2.1 q 0) p0) p1 = 1 ∧ (d.1 (S.2.2.1 (S.2.2.1 q 0) 1) 2).toInt < 5000)
  · obtain ⟨r1, n1, n2⟩ := x1.1 c
    obtain ⟨s1, s2⟩ := x2.1 (hC.mp c)
    obtain ⟨a, b, c, m0, m1, m2, kk0, kk7, kn, mn⟩ := c
    have hl3 := hE.2.1.1
    exact ⟨Int32.toInt_inj.mp (r1.trans s1.symm), h.step hSh hq hkq hm hkm hg1 (by decide) hg2 (by decide) himg (zBk.o hSh b0 kb0 b1 kb1 (Ne.symm hnk) n1 (zKag hSh b1 kb1 hg1 (by decide))) (n2 E hE a b m0 m1 kk0 kk7 (by omega)) (s2 E hEm a b m0 m1 kk0 kk7 (by omega)) (hK.cg (zKag hSh b0 kb0 hg1 (by decide)) (fun i _ => congrFun (hg2 _ (by rw [k2]; decide)).2.2.2.1 i) (fun i _ => congrFun (hg2 _ (by rw [k3]; decide)).2.2.2.1 i))⟩
  · obtain ⟨r1, n1⟩ := x1.2 c
    obtain ⟨s1, n2⟩ := x2.2 (fun w => c (hC.mpr w))
    exact ⟨Int32.toInt_inj.mp (r1.trans s1.symm), h.ne hSh hq hkq hm hkm hg1 (by decide) hg2 (by decide) himg n1 n2⟩
set_option maxHeartbeats 1000000 in
theorem zEV.op_close {p0 : Int32} {r r2 : Int32} (h4 : zR4 S d q m) (h : zEV S d q m) (hPo : yPo S d) (hSh : ySh S) (hq : q ∈ S.1) (hkq : S.2.1 q = 8) (hm : m ∈ S.1) (hkm : S.2.1 m = 9) (hMI : yMI S d m) (hMI1 : yMI S u1 m) (hnk : S.2.2.1 q 0 ≠ S.2.2.1 q 1) (hg1 : yAg S [0, 2, 4, 8, 16, 24] d u1) (hg2 : yAg S [9, 41, 45, 46, 47, 69] u1 u2) (hf : yK [1, 38] u1 u2 m) (himg : u1.1 q 4 = d.1 q 4) (x1 : ((0 ≤ p0.toInt ∧ p0.toInt ≤ 7 ∧ 0 < (d.1 (yPA S (S.2.2.1 q 0) p0) 2).toInt) → r.toInt = 1 ∧ (∃ r, zRem S d u1 (S.2.2.1 (S.2.2.1 q 0) 1) p0 0 129600 r) ∧ zEo S d u1 (S.2.2.1 (S.2.2.1 q 0) 1)) ∧ (¬ (0 ≤ p0.toInt ∧ p0.toInt ≤ 7 ∧ 0 < (d.1 (yPA S (S.2.2.1 q 0) p0) 2).toInt) → r.toInt = 0 ∧ zNe S d u1)) (x2 : ((0 ≤ p0.toInt ∧ p0.toInt ≤ 7 ∧ yOI S u1 m p0.toInt.toNat = 1) → r2.toInt = 1 ∧ (∃ rr, zClV S u1 u2 m p0 0 129600 rr)) ∧ (¬ (0 ≤ p0.toInt ∧ p0.toInt ≤ 7 ∧ yOI S u1 m p0.toInt.toNat = 1) → r2.toInt = 0 ∧ zMe S u1 u2 m)) : r = r2 ∧ zEV S u2 q m := by
  obtain ⟨hA, hB⟩ := h4.1
  obtain ⟨E, ⟨hE, hEm⟩, hK⟩ := h.now hSh hm hkm hg1 (by decide)
  obtain ⟨⟨⟨b0, kb0⟩, b1, kb1⟩, ⟨v0, kv0⟩, v1, kv1⟩ := zbk0 hSh hq hkq
  obtain ⟨⟨k2, k3⟩, ⟨k5, k6, k7⟩, -⟩ := zkk hSh hm hkm
  have k11 := (ySh.f9_11 hSh m hm hkm).2
  have e11 : u1.2.2.2.2 (S.2.2.1 m 11) = d.2.2.2.2 (S.2.2.1 m 11) := (hg1 _ (by rw [k11]; decide)).2.2.2.2
  have em : u1.1 m = d.1 m := (hg1 m (by rw [hkm]; decide)).1
  have hP : zRP S d (S.2.2.1 q 0) (u1.2.2.2.2 (S.2.2.1 m 11)) := by rw [e11]; exact hB.2.1
  obtain ⟨hl1, hl2⟩ := zEc.len hE hEm
  have k1440 : (1440 : Int32).toInt = 1440 := by decide +kernel
  have k0_ : (0 : Int32).toInt = 0 := by decide +kernel
  have kT_ : (129600 : Int32).toInt = 129600 := by decide +kernel
  have hC :  (0 ≤ p0.toInt ∧ p0.toInt ≤ 7 ∧ 0 < (d.1 (yPA S (S.2.2.1 q 0) p0) 2).toInt) ↔ (0 ≤ p0.toInt ∧ p0.toInt ≤ 7 ∧ yOI S u1 m p0.toInt.toNat = 1)  := hP.oi p0
  by_cases c : (0 ≤ p0.toInt ∧ p0.toInt ≤ 7 ∧ 0 < (d.1 (yPA S (S.2.2.1 q 0) p0) 2).toInt)
  · obtain ⟨r1, ⟨rr, m1⟩, n1⟩ := x1.1 c
    obtain ⟨s1, ⟨ss, m2⟩⟩ := x2.1 (hC.mp c)
    obtain ⟨a, b, c⟩ := c
    have x0 : zClr E (zx p0 0) ((129600 : Int32).toInt - (0 : Int32).toInt).toNat = zClr E (zx p0 0) (129600 : Int32).toInt.toNat := by rw [kT_, k0_]; rfl
    have g1 := (m1 E hE a b (by omega) (by omega) (by omega)).1
    have g2 := (m2 E hEm a b (by omega) (by omega) (by omega)).1
    rw [x0] at g2
    exact ⟨Int32.toInt_inj.mp (r1.trans s1.symm), h.step hSh hq hkq hm hkm hg1 (by decide) hg2 (by decide) himg (zBk.o hSh b0 kb0 b1 kb1 (Ne.symm hnk) n1 (zKag hSh b1 kb1 hg1 (by decide))) g1 g2 (hK.cg (zKag hSh b0 kb0 hg1 (by decide)) (fun i _ => congrFun (hg2 _ (by rw [k2]; decide)).2.2.2.1 i) (fun i _ => congrFun (hg2 _ (by rw [k3]; decide)).2.2.2.1 i))⟩
  · obtain ⟨r1, n1⟩ := x1.2 c
    obtain ⟨s1, n2⟩ := x2.2 (fun w => c (hC.mpr w))
    exact ⟨Int32.toInt_inj.mp (r1.trans s1.symm), h.ne hSh hq hkq hm hkm hg1 (by decide) hg2 (by decide) himg n1 n2⟩
set_option maxHeartbeats 1000000 in
theorem zEV.op_port {p0 : Int32} {p1 : Int32} {p2 : Int32} {r r2 : Int32} (h4 : zR4 S d q m) (h : zEV S d q m) (hPo : yPo S d) (hSh : ySh S) (hq : q ∈ S.1) (hkq : S.2.1 q = 8) (hm : m ∈ S.1) (hkm : S.2.1 m = 9) (hMI : yMI S d m) (hMI1 : yMI S u1 m) (hnk : S.2.2.1 q 0 ≠ S.2.2.1 q 1) (hg1 : yAg S [0, 2, 4, 8, 16, 20, 21, 24] d u1) (hg2 : yAg S [9, 41, 42, 43, 44, 45, 46, 47, 69] u1 u2) (hf : yK [1, 38] u1 u2 m) (himg : u1.1 q 4 = d.1 q 4) (x1 : ((0 ≤ p0.toInt ∧ p0.toInt ≤ 7 ∧ 0 ≤ p1.toInt ∧ p1.toInt ≤ 39 ∧ p1.toInt < (d.1 (S.2.2.1 (S.2.2.1 q 0) 0) 6).toInt ∧ 1 ≤ p2.toInt ∧ p2.toInt ≤ 90) → r.toInt = 1 ∧ (∃ r, zRem S d u1 (S.2.2.1 (S.2.2.1 q 0) 1) p0 0 129600 r) ∧ zEo S d u1 (S.2.2.1 (S.2.2.1 q 0) 1) ∧ (∀ j, j < 90 → u1.2.2.2.1 (S.2.2.1 (yPA S (S.2.2.1 q 0) p0) 0) j = 1440) ∧ zKo S d u1 (yPA S (S.2.2.1 q 0) p0)) ∧ (¬ (0 ≤ p0.toInt ∧ p0.toInt ≤ 7 ∧ 0 ≤ p1.toInt ∧ p1.toInt ≤ 39 ∧ p1.toInt < (d.1 (S.2.2.1 (S.2.2.1 q 0) 0) 6).toInt ∧ 1 ≤ p2.toInt ∧ p2.toInt ≤ 90) → r.toInt = 0 ∧ zNe S d u1)) (x2 : ((0 ≤ p0.toInt ∧ p0.toInt ≤ 7 ∧ 1 ≤ p2.toInt ∧ p2.toInt ≤ 90 ∧ 0 ≤ p1.toInt ∧ p1.toInt ≤ 39 ∧ p1.toInt < (u1.1 m 0).toInt) → r2.toInt = 1 ∧ (∃ rr, zClV S u1 u2 m p0 0 129600 rr) ∧ zDayR S u1 u2 m p0.toInt.toNat) ∧ (¬ (0 ≤ p0.toInt ∧ p0.toInt ≤ 7 ∧ 1 ≤ p2.toInt ∧ p2.toInt ≤ 90 ∧ 0 ≤ p1.toInt ∧ p1.toInt ≤ 39 ∧ p1.toInt < (u1.1 m 0).toInt) → r2.toInt = 0 ∧ zMe S u1 u2 m)) : r = r2 ∧ zEV S u2 q m := by
  obtain ⟨hA, hB⟩ := h4.1
  obtain ⟨E, ⟨hE, hEm⟩, hK⟩ := h.now hSh hm hkm hg1 (by decide)
  obtain ⟨⟨⟨b0, kb0⟩, b1, kb1⟩, ⟨v0, kv0⟩, v1, kv1⟩ := zbk0 hSh hq hkq
  obtain ⟨⟨k2, k3⟩, ⟨k5, k6, k7⟩, -⟩ := zkk hSh hm hkm
  have k11 := (ySh.f9_11 hSh m hm hkm).2
  have e11 : u1.2.2.2.2 (S.2.2.1 m 11) = d.2.2.2.2 (S.2.2.1 m 11) := (hg1 _ (by rw [k11]; decide)).2.2.2.2
  have em : u1.1 m = d.1 m := (hg1 m (by rw [hkm]; decide)).1
  have hP : zRP S d (S.2.2.1 q 0) (u1.2.2.2.2 (S.2.2.1 m 11)) := by rw [e11]; exact hB.2.1
  obtain ⟨hl1, hl2⟩ := zEc.len hE hEm
  have k1440 : (1440 : Int32).toInt = 1440 := by decide +kernel
  have k0_ : (0 : Int32).toInt = 0 := by decide +kernel
  have kT_ : (129600 : Int32).toInt = 129600 := by decide +kernel
  have hn : d.1 (S.2.2.1 (S.2.2.1 q 0) 0) 6 = u1.1 m 0 := by rw [em]; exact hA.1
  have hC :  (0 ≤ p0.toInt ∧ p0.toInt ≤ 7 ∧ 0 ≤ p1.toInt ∧ p1.toInt ≤ 39 ∧ p1.toInt < (d.1 (S.2.2.1 (S.2.2.1 q 0) 0) 6).toInt ∧ 1 ≤ p2.toInt ∧ p2.toInt ≤ 90) ↔ (0 ≤ p0.toInt ∧ p0.toInt ≤ 7 ∧ 1 ≤ p2.toInt ∧ p2.toInt ≤ 90 ∧ 0 ≤ p1.toInt ∧ p1.toInt ≤ 39 ∧ p1.toInt < (u1.1 m 0).toInt)  := by rw [hn]; constructor <;> (intro w; omega)
  by_cases c : (0 ≤ p0.toInt ∧ p0.toInt ≤ 7 ∧ 0 ≤ p1.toInt ∧ p1.toInt ≤ 39 ∧ p1.toInt < (d.1 (S.2.2.1 (S.2.2.1 q 0) 0) 6).toInt ∧ 1 ≤ p2.toInt ∧ p2.toInt ≤ 90)
  · obtain ⟨r1, ⟨rr, m1⟩, n1, n3, n2⟩ := x1.1 c
    obtain ⟨s1, ⟨ss, m2⟩, s3⟩ := x2.1 (hC.mp c)
    obtain ⟨a, b, c⟩ := c
    have x0 : zClr E (zx p0 0) ((129600 : Int32).toInt - (0 : Int32).toInt).toNat = zClr E (zx p0 0) (129600 : Int32).toInt.toNat := by rw [kT_, k0_]; rfl
    have g1 := (m1 E hE a b (by omega) (by omega) (by omega)).1
    have g2 := (m2 E hEm a b (by omega) (by omega) (by omega)).1
    rw [x0] at g2
    exact ⟨Int32.toInt_inj.mp (r1.trans s1.symm), h.step hSh hq hkq hm hkm hg1 (by decide) hg2 (by decide) himg (zBk.o hSh b0 kb0 b1 kb1 (Ne.symm hnk) n1 (n2.o hSh b0 kb0 b1 kb1 (Ne.symm hnk) a b)) g1 g2 (hK.anew hSh b0 kb0 a b n3 n2 s3)⟩
  · obtain ⟨r1, n1⟩ := x1.2 c
    obtain ⟨s1, n2⟩ := x2.2 (fun w => c (hC.mpr w))
    exact ⟨Int32.toInt_inj.mp (r1.trans s1.symm), h.ne hSh hq hkq hm hkm hg1 (by decide) hg2 (by decide) himg n1 n2⟩
set_option maxHeartbeats 1000000 in
theorem zEV.op_day {p0 : Int32} {p1 : Int32} {p2 : Int32} {r r2 : Int32} (h4 : zR4 S d q m) (h : zEV S d q m) (hPo : yPo S d) (hSh : ySh S) (hq : q ∈ S.1) (hkq : S.2.1 q = 8) (hm : m ∈ S.1) (hkm : S.2.1 m = 9) (hMI : yMI S d m) (hMI1 : yMI S u1 m) (hnk : S.2.2.1 q 0 ≠ S.2.2.1 q 1) (hg1 : yAg S [2, 8, 16, 20, 24] d u1) (hg2 : yAg S [9, 42, 43, 45, 46, 47, 69] u1 u2) (hf : yK [1, 38] u1 u2 m) (himg : u1.1 q 4 = d.1 q 4) (x1 : ((0 ≤ p0.toInt ∧ p0.toInt ≤ 7 ∧ 0 < (d.1 (yPA S (S.2.2.1 q 0) p0) 2).toInt ∧ 0 ≤ p1.toInt ∧ p1.toInt ≤ 89 ∧ p1.toInt < (d.1 (yPA S (S.2.2.1 q 0) p0) 2).toInt) → r.toInt = 1 ∧ u1.2.2.2.1 (S.2.2.1 (yPA S (S.2.2.1 q 0) p0) 0) = xput 90 (d.2.2.2.1 (S.2.2.1 (yPA S (S.2.2.1 q 0) p0) 0)) p1 (if p2 = 0 then -1 else 1440) ∧ zKo S d u1 (yPA S (S.2.2.1 q 0) p0) ∧ (∃ r, zRem S d u1 (S.2.2.1 (S.2.2.1 q 0) 1) p0 (p1 * 1440) 1440 r) ∧ zEo S d u1 (S.2.2.1 (S.2.2.1 q 0) 1)) ∧ (¬ (0 ≤ p0.toInt ∧ p0.toInt ≤ 7 ∧ 0 < (d.1 (yPA S (S.2.2.1 q 0) p0) 2).toInt ∧ 0 ≤ p1.toInt ∧ p1.toInt ≤ 89 ∧ p1.toInt < (d.1 (yPA S (S.2.2.1 q 0) p0) 2).toInt) → r.toInt = 0 ∧ zNe S d u1)) (x2 : ((0 ≤ p0.toInt ∧ p0.toInt ≤ 7 ∧ yOI S u1 m p0.toInt.toNat = 1 ∧ 0 ≤ p1.toInt ∧ p1.toInt < yOf S u1 m p0.toInt.toNat 2) → r2.toInt = 1 ∧ (∃ a b rr, a = 1440 * p1 ∧ b = 1440 * p1 + 1440 ∧ zClV S u1 u2 m p0 a b rr) ∧ u2.2.2.2.1 (S.2.2.1 m 12) = upd (u1.2.2.2.1 (S.2.2.1 m 12)) (zDi p0 p1) 1440 ∧ u2.2.2.2.1 (S.2.2.1 m 13) = upd (u1.2.2.2.1 (S.2.2.1 m 13)) (zDi p0 p1) (if p2 = 0 then 1 else 0)) ∧ (¬ (0 ≤ p0.toInt ∧ p0.toInt ≤ 7 ∧ yOI S u1 m p0.toInt.toNat = 1 ∧ 0 ≤ p1.toInt ∧ p1.toInt < yOf S u1 m p0.toInt.toNat 2) → r2.toInt = 0 ∧ zMe S u1 u2 m)) : r = r2 ∧ zEV S u2 q m := by
  obtain ⟨hA, hB⟩ := h4.1
  obtain ⟨E, ⟨hE, hEm⟩, hK⟩ := h.now hSh hm hkm hg1 (by decide)
  obtain ⟨⟨⟨b0, kb0⟩, b1, kb1⟩, ⟨v0, kv0⟩, v1, kv1⟩ := zbk0 hSh hq hkq
  obtain ⟨⟨k2, k3⟩, ⟨k5, k6, k7⟩, -⟩ := zkk hSh hm hkm
  have k11 := (ySh.f9_11 hSh m hm hkm).2
  have e11 : u1.2.2.2.2 (S.2.2.1 m 11) = d.2.2.2.2 (S.2.2.1 m 11) := (hg1 _ (by rw [k11]; decide)).2.2.2.2
  have em : u1.1 m = d.1 m := (hg1 m (by rw [hkm]; decide)).1
  have hP : zRP S d (S.2.2.1 q 0) (u1.2.2.2.2 (S.2.2.1 m 11)) := by rw [e11]; exact hB.2.1
  obtain ⟨hl1, hl2⟩ := zEc.len hE hEm
  have k1440 : (1440 : Int32).toInt = 1440 := by decide +kernel
  have k0_ : (0 : Int32).toInt = 0 := by decide +kernel
  have kT_ : (129600 : Int32).toInt = 129600 := by decide +kernel
  have hC :  (0 ≤ p0.toInt ∧ p0.toInt ≤ 7 ∧ 0 < (d.1 (yPA S (S.2.2.1 q 0) p0) 2).toInt ∧ 0 ≤ p1.toInt ∧ p1.toInt ≤ 89 ∧ p1.toInt < (d.1 (yPA S (S.2.2.1 q 0) p0) 2).toInt) ↔ (0 ≤ p0.toInt ∧ p0.toInt ≤ 7 ∧ yOI S u1 m p0.toInt.toNat = 1 ∧ 0 ≤ p1.toInt ∧ p1.toInt < yOf S u1 m p0.toInt.toNat 2)  := by
    have o := hP.oi p0
    constructor
    · rintro ⟨a, b, c, w⟩
      have g := hP.of a b c
      exact ⟨a, b, (o.mp ⟨a, b, c⟩).2.2, by omega⟩
    · rintro ⟨a, b, c, w⟩
      have c2 := (o.mpr ⟨a, b, c⟩).2.2
      have g := hP.of a b c2
      have h90 : (d.1 (yPA S (S.2.2.1 q 0) p0) 2).toInt ≤ 90 := by
        rcases hP p0 a b with ⟨x, -⟩ | ⟨-, x, -⟩
        · exact absurd c2 x
        · exact x
      exact ⟨a, b, c2, by omega⟩
  by_cases c : (0 ≤ p0.toInt ∧ p0.toInt ≤ 7 ∧ 0 < (d.1 (yPA S (S.2.2.1 q 0) p0) 2).toInt ∧ 0 ≤ p1.toInt ∧ p1.toInt ≤ 89 ∧ p1.toInt < (d.1 (yPA S (S.2.2.1 q 0) p0) 2).toInt)
  · obtain ⟨r1, n3, n2, ⟨rr, m1⟩, n1⟩ := x1.1 c
    obtain ⟨s1, ⟨f, g, ss, ef, eg, m2⟩, s3, s4⟩ := x2.1 (hC.mp c)
    obtain ⟨a, b, c, d0, d89, dl⟩ := c
    have f' : f.toInt = 1440 * p1.toInt := tmul ef k1440 rfl (by omega) (by omega)
    have w' : (1440 * p1).toInt = 1440 * p1.toInt := tmul rfl k1440 rfl (by omega) (by omega)
    have g' : g.toInt = (1440 * p1).toInt + 1440 := tadd eg rfl k1440 (by omega) (by omega)
    have v' : (p1 * 1440).toInt = p1.toInt * 1440 := tmul rfl rfl k1440 (by omega) (by omega)
    have g1 := (m1 E hE a b (by omega) (by omega) (by omega)).1
    have g2 := (m2 E hEm a b (by omega) (by omega) (by omega)).1
    rw [show zx p0 f = zx p0 (p1 * 1440) from (show 129600 * p0.toInt.toNat + f.toInt.toNat = 129600 * p0.toInt.toNat + (p1 * 1440).toInt.toNat by omega), show (g.toInt - f.toInt).toNat = (1440 : Int32).toInt.toNat by omega] at g2
    refine ⟨Int32.toInt_inj.mp (r1.trans s1.symm), h.step hSh hq hkq hm hkm hg1 (by decide) hg2 (by decide) himg (zBk.o hSh b0 kb0 b1 kb1 (Ne.symm hnk) n1 (n2.o hSh b0 kb0 b1 kb1 (Ne.symm hnk) a b)) g1 g2 (hK.up hSh b0 kb0 a b d0 d89 n3 n2 s3 s4 ?_)⟩
    refine ⟨by decide +kernel, ?_⟩
    by_cases z : p2 = 0
    · rw [if_pos z, if_pos z]; exact Or.inr ⟨rfl, rfl⟩
    · rw [if_neg z, if_neg z]; exact Or.inl ⟨rfl, rfl⟩
  · obtain ⟨r1, n1⟩ := x1.2 c
    obtain ⟨s1, n2⟩ := x2.2 (fun w => c (hC.mpr w))
    exact ⟨Int32.toInt_inj.mp (r1.trans s1.symm), h.ne hSh hq hkq hm hkm hg1 (by decide) hg2 (by decide) himg n1 n2⟩
set_option maxHeartbeats 1000000 in
theorem zEV.op_tear {p0 : Int32} {p1 : Int32} {p2 : Int32} {r r2 : Int32} (h4 : zR4 S d q m) (h : zEV S d q m) (hPo : yPo S d) (hSh : ySh S) (hq : q ∈ S.1) (hkq : S.2.1 q = 8) (hm : m ∈ S.1) (hkm : S.2.1 m = 9) (hMI : yMI S d m) (hMI1 : yMI S u1 m) (hnk : S.2.2.1 q 0 ≠ S.2.2.1 q 1) (hg1 : yAg S [2, 8, 16, 20, 24] d u1) (hg2 : yAg S [9, 42, 45, 46, 47, 69] u1 u2) (hf : yK [1, 38] u1 u2 m) (himg : u1.1 q 4 = d.1 q 4) (x1 : ((0 ≤ p0.toInt ∧ p0.toInt ≤ 7 ∧ 0 < (d.1 (yPA S (S.2.2.1 q 0) p0) 2).toInt ∧ 0 ≤ p1.toInt ∧ p1.toInt ≤ 89 ∧ p1.toInt < (d.1 (yPA S (S.2.2.1 q 0) p0) 2).toInt ∧ (xat 90 (d.2.2.2.1 (S.2.2.1 (yPA S (S.2.2.1 q 0) p0) 0)) p1).toInt ≠ -1 ∧ 0 ≤ p2.toInt ∧ p2.toInt ≤ 1439) → (u1.2.2.2.1 (S.2.2.1 (yPA S (S.2.2.1 q 0) p0) 0) = xput 90 (d.2.2.2.1 (S.2.2.1 (yPA S (S.2.2.1 q 0) p0) 0)) p1 (if xat 90 (d.2.2.2.1 (S.2.2.1 (yPA S (S.2.2.1 q 0) p0) 0)) p1 < p2 then xat 90 (d.2.2.2.1 (S.2.2.1 (yPA S (S.2.2.1 q 0) p0) 0)) p1 else p2) ∧ zKo S d u1 (yPA S (S.2.2.1 q 0) p0) ∧ zRem S d u1 (S.2.2.1 (S.2.2.1 q 0) 1) p0 (p1 * 1440 + (if xat 90 (d.2.2.2.1 (S.2.2.1 (yPA S (S.2.2.1 q 0) p0) 0)) p1 < p2 then xat 90 (d.2.2.2.1 (S.2.2.1 (yPA S (S.2.2.1 q 0) p0) 0)) p1 else p2)) (1440 - (if xat 90 (d.2.2.2.1 (S.2.2.1 (yPA S (S.2.2.1 q 0) p0) 0)) p1 < p2 then xat 90 (d.2.2.2.1 (S.2.2.1 (yPA S (S.2.2.1 q 0) p0) 0)) p1 else p2)) r ∧ zEo S d u1 (S.2.2.1 (S.2.2.1 q 0) 1))) ∧ (¬ (0 ≤ p0.toInt ∧ p0.toInt ≤ 7 ∧ 0 < (d.1 (yPA S (S.2.2.1 q 0) p0) 2).toInt ∧ 0 ≤ p1.toInt ∧ p1.toInt ≤ 89 ∧ p1.toInt < (d.1 (yPA S (S.2.2.1 q 0) p0) 2).toInt ∧ (xat 90 (d.2.2.2.1 (S.2.2.1 (yPA S (S.2.2.1 q 0) p0) 0)) p1).toInt ≠ -1 ∧ 0 ≤ p2.toInt ∧ p2.toInt ≤ 1439) → r.toInt = -1 ∧ zNe S d u1)) (x2 : ((0 ≤ p0.toInt ∧ p0.toInt ≤ 7 ∧ yOI S u1 m p0.toInt.toNat = 1 ∧ 0 ≤ p1.toInt ∧ p1.toInt < yOf S u1 m p0.toInt.toNat 2 ∧ (u1.2.2.2.1 (S.2.2.1 m 13) (zDi p0 p1)).toInt = 0 ∧ 0 ≤ p2.toInt ∧ p2.toInt ≤ 1439) → ((∃ a b, a = 1440 * p1 + (if p2 < u1.2.2.2.1 (S.2.2.1 m 12) (zDi p0 p1) then p2 else u1.2.2.2.1 (S.2.2.1 m 12) (zDi p0 p1)) ∧ b = 1440 * p1 + 1440 ∧ zClV S u1 u2 m p0 a b r2) ∧ u2.2.2.2.1 (S.2.2.1 m 12) = upd (u1.2.2.2.1 (S.2.2.1 m 12)) (zDi p0 p1) (if p2 < u1.2.2.2.1 (S.2.2.1 m 12) (zDi p0 p1) then p2 else u1.2.2.2.1 (S.2.2.1 m 12) (zDi p0 p1)) ∧ u2.2.2.2.1 (S.2.2.1 m 13) = u1.2.2.2.1 (S.2.2.1 m 13))) ∧ (¬ (0 ≤ p0.toInt ∧ p0.toInt ≤ 7 ∧ yOI S u1 m p0.toInt.toNat = 1 ∧ 0 ≤ p1.toInt ∧ p1.toInt < yOf S u1 m p0.toInt.toNat 2 ∧ (u1.2.2.2.1 (S.2.2.1 m 13) (zDi p0 p1)).toInt = 0 ∧ 0 ≤ p2.toInt ∧ p2.toInt ≤ 1439) → r2.toInt = -1 ∧ zMe S u1 u2 m)) : r = r2 ∧ zEV S u2 q m := by
  obtain ⟨hA, hB⟩ := h4.1
  obtain ⟨E, ⟨hE, hEm⟩, hK⟩ := h.now hSh hm hkm hg1 (by decide)
  obtain ⟨⟨⟨b0, kb0⟩, b1, kb1⟩, ⟨v0, kv0⟩, v1, kv1⟩ := zbk0 hSh hq hkq
  obtain ⟨⟨k2, k3⟩, ⟨k5, k6, k7⟩, -⟩ := zkk hSh hm hkm
  have k11 := (ySh.f9_11 hSh m hm hkm).2
  have e11 : u1.2.2.2.2 (S.2.2.1 m 11) = d.2.2.2.2 (S.2.2.1 m 11) := (hg1 _ (by rw [k11]; decide)).2.2.2.2
  have em : u1.1 m = d.1 m := (hg1 m (by rw [hkm]; decide)).1
  have hP : zRP S d (S.2.2.1 q 0) (u1.2.2.2.2 (S.2.2.1 m 11)) := by rw [e11]; exact hB.2.1
  obtain ⟨hl1, hl2⟩ := zEc.len hE hEm
  have k1440 : (1440 : Int32).toInt = 1440 := by decide +kernel
  have k0_ : (0 : Int32).toInt = 0 := by decide +kernel
  have kT_ : (129600 : Int32).toInt = 129600 := by decide +kernel
  have hC : (0 ≤ p0.toInt ∧ p0.toInt ≤ 7 ∧ 0 < (d.1 (yPA S (S.2.2.1 q 0) p0) 2).toInt ∧ 0 ≤ p1.toInt ∧ p1.toInt ≤ 89 ∧ p1.toInt < (d.1 (yPA S (S.2.2.1 q 0) p0) 2).toInt ∧ (xat 90 (d.2.2.2.1 (S.2.2.1 (yPA S (S.2.2.1 q 0) p0) 0)) p1).toInt ≠ -1 ∧ 0 ≤ p2.toInt ∧ p2.toInt ≤ 1439) ↔ (0 ≤ p0.toInt ∧ p0.toInt ≤ 7 ∧ yOI S u1 m p0.toInt.toNat = 1 ∧ 0 ≤ p1.toInt ∧ p1.toInt < yOf S u1 m p0.toInt.toNat 2 ∧ (u1.2.2.2.1 (S.2.2.1 m 13) (zDi p0 p1)).toInt = 0 ∧ 0 ≤ p2.toInt ∧ p2.toInt ≤ 1439) := by
    have o := hP.oi p0
    have m1 : (-1 : Int32).toInt = -1 := by decide +kernel
    have i1 : (1 : Int32).toInt = 1 := by decide +kernel
    constructor
    · rintro ⟨a, b, c, d0, d89, dl, kn, w⟩
      have g := hP.of a b c
      refine ⟨a, b, (o.mp ⟨a, b, c⟩).2.2, d0, by omega, ?_, w⟩
      rcases (hK.at a b d0 d89).2 with ⟨x, y⟩ | ⟨x, y⟩
      · rw [x]; exact k0_
      · rw [y] at kn; exact absurd m1 kn
    · rintro ⟨a, b, c, d0, dl, kn, w⟩
      have c2 := (o.mpr ⟨a, b, c⟩).2.2
      have g := hP.of a b c2
      have h90 : (d.1 (yPA S (S.2.2.1 q 0) p0) 2).toInt ≤ 90 := by
        rcases hP p0 a b with ⟨x, -⟩ | ⟨-, x, -⟩
        · exact absurd c2 x
        · exact x
      refine ⟨a, b, c2, d0, by omega, by omega, ?_, w⟩
      obtain ⟨⟨y0, y1⟩, z⟩ := hK.at a b d0 (show p1.toInt ≤ 89 by omega)
      rcases z with ⟨x, y⟩ | ⟨x, y⟩
      · rw [y]; omega
      · rw [x] at kn; omega
  by_cases c : (0 ≤ p0.toInt ∧ p0.toInt ≤ 7 ∧ 0 < (d.1 (yPA S (S.2.2.1 q 0) p0) 2).toInt ∧ 0 ≤ p1.toInt ∧ p1.toInt ≤ 89 ∧ p1.toInt < (d.1 (yPA S (S.2.2.1 q 0) p0) 2).toInt ∧ (xat 90 (d.2.2.2.1 (S.2.2.1 (yPA S (S.2.2.1 q 0) p0) 0)) p1).toInt ≠ -1 ∧ 0 ≤ p2.toInt ∧ p2.toInt ≤ 1439)
  · obtain ⟨n3, n2, m1, n1⟩ := x1.1 c
    obtain ⟨⟨f, g, ef, eg, m2⟩, s3, s4⟩ := x2.1 (hC.mp c)
    have kn2 := (hC.mp c).2.2.2.2.2.1
    obtain ⟨a, b, c, d0, d89, dl, kn, t0, t9⟩ := c
    have i1 : (1 : Int32).toInt = 1 := by decide +kernel
    obtain ⟨⟨y0, y1⟩, z⟩ := hK.at a b d0 d89
    have hk : xat 90 (d.2.2.2.1 (S.2.2.1 (yPA S (S.2.2.1 q 0) p0) 0)) p1 = u1.2.2.2.1 (S.2.2.1 m 12) (zDi p0 p1) ∧ u1.2.2.2.1 (S.2.2.1 m 13) (zDi p0 p1) = 0 := by
      rcases z with ⟨x, y⟩ | ⟨x, y⟩
      · exact ⟨y, x⟩
      · rw [x] at kn2; omega
    have hmn : (if xat 90 (d.2.2.2.1 (S.2.2.1 (yPA S (S.2.2.1 q 0) p0) 0)) p1 < p2 then xat 90 (d.2.2.2.1 (S.2.2.1 (yPA S (S.2.2.1 q 0) p0) 0)) p1 else p2) = (if p2 < u1.2.2.2.1 (S.2.2.1 m 12) (zDi p0 p1) then p2 else u1.2.2.2.1 (S.2.2.1 m 12) (zDi p0 p1)) := by
      rw [hk.1]
      by_cases w1 : u1.2.2.2.1 (S.2.2.1 m 12) (zDi p0 p1) < p2
      · rw [if_pos w1, if_neg (fun w2 => by have q1 := Int32.lt_iff_toInt_lt.mp w1; have q2 := Int32.lt_iff_toInt_lt.mp w2; omega)]
      · rw [if_neg w1]
        by_cases w2 : p2 < u1.2.2.2.1 (S.2.2.1 m 12) (zDi p0 p1)
        · rw [if_pos w2]
        · rw [if_neg w2]
          have q1 := Int32.le_iff_toInt_le.mp (Int32.not_lt.mp w1)
          have q2 := Int32.le_iff_toInt_le.mp (Int32.not_lt.mp w2)
          exact Int32.toInt_inj.mp (by omega)
    rw [hmn] at n3 m1
    obtain ⟨mn, emn⟩ : ∃ mn, mn = (if p2 < u1.2.2.2.1 (S.2.2.1 m 12) (zDi p0 p1) then p2 else u1.2.2.2.1 (S.2.2.1 m 12) (zDi p0 p1)) := ⟨_, rfl⟩
    rw [← emn] at n3 m1 ef s3
    have hm0 : 0 ≤ mn.toInt ∧ mn.toInt ≤ 1440 := by
      rw [emn]
      by_cases w2 : p2 < u1.2.2.2.1 (S.2.2.1 m 12) (zDi p0 p1)
      · rw [if_pos w2]; omega
      · rw [if_neg w2]; exact ⟨y0, y1⟩
    have w' : (1440 * p1).toInt = 1440 * p1.toInt := tmul rfl k1440 rfl (by omega) (by omega)
    have v' : (p1 * 1440).toInt = p1.toInt * 1440 := tmul rfl rfl k1440 (by omega) (by omega)
    have f' : f.toInt = (1440 * p1).toInt + mn.toInt := tadd ef rfl rfl (by omega) (by omega)
    have g' : g.toInt = (1440 * p1).toInt + 1440 := tadd eg rfl k1440 (by omega) (by omega)
    have z' : (p1 * 1440 + mn).toInt = (p1 * 1440).toInt + mn.toInt := tadd rfl rfl rfl (by omega) (by omega)
    have l' : (1440 - mn).toInt = 1440 - mn.toInt := tsub rfl k1440 rfl (by omega) (by omega)
    obtain ⟨g1, g3⟩ := m1 E hE a b (by omega) (by omega) (by omega)
    obtain ⟨g2, g4⟩ := m2 E hEm a b (by omega) (by omega) (by omega)
    have e1 : zx p0 f = zx p0 (p1 * 1440 + mn) := (show 129600 * p0.toInt.toNat + f.toInt.toNat = 129600 * p0.toInt.toNat + (p1 * 1440 + mn).toInt.toNat by omega)
    have e2 : (g.toInt - f.toInt).toNat = (1440 - mn).toInt.toNat := by omega
    rw [e1, e2] at g2 g4
    refine ⟨Int32.toInt_inj.mp (g3.trans g4.symm), h.step hSh hq hkq hm hkm hg1 (by decide) hg2 (by decide) himg (zBk.o hSh b0 kb0 b1 kb1 (Ne.symm hnk) n1 (n2.o hSh b0 kb0 b1 kb1 (Ne.symm hnk) a b)) g1 g2 (hK.up hSh b0 kb0 a b d0 d89 n3 n2 s3 (g' := u1.2.2.2.1 (S.2.2.1 m 13) (zDi p0 p1)) (by rw [s4]; exact upd_id.symm) ?_)⟩
    exact ⟨hm0, Or.inl ⟨hk.2, rfl⟩⟩
  · obtain ⟨r1, n1⟩ := x1.2 c
    obtain ⟨s1, n2⟩ := x2.2 (fun w => c (hC.mpr w))
    exact ⟨Int32.toInt_inj.mp (r1.trans s1.symm), h.ne hSh hq hkq hm hkm hg1 (by decide) hg2 (by decide) himg n1 n2⟩
set_option maxHeartbeats 1000000 in
theorem zEV.op_copy {p0 : Int32} {p1 : Int32} {p2 : Int32} {p3 : Int32} {p4 : Int32} {r r2 : Int32} (h4 : zR4 S d q m) (h : zEV S d q m) (hPo : yPo S d) (hSh : ySh S) (hq : q ∈ S.1) (hkq : S.2.1 q = 8) (hm : m ∈ S.1) (hkm : S.2.1 m = 9) (hMI : yMI S d m) (hMI1 : yMI S u1 m) (hnk : S.2.2.1 q 0 ≠ S.2.2.1 q 1) (hg1 : yAg S [2, 8, 16, 17, 20, 24] d u1) (hg2 : yAg S [9, 42, 43, 45, 46, 47, 69, 70, 71, 72, 73] u1 u2) (hf : yK [1, 38] u1 u2 m) (himg : u1.1 q 4 = d.1 q 4) (x1 : (((0 ≤ p0.toInt ∧ p0.toInt ≤ 7 ∧ 0 < (d.1 (yPA S (S.2.2.1 q 0) p0) 2).toInt ∧ 0 ≤ p1.toInt ∧ p1.toInt ≤ 89 ∧ p1.toInt < (d.1 (yPA S (S.2.2.1 q 0) p0) 2).toInt) ∧ (0 ≤ p2.toInt ∧ p2.toInt ≤ 7 ∧ 0 < (d.1 (yPA S (S.2.2.1 q 0) p2) 2).toInt ∧ 0 ≤ p3.toInt ∧ p3.toInt ≤ 89 ∧ p3.toInt < (d.1 (yPA S (S.2.2.1 q 0) p2) 2).toInt) ∧ 0 ≤ p4.toInt ∧ p4.toInt ≤ 90) → (zDF S d (S.2.2.1 (S.2.2.1 q 0) 1) p0 p1 p2 p3 (zMost (d.1 (yPA S (S.2.2.1 q 0) p0) 2) (d.1 (yPA S (S.2.2.1 q 0) p2) 2) p1 p3 p4) r ∧ zCpR S d u1 (S.2.2.1 (S.2.2.1 q 0) 1) p2 (p3 * 1440) p0 (p1 * 1440) (r * 1440) ∧ u1.2.2.2.1 (S.2.2.1 (yPA S (S.2.2.1 q 0) p0) 0) = xsl 90 90 (d.2.2.2.1 (S.2.2.1 (yPA S (S.2.2.1 q 0) p2) 0)) (d.2.2.2.1 (S.2.2.1 (yPA S (S.2.2.1 q 0) p0) 0)) p3 p1 r ∧ zKo S d u1 (yPA S (S.2.2.1 q 0) p0) ∧ zEo S d u1 (S.2.2.1 (S.2.2.1 q 0) 1))) ∧ (¬ ((0 ≤ p0.toInt ∧ p0.toInt ≤ 7 ∧ 0 < (d.1 (yPA S (S.2.2.1 q 0) p0) 2).toInt ∧ 0 ≤ p1.toInt ∧ p1.toInt ≤ 89 ∧ p1.toInt < (d.1 (yPA S (S.2.2.1 q 0) p0) 2).toInt) ∧ (0 ≤ p2.toInt ∧ p2.toInt ≤ 7 ∧ 0 < (d.1 (yPA S (S.2.2.1 q 0) p2) 2).toInt ∧ 0 ≤ p3.toInt ∧ p3.toInt ≤ 89 ∧ p3.toInt < (d.1 (yPA S (S.2.2.1 q 0) p2) 2).toInt) ∧ 0 ≤ p4.toInt ∧ p4.toInt ≤ 90) → r.toInt = -1 ∧ zNe S d u1)) (x2 : (((0 ≤ p0.toInt ∧ p0.toInt ≤ 7 ∧ yOI S u1 m p0.toInt.toNat = 1 ∧ 0 ≤ p1.toInt ∧ p1.toInt < yOf S u1 m p0.toInt.toNat 2) ∧ (0 ≤ p2.toInt ∧ p2.toInt ≤ 7 ∧ yOI S u1 m p2.toInt.toNat = 1 ∧ 0 ≤ p3.toInt ∧ p3.toInt < yOf S u1 m p2.toInt.toNat 2) ∧ 0 ≤ p4.toInt ∧ p4.toInt ≤ 90) → zMC S u1 u2 m p0 p1 p2 p3 p4 r2) ∧ (¬ ((0 ≤ p0.toInt ∧ p0.toInt ≤ 7 ∧ yOI S u1 m p0.toInt.toNat = 1 ∧ 0 ≤ p1.toInt ∧ p1.toInt < yOf S u1 m p0.toInt.toNat 2) ∧ (0 ≤ p2.toInt ∧ p2.toInt ≤ 7 ∧ yOI S u1 m p2.toInt.toNat = 1 ∧ 0 ≤ p3.toInt ∧ p3.toInt < yOf S u1 m p2.toInt.toNat 2) ∧ 0 ≤ p4.toInt ∧ p4.toInt ≤ 90) → r2.toInt = -1 ∧ zMe S u1 u2 m)) : r = r2 ∧ zEV S u2 q m := by
  obtain ⟨hA, hB⟩ := h4.1
  obtain ⟨E, ⟨hE, hEm⟩, hK⟩ := h.now hSh hm hkm hg1 (by decide)
  obtain ⟨⟨⟨b0, kb0⟩, b1, kb1⟩, ⟨v0, kv0⟩, v1, kv1⟩ := zbk0 hSh hq hkq
  obtain ⟨⟨k2, k3⟩, ⟨k5, k6, k7⟩, -⟩ := zkk hSh hm hkm
  have k11 := (ySh.f9_11 hSh m hm hkm).2
  have e11 : u1.2.2.2.2 (S.2.2.1 m 11) = d.2.2.2.2 (S.2.2.1 m 11) := (hg1 _ (by rw [k11]; decide)).2.2.2.2
  have em : u1.1 m = d.1 m := (hg1 m (by rw [hkm]; decide)).1
  have hP : zRP S d (S.2.2.1 q 0) (u1.2.2.2.2 (S.2.2.1 m 11)) := by rw [e11]; exact hB.2.1
  obtain ⟨hl1, hl2⟩ := zEc.len hE hEm
  have k1440 : (1440 : Int32).toInt = 1440 := by decide +kernel
  have k0_ : (0 : Int32).toInt = 0 := by decide +kernel
  have kT_ : (129600 : Int32).toInt = 129600 := by decide +kernel
  have hD : ∀ p j : Int32, (0 ≤ p.toInt ∧ p.toInt ≤ 7 ∧ 0 < (d.1 (yPA S (S.2.2.1 q 0) p) 2).toInt ∧ 0 ≤ j.toInt ∧ j.toInt ≤ 89 ∧ j.toInt < (d.1 (yPA S (S.2.2.1 q 0) p) 2).toInt) ↔ (0 ≤ p.toInt ∧ p.toInt ≤ 7 ∧ yOI S u1 m p.toInt.toNat = 1 ∧ 0 ≤ j.toInt ∧ j.toInt < yOf S u1 m p.toInt.toNat 2) := fun p j => by
    have o := hP.oi p
    constructor
    · rintro ⟨a, b, c, w⟩
      have g := hP.of a b c
      exact ⟨a, b, (o.mp ⟨a, b, c⟩).2.2, by omega⟩
    · rintro ⟨a, b, c, w⟩
      have c2 := (o.mpr ⟨a, b, c⟩).2.2
      have g := hP.of a b c2
      have h90 : (d.1 (yPA S (S.2.2.1 q 0) p) 2).toInt ≤ 90 := by
        rcases hP p a b with ⟨x, -⟩ | ⟨-, x, -⟩
        · exact absurd c2 x
        · exact x
      exact ⟨a, b, c2, by omega⟩
  have hC : ((0 ≤ p0.toInt ∧ p0.toInt ≤ 7 ∧ 0 < (d.1 (yPA S (S.2.2.1 q 0) p0) 2).toInt ∧ 0 ≤ p1.toInt ∧ p1.toInt ≤ 89 ∧ p1.toInt < (d.1 (yPA S (S.2.2.1 q 0) p0) 2).toInt) ∧ (0 ≤ p2.toInt ∧ p2.toInt ≤ 7 ∧ 0 < (d.1 (yPA S (S.2.2.1 q 0) p2) 2).toInt ∧ 0 ≤ p3.toInt ∧ p3.toInt ≤ 89 ∧ p3.toInt < (d.1 (yPA S (S.2.2.1 q 0) p2) 2).toInt) ∧ 0 ≤ p4.toInt ∧ p4.toInt ≤ 90) ↔ ((0 ≤ p0.toInt ∧ p0.toInt ≤ 7 ∧ yOI S u1 m p0.toInt.toNat = 1 ∧ 0 ≤ p1.toInt ∧ p1.toInt < yOf S u1 m p0.toInt.toNat 2) ∧ (0 ≤ p2.toInt ∧ p2.toInt ≤ 7 ∧ yOI S u1 m p2.toInt.toNat = 1 ∧ 0 ≤ p3.toInt ∧ p3.toInt < yOf S u1 m p2.toInt.toNat 2) ∧ 0 ≤ p4.toInt ∧ p4.toInt ≤ 90) := ⟨fun w => ⟨(hD p0 p1).mp w.1, (hD p2 p3).mp w.2.1, w.2.2⟩, fun w => ⟨(hD p0 p1).mpr w.1, (hD p2 p3).mpr w.2.1, w.2.2⟩⟩
  by_cases c : ((0 ≤ p0.toInt ∧ p0.toInt ≤ 7 ∧ 0 < (d.1 (yPA S (S.2.2.1 q 0) p0) 2).toInt ∧ 0 ≤ p1.toInt ∧ p1.toInt ≤ 89 ∧ p1.toInt < (d.1 (yPA S (S.2.2.1 q 0) p0) 2).toInt) ∧ (0 ≤ p2.toInt ∧ p2.toInt ≤ 7 ∧ 0 < (d.1 (yPA S (S.2.2.1 q 0) p2) 2).toInt ∧ 0 ≤ p3.toInt ∧ p3.toInt ≤ 89 ∧ p3.toInt < (d.1 (yPA S (S.2.2.1 q 0) p2) 2).toInt) ∧ 0 ≤ p4.toInt ∧ p4.toInt ≤ 90)
  · obtain ⟨df, cr, kd, n2, n1⟩ := x1.1 c
    have mc := x2.1 (hC.mp c)
    obtain ⟨⟨a, b, c0, d0, d89, dl⟩, ⟨a2, b2, c2, e0, e89, el⟩, nn0, nn9⟩ := c
    have o1 := hP.of a b c0
    have o2 := hP.of a2 b2 c2
    have h90a : (d.1 (yPA S (S.2.2.1 q 0) p0) 2).toInt ≤ 90 := by
      rcases hP p0 a b with ⟨x, -⟩ | ⟨-, x, -⟩
      · exact absurd c0 x
      · exact x
    have h90b : (d.1 (yPA S (S.2.2.1 q 0) p2) 2).toInt ≤ 90 := by
      rcases hP p2 a2 b2 with ⟨x, -⟩ | ⟨-, x, -⟩
      · exact absurd c2 x
      · exact x
    have s1 : ((d.1 (yPA S (S.2.2.1 q 0) p0) 2) - p1).toInt = (d.1 (yPA S (S.2.2.1 q 0) p0) 2).toInt - p1.toInt := tsub rfl rfl rfl (by omega) (by omega)
    have s2 : ((d.1 (yPA S (S.2.2.1 q 0) p2) 2) - p3).toInt = (d.1 (yPA S (S.2.2.1 q 0) p2) 2).toInt - p3.toInt := tsub rfl rfl rfl (by omega) (by omega)
    obtain ⟨mo, emo⟩ : ∃ mo, mo = zMost (d.1 (yPA S (S.2.2.1 q 0) p0) 2) (d.1 (yPA S (S.2.2.1 q 0) p2) 2) p1 p3 p4 := ⟨_, rfl⟩
    rw [← emo] at df
    have hmo : (mo.toInt ≤ p4.toInt ∧ mo.toInt ≤ (d.1 (yPA S (S.2.2.1 q 0) p0) 2).toInt - p1.toInt ∧ mo.toInt ≤ (d.1 (yPA S (S.2.2.1 q 0) p2) 2).toInt - p3.toInt) ∧ (mo.toInt = p4.toInt ∨ mo.toInt = (d.1 (yPA S (S.2.2.1 q 0) p0) 2).toInt - p1.toInt ∨ mo.toInt = (d.1 (yPA S (S.2.2.1 q 0) p2) 2).toInt - p3.toInt) := by
      rw [emo]
      unfold zMost zRoom
      by_cases w1 : (d.1 (yPA S (S.2.2.1 q 0) p2) 2) - p3 < (d.1 (yPA S (S.2.2.1 q 0) p0) 2) - p1
      · have q1 := Int32.lt_iff_toInt_lt.mp w1
        rw [if_pos w1]
        by_cases w2 : (d.1 (yPA S (S.2.2.1 q 0) p2) 2) - p3 < p4
        · have q2 := Int32.lt_iff_toInt_lt.mp w2
          rw [if_pos w2]; omega
        · have q2 := Int32.le_iff_toInt_le.mp (Int32.not_lt.mp w2)
          rw [if_neg w2]; omega
      · have q1 := Int32.le_iff_toInt_le.mp (Int32.not_lt.mp w1)
        rw [if_neg w1]
        by_cases w2 : (d.1 (yPA S (S.2.2.1 q 0) p0) 2) - p1 < p4
        · have q2 := Int32.lt_iff_toInt_lt.mp w2
          rw [if_pos w2]; omega
        · have q2 := Int32.le_iff_toInt_le.mp (Int32.not_lt.mp w2)
          rw [if_neg w2]; omega
    obtain ⟨⟨m1, m2, m3⟩, m4⟩ := hmo
    obtain ⟨r0, rm, rN, rL⟩ := df E hE ⟨⟨a, b⟩, ⟨a2, b2⟩, d0, e0, by omega, by omega, by omega⟩
    obtain ⟨⟨q0, qn, q1, q2⟩, qN, qE, qK, qL⟩ := mc E hEm ⟨⟨a, b⟩, ⟨a2, b2⟩, d0, e0, nn0, nn9, by omega, by omega, by omega, by omega⟩
    rw [o1, o2] at qL
    rw [o1] at q1
    rw [o2] at q2
    have hr : r.toInt = r2.toInt := by
      rcases Int.lt_trichotomy r.toInt r2.toInt with w | w | w
      · have x := rL (by omega)
        have y := qN (r.toInt.toNat + 1) (by omega)
        omega
      · exact w
      · have y := rN (r2.toInt.toNat + 1) (by omega)
        rcases qL with z | z | z | z
        · omega
        · omega
        · omega
        · omega
    rw [← hr] at qE qK
    have n1' := rN r.toInt.toNat (by omega)
    have hp3 : (p3 * 1440).toInt = p3.toInt * 1440 := tmul rfl rfl k1440 (by omega) (by omega)
    have hp1 : (p1 * 1440).toInt = p1.toInt * 1440 := tmul rfl rfl k1440 (by omega) (by omega)
    have hrr : (r * 1440).toInt = r.toInt * 1440 := tmul rfl rfl k1440 (by omega) (by omega)
    have xa : zx p0 (p1 * 1440) = zy p0 p1 := (show 129600 * p0.toInt.toNat + (p1 * 1440).toInt.toNat = 129600 * p0.toInt.toNat + 1440 * p1.toInt.toNat by omega)
    have xb : zx p2 (p3 * 1440) = zy p2 p3 := (show 129600 * p2.toInt.toNat + (p3 * 1440).toInt.toNat = 129600 * p2.toInt.toNat + 1440 * p3.toInt.toNat by omega)
    have xr : (r * 1440).toInt.toNat = 1440 * r.toInt.toNat := by omega
    have zt := zT_eq
    have hT : zy p0 p1 + 1440 * r.toInt.toNat ≤ zT := by show 129600 * p0.toInt.toNat + 1440 * p1.toInt.toNat + _ ≤ _; omega
    have l1 := congrArg List.length (zClr_F (E := E) hT)
    have l2 := congrArg List.length (zF_cut3 (E := E) hT)
    rw [List.length_append] at l1
    rw [List.length_append, List.length_append] at l2
    have l3 : zDN E (zy p0 p1) (zy p2 p3) r.toInt.toNat = ((zF E 0 zT).length : Int) - ((zF E (zy p0 p1) (1440 * r.toInt.toNat)).length : Int) + ((zF E (zy p2 p3) (1440 * r.toInt.toNat)).length : Int) := rfl
    have g1 := cr E ⟨hE, ⟨a2, b2⟩, ⟨a, b⟩, by omega, by omega, by omega, by omega, by omega, by rw [xa, xb, xr]; omega⟩
    rw [xa, xb, xr] at g1
    exact ⟨Int32.toInt_inj.mp hr, h.step hSh hq hkq hm hkm hg1 (by decide) hg2 (by decide) himg (zBk.o hSh b0 kb0 b1 kb1 (Ne.symm hnk) n1 (n2.o hSh b0 kb0 b1 kb1 (Ne.symm hnk) a b)) g1 qE (hK.cp hSh b0 kb0 a b a2 b2 d0 e0 r0 (by omega) (by omega) kd n2 qK)⟩
  · obtain ⟨r1, n1⟩ := x1.2 c
    obtain ⟨s1, n2⟩ := x2.2 (fun w => c (hC.mpr w))
    exact ⟨Int32.toInt_inj.mp (r1.trans s1.symm), h.ne hSh hq hkq hm hkm hg1 (by decide) hg2 (by decide) himg n1 n2⟩
set_option maxHeartbeats 1000000 in
theorem zEV.op_state {p0 : Int32} {p1 : Int32} {r r2 : Int32} (h4 : zR4 S d q m) (h : zEV S d q m) (hPo : yPo S d) (hSh : ySh S) (hq : q ∈ S.1) (hkq : S.2.1 q = 8) (hm : m ∈ S.1) (hkm : S.2.1 m = 9) (hMI : yMI S d m) (hMI1 : yMI S u1 m) (hnk : S.2.2.1 q 0 ≠ S.2.2.1 q 1) (hg1 : yAg S [8, 24] d u1) (hg2 : yAg S [9, 69] u1 u2) (hf : yK [38] u1 u2 m) (himg : u1.1 q 4 = d.1 q 4) (x1 : ((0 ≤ p0.toInt ∧ p0.toInt ≤ 7 ∧ 0 < (d.1 (yPA S (S.2.2.1 q 0) p0) 2).toInt ∧ 0 ≤ p1.toInt ∧ p1.toInt ≤ 129599 ∧ p1.toInt < (d.1 (yPA S (S.2.2.1 q 0) p0) 2 * 1440).toInt ∧ zKI S d (yPA S (S.2.2.1 q 0) p0) p1 = 1) → zSt S d (S.2.2.1 (S.2.2.1 q 0) 1) p0 p1 r) ∧ (¬ (0 ≤ p0.toInt ∧ p0.toInt ≤ 7 ∧ 0 < (d.1 (yPA S (S.2.2.1 q 0) p0) 2).toInt ∧ 0 ≤ p1.toInt ∧ p1.toInt ≤ 129599 ∧ p1.toInt < (d.1 (yPA S (S.2.2.1 q 0) p0) 2 * 1440).toInt ∧ zKI S d (yPA S (S.2.2.1 q 0) p0) p1 = 1) → r.toInt = -1)) (x2 : ((0 ≤ p0.toInt ∧ p0.toInt ≤ 7 ∧ yOI S u1 m p0.toInt.toNat = 1 ∧ 0 ≤ p1.toInt ∧ p1.toInt < 1440 * yOf S u1 m p0.toInt.toNat 2 ∧ yKI S u1 m p0 p1 = 1) → zSm S u1 m p0 p1 r2) ∧ (¬ (0 ≤ p0.toInt ∧ p0.toInt ≤ 7 ∧ yOI S u1 m p0.toInt.toNat = 1 ∧ 0 ≤ p1.toInt ∧ p1.toInt < 1440 * yOf S u1 m p0.toInt.toNat 2 ∧ yKI S u1 m p0 p1 = 1) → r2.toInt = -1)) : r = r2 ∧ zEV S u2 q m := by
  obtain ⟨hA, hB⟩ := h4.1
  obtain ⟨E, ⟨hE, hEm⟩, hK⟩ := h.now hSh hm hkm hg1 (by decide)
  obtain ⟨⟨⟨b0, kb0⟩, b1, kb1⟩, ⟨v0, kv0⟩, v1, kv1⟩ := zbk0 hSh hq hkq
  obtain ⟨⟨k2, k3⟩, ⟨k5, k6, k7⟩, -⟩ := zkk hSh hm hkm
  have k11 := (ySh.f9_11 hSh m hm hkm).2
  have e11 : u1.2.2.2.2 (S.2.2.1 m 11) = d.2.2.2.2 (S.2.2.1 m 11) := (hg1 _ (by rw [k11]; decide)).2.2.2.2
  have em : u1.1 m = d.1 m := (hg1 m (by rw [hkm]; decide)).1
  have hP : zRP S d (S.2.2.1 q 0) (u1.2.2.2.2 (S.2.2.1 m 11)) := by rw [e11]; exact hB.2.1
  obtain ⟨hl1, hl2⟩ := zEc.len hE hEm
  have k1440 : (1440 : Int32).toInt = 1440 := by decide +kernel
  have k0_ : (0 : Int32).toInt = 0 := by decide +kernel
  have kT_ : (129600 : Int32).toInt = 129600 := by decide +kernel
  have hC : (0 ≤ p0.toInt ∧ p0.toInt ≤ 7 ∧ 0 < (d.1 (yPA S (S.2.2.1 q 0) p0) 2).toInt ∧ 0 ≤ p1.toInt ∧ p1.toInt ≤ 129599 ∧ p1.toInt < (d.1 (yPA S (S.2.2.1 q 0) p0) 2 * 1440).toInt ∧ zKI S d (yPA S (S.2.2.1 q 0) p0) p1 = 1) ↔ (0 ≤ p0.toInt ∧ p0.toInt ≤ 7 ∧ yOI S u1 m p0.toInt.toNat = 1 ∧ 0 ≤ p1.toInt ∧ p1.toInt < 1440 * yOf S u1 m p0.toInt.toNat 2 ∧ yKI S u1 m p0 p1 = 1) := by
    have o := hP.oi p0
    constructor
    · rintro ⟨a, b, c, m0, m1, m2, kn⟩
      have g := hP.of a b c
      have h90 : (d.1 (yPA S (S.2.2.1 q 0) p0) 2).toInt ≤ 90 := by
        rcases hP p0 a b with ⟨x, -⟩ | ⟨-, x, -⟩
        · exact absurd c x
        · exact x
      have t : ((d.1 (yPA S (S.2.2.1 q 0) p0) 2) * 1440).toInt = (d.1 (yPA S (S.2.2.1 q 0) p0) 2).toInt * 1440 := tmul rfl rfl k1440 (by omega) (by omega)
      exact ⟨a, b, (o.mp ⟨a, b, c⟩).2.2, m0, by omega, (hK.I a b m0 m1).symm.trans kn⟩
    · rintro ⟨a, b, c, m0, m2, kn⟩
      have c2 := (o.mpr ⟨a, b, c⟩).2.2
      have g := hP.of a b c2
      have h90 : (d.1 (yPA S (S.2.2.1 q 0) p0) 2).toInt ≤ 90 := by
        rcases hP p0 a b with ⟨x, -⟩ | ⟨-, x, -⟩
        · exact absurd c2 x
        · exact x
      have t : ((d.1 (yPA S (S.2.2.1 q 0) p0) 2) * 1440).toInt = (d.1 (yPA S (S.2.2.1 q 0) p0) 2).toInt * 1440 := tmul rfl rfl k1440 (by omega) (by omega)
      exact ⟨a, b, c2, m0, by omega, by omega, (hK.I a b m0 (by omega)).trans kn⟩
  refine ⟨?_, h.gen hSh hq hkq hm hkm hg1 (by decide) (by decide) hg2 (by decide) (by decide) himg hf (by decide)⟩
  by_cases c : (0 ≤ p0.toInt ∧ p0.toInt ≤ 7 ∧ 0 < (d.1 (yPA S (S.2.2.1 q 0) p0) 2).toInt ∧ 0 ≤ p1.toInt ∧ p1.toInt ≤ 129599 ∧ p1.toInt < (d.1 (yPA S (S.2.2.1 q 0) p0) 2 * 1440).toInt ∧ zKI S d (yPA S (S.2.2.1 q 0) p0) p1 = 1)
  · obtain ⟨a, b, c', m0, m1, m2, kn⟩ := id c
    exact Int32.toInt_inj.mp ((x1.1 c E hE a b m0 m1).trans (x2.1 (hC.mp c) E hEm a b m0 m1).symm)
  · exact Int32.toInt_inj.mp ((x1.2 c).trans (x2.2 (fun w => c (hC.mpr w))).symm)
def zR5 (S : yS) (d : yD) (q m : Nat) : Prop := zR4 S d q m ∧ zEV S d q m
theorem zR5.gen (h : zR5 S d q m) (hSh : ySh S) (hq : q ∈ S.1) (hkq : S.2.1 q = 8) (hm : m ∈ S.1) (hkm : S.2.1 m = 9) (hnk : S.2.2.1 q 0 ≠ S.2.2.1 q 1) (hg1 : yAg S M d u1) (hM : (6 ∉ M ∧ 9 ∉ M ∧ 51 ∉ M) ∧ (9 ∉ M ∧ 41 ∉ M ∧ 51 ∉ M ∧ 59 ∉ M) ∧ 1 ∉ M ∧ 4 ∉ M) (hN : zNoR M ∧ zNoK M ∧ zNoD M) (hi : u1.1 q 4 = d.1 q 4) (hg2 : yAg S M' u1 u2) (hM' : (8 ∉ M' ∧ 6 ∉ M' ∧ 51 ∉ M') ∧ (1 ∉ M' ∧ 4 ∉ M' ∧ 8 ∉ M' ∧ 51 ∉ M' ∧ 59 ∉ M') ∧ 41 ∉ M') (hN' : zNoD M' ∧ zNoK M' ∧ zNoR M') (hf : yK F u1 u2 m) (hF : (0 ∉ F ∧ 20 ∉ F) ∧ 2 ∉ F ∧ 3 ∉ F) (hE : zE1 M ∧ 2 ∉ M ∧ 16 ∉ M ∧ 20 ∉ M) (hE' : (zE2 M' ∧ zE3 M') ∧ 45 ∉ M' ∧ 46 ∉ M' ∧ 47 ∉ M' ∧ 42 ∉ M' ∧ 43 ∉ M') (hF1 : 1 ∉ F) : zR5 S u2 q m := ⟨h.1.gen hSh hq hkq hm hkm hnk hg1 hM hN hi hg2 hM' hN' hf hF, h.2.gen hSh hq hkq hm hkm hg1 hE.1 hE.2 hg2 hE'.1 hE'.2 hi hf hF1⟩
theorem zR5.ini (h : zIni S d) (hSh : ySh S) (hq : q ∈ S.1) (hkq : S.2.1 q = 8) (hm : m ∈ S.1) (hkm : S.2.1 m = 9) : zR5 S d q m := ⟨zR4.ini h hSh hq hkq hm hkm, zEV.ini h hSh hq hkq hm hkm⟩
set_option maxHeartbeats 1000000 in
theorem zR5.tons {p0 : Int32} {p1 : Int64} {r r2 : Int32} (h : zR5 S d q m) (hPo : yPo S d) (hSh : ySh S) (hq : q ∈ S.1) (hkq : S.2.1 q = 8) (hm : m ∈ S.1) (hkm : S.2.1 m = 9) (hMI : yMI S d m) (hMI1 : yMI S u1 m) (hnk : S.2.2.1 q 0 ≠ S.2.2.1 q 1) (hg1 : yAg S [4, 8, 24] d u1) (hg2 : yAg S [9, 41, 69] u1 u2) (hf : yK [38] u1 u2 m) (x1 : ((r.toInt = 0 ∧ ¬ (0 ≤ p0.toInt ∧ p0.toInt ≤ 7 ∧ 0 < (d.1 (yPA S (S.2.2.1 q 0) p0) 2).toInt ∧ 0 ≤ p1.toInt ∧ p1.toInt ≤ 100000000) ∧ zKp S 4 d u1) ∨ (r.toInt = 1 ∧ (0 ≤ p0.toInt ∧ p0.toInt ≤ 7 ∧ 0 < (d.1 (yPA S (S.2.2.1 q 0) p0) 2).toInt ∧ 0 ≤ p1.toInt ∧ p1.toInt ≤ 100000000) ∧ u1.2.1 (yPA S (S.2.2.1 q 0) p0) 8 = p1 ∧ (∀ a, S.2.1 a = 4 → u1.1 a = d.1 a) ∧ ∀ a, S.2.1 a = 4 → a ≠ (yPA S (S.2.2.1 q 0) p0) → u1.1 a = d.1 a ∧ u1.2.1 a = d.2.1 a)) ∧ u1.1 q 4 = d.1 q 4) (x2 : yMI S u2 m ∧ ((r2.toInt = 0 ∧ ¬ (0 ≤ p0.toInt ∧ p0.toInt ≤ 7 ∧ yOI S u1 m p0.toInt.toNat = 1 ∧ 0 ≤ p1.toInt ∧ p1.toInt ≤ 100000000) ∧ zPf S u1 u2 m (fun _ => False)) ∨ (r2.toInt = 1 ∧ (0 ≤ p0.toInt ∧ p0.toInt ≤ 7 ∧ yOI S u1 m p0.toInt.toNat = 1 ∧ 0 ≤ p1.toInt ∧ p1.toInt ≤ 100000000) ∧ u2.2.2.2.2 (S.2.2.1 m 11) (12 * p0.toInt.toNat + 3) = p1 ∧ zPf S u1 u2 m (fun i => i = 12 * p0.toInt.toNat + 3)))) : r = r2 ∧ zR5 S u2 q m := by
  obtain ⟨a, b⟩ := zR4.tons h.1 hMI1 hPo hSh hq hkq hm hkm hnk hg1 hg2 hf x1 x2
  exact ⟨a, b, h.2.gen hSh hq hkq hm hkm hg1 (by decide) (by decide) hg2 (by decide) (by decide) x1.2 hf (by decide)⟩
set_option maxHeartbeats 1000000 in
theorem zR5.office {p0 : Int32} {p1 : Int32} {p2 : Int32} {p3 : Int32} {r r2 : Int32} (h : zR5 S d q m) (hPo : yPo S d) (hSh : ySh S) (hq : q ∈ S.1) (hkq : S.2.1 q = 8) (hm : m ∈ S.1) (hkm : S.2.1 m = 9) (hMI : yMI S d m) (hMI1 : yMI S u1 m) (hnk : S.2.2.1 q 0 ≠ S.2.2.1 q 1) (hg1 : yAg S [4, 8, 24] d u1) (hg2 : yAg S [9, 41, 69] u1 u2) (hf : yK [38] u1 u2 m) (x1 : ((r.toInt = 0 ∧ ¬ (0 ≤ p0.toInt ∧ p0.toInt ≤ 7 ∧ 0 < (d.1 (yPA S (S.2.2.1 q 0) p0) 2).toInt ∧ 0 ≤ p1.toInt ∧ p1.toInt ≤ 1440 ∧ 0 ≤ p2.toInt ∧ p2.toInt ≤ 1440 ∧ 0 ≤ p3.toInt ∧ p3.toInt ≤ 100000) ∧ ∀ a, S.2.1 a = 4 → u1.1 a 2 = d.1 a 2 ∧ u1.1 a 3 = d.1 a 3 ∧ u1.2.1 a 8 = d.2.1 a 8) ∨ (r.toInt = 1 ∧ (0 ≤ p0.toInt ∧ p0.toInt ≤ 7 ∧ 0 < (d.1 (yPA S (S.2.2.1 q 0) p0) 2).toInt ∧ 0 ≤ p1.toInt ∧ p1.toInt ≤ 1440 ∧ 0 ≤ p2.toInt ∧ p2.toInt ≤ 1440 ∧ 0 ≤ p3.toInt ∧ p3.toInt ≤ 100000) ∧ ∀ a, S.2.1 a = 4 → u1.1 a 2 = d.1 a 2 ∧ u1.1 a 3 = d.1 a 3 ∧ u1.2.1 a 8 = d.2.1 a 8)) ∧ u1.1 q 4 = d.1 q 4) (x2 : yMI S u2 m ∧ ((r2.toInt = 0 ∧ ¬ (0 ≤ p0.toInt ∧ p0.toInt ≤ 7 ∧ yOI S u1 m p0.toInt.toNat = 1 ∧ 0 ≤ p1.toInt ∧ p1.toInt ≤ 1440 ∧ 0 ≤ p2.toInt ∧ p2.toInt ≤ 1440 ∧ 0 ≤ p3.toInt ∧ p3.toInt ≤ 100000) ∧ zPf S u1 u2 m (fun _ => False)) ∨ (r2.toInt = 1 ∧ (0 ≤ p0.toInt ∧ p0.toInt ≤ 7 ∧ yOI S u1 m p0.toInt.toNat = 1 ∧ 0 ≤ p1.toInt ∧ p1.toInt ≤ 1440 ∧ 0 ≤ p2.toInt ∧ p2.toInt ≤ 1440 ∧ 0 ≤ p3.toInt ∧ p3.toInt ≤ 100000) ∧ zPf S u1 u2 m (fun _ => False)))) : r = r2 ∧ zR5 S u2 q m := by
  obtain ⟨a, b⟩ := zR4.office h.1 hMI1 hPo hSh hq hkq hm hkm hnk hg1 hg2 hf x1 x2
  exact ⟨a, b, h.2.gen hSh hq hkq hm hkm hg1 (by decide) (by decide) hg2 (by decide) (by decide) x1.2 hf (by decide)⟩
set_option maxHeartbeats 1000000 in
theorem zR5.offset {p0 : Int32} {p1 : Int32} {r r2 : Int32} (h : zR5 S d q m) (hPo : yPo S d) (hSh : ySh S) (hq : q ∈ S.1) (hkq : S.2.1 q = 8) (hm : m ∈ S.1) (hkm : S.2.1 m = 9) (hMI : yMI S d m) (hMI1 : yMI S u1 m) (hnk : S.2.2.1 q 0 ≠ S.2.2.1 q 1) (hg1 : yAg S [4, 8, 24] d u1) (hg2 : yAg S [9, 41, 69] u1 u2) (hf : yK [38] u1 u2 m) (x1 : ((r.toInt = 0 ∧ ¬ (0 ≤ p0.toInt ∧ p0.toInt ≤ 7 ∧ 0 < (d.1 (yPA S (S.2.2.1 q 0) p0) 2).toInt ∧ 0 ≤ p1.toInt ∧ p1.toInt ≤ 1000000) ∧ ∀ a, S.2.1 a = 4 → u1.1 a 2 = d.1 a 2 ∧ u1.1 a 3 = d.1 a 3 ∧ u1.2.1 a 8 = d.2.1 a 8) ∨ (r.toInt = 1 ∧ (0 ≤ p0.toInt ∧ p0.toInt ≤ 7 ∧ 0 < (d.1 (yPA S (S.2.2.1 q 0) p0) 2).toInt ∧ 0 ≤ p1.toInt ∧ p1.toInt ≤ 1000000) ∧ ∀ a, S.2.1 a = 4 → u1.1 a 2 = d.1 a 2 ∧ u1.1 a 3 = d.1 a 3 ∧ u1.2.1 a 8 = d.2.1 a 8)) ∧ u1.1 q 4 = d.1 q 4) (x2 : yMI S u2 m ∧ ((r2.toInt = 0 ∧ ¬ (0 ≤ p0.toInt ∧ p0.toInt ≤ 7 ∧ yOI S u1 m p0.toInt.toNat = 1 ∧ 0 ≤ p1.toInt ∧ p1.toInt ≤ 1000000) ∧ zPf S u1 u2 m (fun _ => False)) ∨ (r2.toInt = 1 ∧ (0 ≤ p0.toInt ∧ p0.toInt ≤ 7 ∧ yOI S u1 m p0.toInt.toNat = 1 ∧ 0 ≤ p1.toInt ∧ p1.toInt ≤ 1000000) ∧ zPf S u1 u2 m (fun _ => False)))) : r = r2 ∧ zR5 S u2 q m := by
  obtain ⟨a, b⟩ := zR4.offset h.1 hMI1 hPo hSh hq hkq hm hkm hnk hg1 hg2 hf x1 x2
  exact ⟨a, b, h.2.gen hSh hq hkq hm hkm hg1 (by decide) (by decide) hg2 (by decide) (by decide) x1.2 hf (by decide)⟩
set_option maxHeartbeats 1000000 in
theorem zR5.rate {p0 : Int32} {p1 : Int64} {p2 : Int64} {r r2 : Int32} (h : zR5 S d q m) (hPo : yPo S d) (hSh : ySh S) (hq : q ∈ S.1) (hkq : S.2.1 q = 8) (hm : m ∈ S.1) (hkm : S.2.1 m = 9) (hMI : yMI S d m) (hMI1 : yMI S u1 m) (hnk : S.2.2.1 q 0 ≠ S.2.2.1 q 1) (hg1 : yAg S [4, 8, 24] d u1) (hg2 : yAg S [9, 41, 69] u1 u2) (hf : yK [38] u1 u2 m) (x1 : ((r.toInt = 0 ∧ ¬ (0 ≤ p0.toInt ∧ p0.toInt ≤ 7 ∧ 0 < (d.1 (yPA S (S.2.2.1 q 0) p0) 2).toInt ∧ 0 ≤ p1.toInt ∧ p1.toInt ≤ 1000000000 ∧ 0 ≤ p2.toInt ∧ p2.toInt ≤ 1000000000) ∧ ∀ a, S.2.1 a = 4 → u1.1 a 2 = d.1 a 2 ∧ u1.1 a 3 = d.1 a 3 ∧ u1.2.1 a 8 = d.2.1 a 8) ∨ (r.toInt = 1 ∧ (0 ≤ p0.toInt ∧ p0.toInt ≤ 7 ∧ 0 < (d.1 (yPA S (S.2.2.1 q 0) p0) 2).toInt ∧ 0 ≤ p1.toInt ∧ p1.toInt ≤ 1000000000 ∧ 0 ≤ p2.toInt ∧ p2.toInt ≤ 1000000000) ∧ ∀ a, S.2.1 a = 4 → u1.1 a 2 = d.1 a 2 ∧ u1.1 a 3 = d.1 a 3 ∧ u1.2.1 a 8 = d.2.1 a 8)) ∧ u1.1 q 4 = d.1 q 4) (x2 : yMI S u2 m ∧ ((r2.toInt = 0 ∧ ¬ (0 ≤ p0.toInt ∧ p0.toInt ≤ 7 ∧ yOI S u1 m p0.toInt.toNat = 1 ∧ 0 ≤ p1.toInt ∧ p1.toInt ≤ 1000000000 ∧ 0 ≤ p2.toInt ∧ p2.toInt ≤ 1000000000) ∧ zPf S u1 u2 m (fun _ => False)) ∨ (r2.toInt = 1 ∧ (0 ≤ p0.toInt ∧ p0.toInt ≤ 7 ∧ yOI S u1 m p0.toInt.toNat = 1 ∧ 0 ≤ p1.toInt ∧ p1.toInt ≤ 1000000000 ∧ 0 ≤ p2.toInt ∧ p2.toInt ≤ 1000000000) ∧ zPf S u1 u2 m (fun _ => False)))) : r = r2 ∧ zR5 S u2 q m := by
  obtain ⟨a, b⟩ := zR4.rate h.1 hMI1 hPo hSh hq hkq hm hkm hnk hg1 hg2 hf x1 x2
  exact ⟨a, b, h.2.gen hSh hq hkq hm hkm hg1 (by decide) (by decide) hg2 (by decide) (by decide) x1.2 hf (by decide)⟩
set_option maxHeartbeats 1000000 in
theorem zR5.weight {p0 : Int32} {p1 : Int32} {r r2 : Int64} (h : zR5 S d q m) (hPo : yPo S d) (hSh : ySh S) (hq : q ∈ S.1) (hkq : S.2.1 q = 8) (hm : m ∈ S.1) (hkm : S.2.1 m = 9) (hMI : yMI S d m) (hMI1 : yMI S u1 m) (hnk : S.2.2.1 q 0 ≠ S.2.2.1 q 1) (hg1 : yAg S [8, 24] d u1) (hg2 : yAg S [9, 69] u1 u2) (hf : yK [38] u1 u2 m) (x1 : ((r = -1 ∧ ¬ (0 ≤ p0.toInt ∧ p0.toInt ≤ 7 ∧ 0 < (d.1 (yPA S (S.2.2.1 q 0) p0) 2).toInt ∧ 0 ≤ p1.toInt ∧ p1.toInt ≤ 1)) ∨ ((0 ≤ p0.toInt ∧ p0.toInt ≤ 7 ∧ 0 < (d.1 (yPA S (S.2.2.1 q 0) p0) 2).toInt ∧ 0 ≤ p1.toInt ∧ p1.toInt ≤ 1) ∧ (p1.toInt = 0 → r = d.2.1 (yPA S (S.2.2.1 q 0) p0) 8 / 1000) ∧ (p1.toInt = 1 → r = d.2.1 (yPA S (S.2.2.1 q 0) p0) 8 - d.2.1 (yPA S (S.2.2.1 q 0) p0) 8 / 1000 * 1000))) ∧ u1.1 q 4 = d.1 q 4) (x2 : yMI S u2 m ∧ ((r2 = -1 ∧ ¬ (0 ≤ p0.toInt ∧ p0.toInt ≤ 7 ∧ yOI S u1 m p0.toInt.toNat = 1 ∧ 0 ≤ p1.toInt ∧ p1.toInt ≤ 1)) ∨ ((0 ≤ p0.toInt ∧ p0.toInt ≤ 7 ∧ yOI S u1 m p0.toInt.toNat = 1 ∧ 0 ≤ p1.toInt ∧ p1.toInt ≤ 1) ∧ (p1.toInt = 0 → r2 = u1.2.2.2.2 (S.2.2.1 m 11) (12 * p0.toInt.toNat + 3) / 1000) ∧ (p1.toInt = 1 → r2 = u1.2.2.2.2 (S.2.2.1 m 11) (12 * p0.toInt.toNat + 3) - u1.2.2.2.2 (S.2.2.1 m 11) (12 * p0.toInt.toNat + 3) / 1000 * 1000)))) : r = r2 ∧ zR5 S u2 q m := by
  obtain ⟨a, b⟩ := zR4.weight h.1 hMI1 hPo hSh hq hkq hm hkm hnk hg1 hg2 hf x1 x2
  exact ⟨a, b, h.2.gen hSh hq hkq hm hkm hg1 (by decide) (by decide) hg2 (by decide) (by decide) x1.2 hf (by decide)⟩
set_option maxHeartbeats 1000000 in
theorem zR5.claim {p0 : Int32} {r r2 : Int32} (h : zR5 S d q m) (hPo : yPo S d) (hSh : ySh S) (hq : q ∈ S.1) (hkq : S.2.1 q = 8) (hm : m ∈ S.1) (hkm : S.2.1 m = 9) (hMI : yMI S d m) (hMI1 : yMI S u1 m) (hnk : S.2.2.1 q 0 ≠ S.2.2.1 q 1) (hg1 : yAg S [1, 8, 24] d u1) (hg2 : yAg S [9, 69] u1 u2) (hf : yK [2, 3, 38] u1 u2 m) (x1 : ((r.toInt = 0 ∧ ¬ (0 ≤ p0.toInt ∧ p0.toInt ≤ 7 ∧ 0 < (d.1 (yPA S (S.2.2.1 q 0) p0) 2).toInt) ∧ zKp S 1 d u1) ∨ (r.toInt = 1 ∧ (0 ≤ p0.toInt ∧ p0.toInt ≤ 7 ∧ 0 < (d.1 (yPA S (S.2.2.1 q 0) p0) 2).toInt) ∧ u1.1 (S.2.2.1 (S.2.2.1 q 0) 2) 3 = p0 ∧ u1.1 (S.2.2.1 (S.2.2.1 q 0) 2) 2 = 0 ∧ ∀ a, S.2.1 a = 1 → a ≠ (S.2.2.1 (S.2.2.1 q 0) 2) → u1.1 a = d.1 a ∧ u1.2.1 a = d.2.1 a)) ∧ u1.1 q 4 = d.1 q 4) (x2 : yMI S u2 m ∧ ((r2.toInt = 0 ∧ ¬ (0 ≤ p0.toInt ∧ p0.toInt ≤ 7 ∧ yOI S u1 m p0.toInt.toNat = 1) ∧ u2.1 m 2 = u1.1 m 2 ∧ u2.1 m 3 = u1.1 m 3) ∨ (r2.toInt = 1 ∧ (0 ≤ p0.toInt ∧ p0.toInt ≤ 7 ∧ yOI S u1 m p0.toInt.toNat = 1) ∧ u2.1 m 3 = p0 ∧ u2.1 m 2 = 0))) : r = r2 ∧ zR5 S u2 q m := by
  obtain ⟨a, b⟩ := zR4.claim h.1 hMI1 hPo hSh hq hkq hm hkm hnk hg1 hg2 hf x1 x2
  exact ⟨a, b, h.2.gen hSh hq hkq hm hkm hg1 (by decide) (by decide) hg2 (by decide) (by decide) x1.2 hf (by decide)⟩
set_option maxHeartbeats 1000000 in
theorem zR5.tell {p0 : Int32} {p1 : Int32} {r r2 : Int32} (h : zR5 S d q m) (hPo : yPo S d) (hSh : ySh S) (hq : q ∈ S.1) (hkq : S.2.1 q = 8) (hm : m ∈ S.1) (hkm : S.2.1 m = 9) (hMI : yMI S d m) (hMI1 : yMI S u1 m) (hnk : S.2.2.1 q 0 ≠ S.2.2.1 q 1) (hg1 : yAg S [1, 8, 18, 19, 24] d u1) (hg2 : yAg S [9, 48, 49, 69] u1 u2) (hf : yK [2, 38] u1 u2 m) (x1 : ((r.toInt = -1 ∧ ¬ (1 ≤ p0.toInt ∧ p0.toInt ≤ 129600 ∧ (p1.toInt = -2 ∨ p1.toInt = -3 ∨ (0 ≤ p1.toInt ∧ p1.toInt ≤ 59)) ∧ (d.1 (S.2.2.1 (S.2.2.1 q 0) 2) 3).toInt ≠ -1 ∧ (d.1 (S.2.2.1 (S.2.2.1 q 0) 2) 2).toInt < 500) ∧ zKp S 1 d u1) ∨ ((1 ≤ p0.toInt ∧ p0.toInt ≤ 129600 ∧ (p1.toInt = -2 ∨ p1.toInt = -3 ∨ (0 ≤ p1.toInt ∧ p1.toInt ≤ 59)) ∧ (d.1 (S.2.2.1 (S.2.2.1 q 0) 2) 3).toInt ≠ -1 ∧ (d.1 (S.2.2.1 (S.2.2.1 q 0) 2) 2).toInt < 500) ∧ r = d.1 (S.2.2.1 (S.2.2.1 q 0) 2) 2 + 1 ∧ u1.1 (S.2.2.1 (S.2.2.1 q 0) 2) 2 = d.1 (S.2.2.1 (S.2.2.1 q 0) 2) 2 + 1 ∧ u1.1 (S.2.2.1 (S.2.2.1 q 0) 2) 3 = d.1 (S.2.2.1 (S.2.2.1 q 0) 2) 3 ∧ ∀ a, S.2.1 a = 1 → a ≠ (S.2.2.1 (S.2.2.1 q 0) 2) → u1.1 a = d.1 a ∧ u1.2.1 a = d.2.1 a)) ∧ u1.1 q 4 = d.1 q 4) (x2 : yMI S u2 m ∧ ((r2.toInt = -1 ∧ ¬ (1 ≤ p0.toInt ∧ p0.toInt ≤ 129600 ∧ (p1.toInt = -2 ∨ p1.toInt = -3 ∨ (0 ≤ p1.toInt ∧ p1.toInt ≤ 59)) ∧ 0 ≤ (u1.1 m 3).toInt ∧ (u1.1 m 2).toInt < 500) ∧ u2.1 m 2 = u1.1 m 2 ∧ u2.1 m 3 = u1.1 m 3) ∨ (r2.toInt = (u1.1 m 2).toInt + 1 ∧ (1 ≤ p0.toInt ∧ p0.toInt ≤ 129600 ∧ (p1.toInt = -2 ∨ p1.toInt = -3 ∨ (0 ≤ p1.toInt ∧ p1.toInt ≤ 59)) ∧ 0 ≤ (u1.1 m 3).toInt ∧ (u1.1 m 2).toInt < 500) ∧ (u2.1 m 2).toInt = (u1.1 m 2).toInt + 1 ∧ u2.1 m 3 = u1.1 m 3))) : r = r2 ∧ zR5 S u2 q m := by
  obtain ⟨a, b⟩ := zR4.tell h.1 hMI1 hPo hSh hq hkq hm hkm hnk hg1 hg2 hf x1 x2
  exact ⟨a, b, h.2.gen hSh hq hkq hm hkm hg1 (by decide) (by decide) hg2 (by decide) (by decide) x1.2 hf (by decide)⟩
set_option maxHeartbeats 1000000 in
theorem zR5.contract  {r r2 : Int32} (h : zR5 S d q m) (hPo : yPo S d) (hSh : ySh S) (hq : q ∈ S.1) (hkq : S.2.1 q = 8) (hm : m ∈ S.1) (hkm : S.2.1 m = 9) (hMI : yMI S d m) (hMI1 : yMI S u1 m) (hnk : S.2.2.1 q 0 ≠ S.2.2.1 q 1) (hg1 : yAg S [6, 8, 24] d u1) (hg2 : yAg S [9, 34, 69] u1 u2) (hf : yK [0, 38] u1 u2 m) (x1 : ((40 ≤ d.1 (S.2.2.1 (S.2.2.1 q 0) 0) 6 ∧ r = -1 ∧ u1.1 (S.2.2.1 (S.2.2.1 q 0) 0) 6 = d.1 (S.2.2.1 (S.2.2.1 q 0) 0) 6) ∨ (¬ 40 ≤ d.1 (S.2.2.1 (S.2.2.1 q 0) 0) 6 ∧ r = d.1 (S.2.2.1 (S.2.2.1 q 0) 0) 6 ∧ u1.1 (S.2.2.1 (S.2.2.1 q 0) 0) 6 = d.1 (S.2.2.1 (S.2.2.1 q 0) 0) 6 + 1)) ∧ u1.1 (S.2.2.1 (S.2.2.1 q 1) 0) 6 = d.1 (S.2.2.1 (S.2.2.1 q 1) 0) 6 ∧ u1.1 q 4 = d.1 q 4) (x2 : yMI S u2 m ∧ (((u1.1 m 0).toInt = 40 ∧ r2.toInt = -1 ∧ (u2.1 m 0).toInt = (u1.1 m 0).toInt ∧ zTr S u2 m (fun s => u1.2.2.2.1 (S.2.2.1 m s))) ∨ ((u1.1 m 0).toInt ≤ 39 ∧ r2.toInt = (u1.1 m 0).toInt ∧ (u2.1 m 0).toInt = (u1.1 m 0).toInt + 1 ∧ (∀ j : Nat, j < 60 → u2.2.2.2.1 (S.2.2.1 m 4) (60 * (u1.1 m 0).toInt.toNat + j) = 0) ∧ (∀ k : Nat, (k < 60 * (u1.1 m 0).toInt.toNat ∨ 60 * (u1.1 m 0).toInt.toNat + 60 ≤ k) → u2.2.2.2.1 (S.2.2.1 m 4) k = u1.2.2.2.1 (S.2.2.1 m 4) k) ∧ ∀ s, 5 ≤ s → s ≤ 10 → u2.2.2.2.1 (S.2.2.1 m s) = u1.2.2.2.1 (S.2.2.1 m s)))) : r = r2 ∧ zR5 S u2 q m := by
  obtain ⟨a, b⟩ := zR4.contract h.1 hMI1 hPo hSh hq hkq hm hkm hnk hg1 hg2 hf x1 x2
  exact ⟨a, b, h.2.gen hSh hq hkq hm hkm hg1 (by decide) (by decide) hg2 (by decide) (by decide) x1.2.2 hf (by decide)⟩
set_option maxHeartbeats 1000000 in
theorem zR5.term {p0 : Int32} {p1 : Int32} {p2 : Int32} {p3 : Int32} {p4 : Int32} {p5 : Int32} {r r2 : Int32} (h : zR5 S d q m) (hPo : yPo S d) (hSh : ySh S) (hq : q ∈ S.1) (hkq : S.2.1 q = 8) (hm : m ∈ S.1) (hkm : S.2.1 m = 9) (hMI : yMI S d m) (hMI1 : yMI S u1 m) (hnk : S.2.2.1 q 0 ≠ S.2.2.1 q 1) (hg1 : yAg S [8, 10, 11, 12, 13, 14, 15, 24] d u1) (hg2 : yAg S [9, 34, 35, 36, 37, 38, 39, 40, 69] u1 u2) (hf : yK [38] u1 u2 m) (x1 : ((r.toInt = 0 ∧ ¬ (((0 ≤ p0.toInt ∧ p0.toInt ≤ 39 ∧ p0.toInt < (d.1 (S.2.2.1 (S.2.2.1 q 0) 0) 6).toInt) ∧ 0 ≤ p1.toInt ∧ p1.toInt ≤ 59) ∧ (0 ≤ p2.toInt ∧ p2.toInt ≤ 4 ∧ 0 ≤ p3.toInt ∧ p3.toInt ≤ 4 ∧ (p3.toInt = 1 → 0 ≤ p4.toInt ∧ p4.toInt ≤ 1440 ∧ 0 ≤ p5.toInt ∧ p5.toInt ≤ 1440) ∧ (p3.toInt = 3 → 0 ≤ p4.toInt ∧ p4.toInt ≤ 4) ∧ (p3.toInt = 4 → 0 ≤ p4.toInt ∧ p4.toInt ≤ 129600 ∧ 0 ≤ p5.toInt ∧ p5.toInt ≤ 129600))) ∧ zTm S d u1 (S.2.2.1 (S.2.2.1 q 0) 0) (fun i => d.2.2.2.1 (S.2.2.1 (S.2.2.1 (S.2.2.1 q 0) 0) i))) ∨ (r.toInt = 1 ∧ (((0 ≤ p0.toInt ∧ p0.toInt ≤ 39 ∧ p0.toInt < (d.1 (S.2.2.1 (S.2.2.1 q 0) 0) 6).toInt) ∧ 0 ≤ p1.toInt ∧ p1.toInt ≤ 59) ∧ (0 ≤ p2.toInt ∧ p2.toInt ≤ 4 ∧ 0 ≤ p3.toInt ∧ p3.toInt ≤ 4 ∧ (p3.toInt = 1 → 0 ≤ p4.toInt ∧ p4.toInt ≤ 1440 ∧ 0 ≤ p5.toInt ∧ p5.toInt ≤ 1440) ∧ (p3.toInt = 3 → 0 ≤ p4.toInt ∧ p4.toInt ≤ 4) ∧ (p3.toInt = 4 → 0 ≤ p4.toInt ∧ p4.toInt ≤ 129600 ∧ 0 ≤ p5.toInt ∧ p5.toInt ≤ 129600))) ∧ zTm S d u1 (S.2.2.1 (S.2.2.1 q 0) 0) (fun i => xput 2402 (d.2.2.2.1 (S.2.2.1 (S.2.2.1 (S.2.2.1 q 0) 0) i)) (p0 * 60 + p1) (([p2, p3, p4, p5, 0, 0] : List Int32).getD i 0)))) ∧ u1.1 q 4 = d.1 q 4) (x2 : yMI S u2 m ∧ ((r2.toInt = 0 ∧ ¬ (((0 ≤ p0.toInt ∧ p0.toInt ≤ 39 ∧ p0.toInt < (u1.1 m 0).toInt) ∧ 0 ≤ p1.toInt ∧ p1.toInt ≤ 59) ∧ (0 ≤ p2.toInt ∧ p2.toInt ≤ 4 ∧ 0 ≤ p3.toInt ∧ p3.toInt ≤ 4 ∧ (p3.toInt = 1 → 0 ≤ p4.toInt ∧ p4.toInt ≤ 1440 ∧ 0 ≤ p5.toInt ∧ p5.toInt ≤ 1440) ∧ (p3.toInt = 3 → 0 ≤ p4.toInt ∧ p4.toInt ≤ 4) ∧ (p3.toInt = 4 → 0 ≤ p4.toInt ∧ p4.toInt ≤ 129600 ∧ 0 ≤ p5.toInt ∧ p5.toInt ≤ 129600))) ∧ zTr S u2 m (fun s => u1.2.2.2.1 (S.2.2.1 m s))) ∨ (r2.toInt = 1 ∧ (((0 ≤ p0.toInt ∧ p0.toInt ≤ 39 ∧ p0.toInt < (u1.1 m 0).toInt) ∧ 0 ≤ p1.toInt ∧ p1.toInt ≤ 59) ∧ (0 ≤ p2.toInt ∧ p2.toInt ≤ 4 ∧ 0 ≤ p3.toInt ∧ p3.toInt ≤ 4 ∧ (p3.toInt = 1 → 0 ≤ p4.toInt ∧ p4.toInt ≤ 1440 ∧ 0 ≤ p5.toInt ∧ p5.toInt ≤ 1440) ∧ (p3.toInt = 3 → 0 ≤ p4.toInt ∧ p4.toInt ≤ 4) ∧ (p3.toInt = 4 → 0 ≤ p4.toInt ∧ p4.toInt ≤ 129600 ∧ 0 ≤ p5.toInt ∧ p5.toInt ≤ 129600))) ∧ zTr S u2 m (fun s => upd (u1.2.2.2.1 (S.2.2.1 m s)) (60 * p0.toInt.toNat + p1.toInt.toNat) (([(vp_nar .byte 2), (vp_nar .byte p2.toInt8.toInt32), (vp_nar .byte p3.toInt8.toInt32), p4, p5, (vp_nar .byte 0), 0] : List Int32).getD (s - 4) 0))))) : r = r2 ∧ zR5 S u2 q m := by
  obtain ⟨a, b⟩ := zR4.term h.1 hMI1 hPo hSh hq hkq hm hkm hnk hg1 hg2 hf x1 x2
  exact ⟨a, b, h.2.gen hSh hq hkq hm hkm hg1 (by decide) (by decide) hg2 (by decide) (by decide) x1.2 hf (by decide)⟩
set_option maxHeartbeats 1000000 in
theorem zR5.yields {p0 : Int32} {p1 : Int32} {p2 : Int32} {r r2 : Int32} (h : zR5 S d q m) (hPo : yPo S d) (hSh : ySh S) (hq : q ∈ S.1) (hkq : S.2.1 q = 8) (hm : m ∈ S.1) (hkm : S.2.1 m = 9) (hMI : yMI S d m) (hMI1 : yMI S u1 m) (hnk : S.2.2.1 q 0 ≠ S.2.2.1 q 1) (hg1 : yAg S [8, 14, 24] d u1) (hg2 : yAg S [9, 39, 69] u1 u2) (hf : yK [38] u1 u2 m) (x1 : ((r.toInt = -1 ∧ ¬ ((((0 ≤ p0.toInt ∧ p0.toInt ≤ 39 ∧ p0.toInt < (d.1 (S.2.2.1 (S.2.2.1 q 0) 0) 6).toInt) ∧ 0 ≤ p1.toInt ∧ p1.toInt ≤ 59) ∧ (xat 2402 (d.2.2.2.1 (S.2.2.1 (S.2.2.1 (S.2.2.1 q 0) 0) 0)) (p0 * 60 + p1)).toInt ≠ 6 ∧ (xat 2402 (d.2.2.2.1 (S.2.2.1 (S.2.2.1 (S.2.2.1 q 0) 0) 0)) (p0 * 60 + p1)).toInt ≠ 5) ∧ 0 ≤ p2.toInt ∧ p2.toInt ≤ 31) ∧ zTm S d u1 (S.2.2.1 (S.2.2.1 q 0) 0) (fun i => d.2.2.2.1 (S.2.2.1 (S.2.2.1 (S.2.2.1 q 0) 0) i))) ∨ (((((0 ≤ p0.toInt ∧ p0.toInt ≤ 39 ∧ p0.toInt < (d.1 (S.2.2.1 (S.2.2.1 q 0) 0) 6).toInt) ∧ 0 ≤ p1.toInt ∧ p1.toInt ≤ 59) ∧ (xat 2402 (d.2.2.2.1 (S.2.2.1 (S.2.2.1 (S.2.2.1 q 0) 0) 0)) (p0 * 60 + p1)).toInt ≠ 6 ∧ (xat 2402 (d.2.2.2.1 (S.2.2.1 (S.2.2.1 (S.2.2.1 q 0) 0) 0)) (p0 * 60 + p1)).toInt ≠ 5) ∧ 0 ≤ p2.toInt ∧ p2.toInt ≤ 31) ∧ r = xat 2402 (d.2.2.2.1 (S.2.2.1 (S.2.2.1 (S.2.2.1 q 0) 0) 4)) (p0 * 60 + p1) ∧ zTm S d u1 (S.2.2.1 (S.2.2.1 q 0) 0) (fun i => if i = 4 then xput 2402 (d.2.2.2.1 (S.2.2.1 (S.2.2.1 (S.2.2.1 q 0) 0) 4)) (p0 * 60 + p1) p2 else d.2.2.2.1 (S.2.2.1 (S.2.2.1 (S.2.2.1 q 0) 0) i)))) ∧ u1.1 q 4 = d.1 q 4) (x2 : yMI S u2 m ∧ ((r2.toInt = -1 ∧ ¬ ((((0 ≤ p0.toInt ∧ p0.toInt ≤ 39 ∧ p0.toInt < (u1.1 m 0).toInt) ∧ 0 ≤ p1.toInt ∧ p1.toInt ≤ 59) ∧ (yCe S u1 m 4 p0 p1).toInt ≠ 0 ∧ (yCe S u1 m 4 p0 p1).toInt ≠ 1) ∧ 0 ≤ p2.toInt ∧ p2.toInt ≤ 31) ∧ zTr S u2 m (fun s => u1.2.2.2.1 (S.2.2.1 m s))) ∨ (((((0 ≤ p0.toInt ∧ p0.toInt ≤ 39 ∧ p0.toInt < (u1.1 m 0).toInt) ∧ 0 ≤ p1.toInt ∧ p1.toInt ≤ 59) ∧ (yCe S u1 m 4 p0 p1).toInt ≠ 0 ∧ (yCe S u1 m 4 p0 p1).toInt ≠ 1) ∧ 0 ≤ p2.toInt ∧ p2.toInt ≤ 31) ∧ r2 = yCe S u1 m 9 p0 p1 ∧ zTr S u2 m (fun s => if s = 9 then upd (u1.2.2.2.1 (S.2.2.1 m 9)) (60 * p0.toInt.toNat + p1.toInt.toNat) (vp_nar .byte p2.toInt8.toInt32) else u1.2.2.2.1 (S.2.2.1 m s))))) : r = r2 ∧ zR5 S u2 q m := by
  obtain ⟨a, b⟩ := zR4.yields h.1 hMI1 hPo hSh hq hkq hm hkm hnk hg1 hg2 hf x1 x2
  exact ⟨a, b, h.2.gen hSh hq hkq hm hkm hg1 (by decide) (by decide) hg2 (by decide) (by decide) x1.2 hf (by decide)⟩
set_option maxHeartbeats 1000000 in
theorem zR5.amount {p0 : Int32} {p1 : Int32} {p2 : Int32} {r r2 : Int32} (h : zR5 S d q m) (hPo : yPo S d) (hSh : ySh S) (hq : q ∈ S.1) (hkq : S.2.1 q = 8) (hm : m ∈ S.1) (hkm : S.2.1 m = 9) (hMI : yMI S d m) (hMI1 : yMI S u1 m) (hnk : S.2.2.1 q 0 ≠ S.2.2.1 q 1) (hg1 : yAg S [8, 15, 24] d u1) (hg2 : yAg S [9, 40, 69] u1 u2) (hf : yK [38] u1 u2 m) (x1 : ((r.toInt = 0 ∧ ¬ ((((0 ≤ p0.toInt ∧ p0.toInt ≤ 39 ∧ p0.toInt < (d.1 (S.2.2.1 (S.2.2.1 q 0) 0) 6).toInt) ∧ 0 ≤ p1.toInt ∧ p1.toInt ≤ 59) ∧ (xat 2402 (d.2.2.2.1 (S.2.2.1 (S.2.2.1 (S.2.2.1 q 0) 0) 0)) (p0 * 60 + p1)).toInt ≠ 6 ∧ (xat 2402 (d.2.2.2.1 (S.2.2.1 (S.2.2.1 (S.2.2.1 q 0) 0) 0)) (p0 * 60 + p1)).toInt ≠ 5) ∧ -1000000 ≤ p2.toInt ∧ p2.toInt ≤ 1000000) ∧ zTm S d u1 (S.2.2.1 (S.2.2.1 q 0) 0) (fun i => d.2.2.2.1 (S.2.2.1 (S.2.2.1 (S.2.2.1 q 0) 0) i))) ∨ (r.toInt = 1 ∧ ((((0 ≤ p0.toInt ∧ p0.toInt ≤ 39 ∧ p0.toInt < (d.1 (S.2.2.1 (S.2.2.1 q 0) 0) 6).toInt) ∧ 0 ≤ p1.toInt ∧ p1.toInt ≤ 59) ∧ (xat 2402 (d.2.2.2.1 (S.2.2.1 (S.2.2.1 (S.2.2.1 q 0) 0) 0)) (p0 * 60 + p1)).toInt ≠ 6 ∧ (xat 2402 (d.2.2.2.1 (S.2.2.1 (S.2.2.1 (S.2.2.1 q 0) 0) 0)) (p0 * 60 + p1)).toInt ≠ 5) ∧ -1000000 ≤ p2.toInt ∧ p2.toInt ≤ 1000000) ∧ zTm S d u1 (S.2.2.1 (S.2.2.1 q 0) 0) (fun i => if i = 5 then xput 2402 (d.2.2.2.1 (S.2.2.1 (S.2.2.1 (S.2.2.1 q 0) 0) 5)) (p0 * 60 + p1) p2 else d.2.2.2.1 (S.2.2.1 (S.2.2.1 (S.2.2.1 q 0) 0) i)))) ∧ u1.1 q 4 = d.1 q 4) (x2 : yMI S u2 m ∧ ((r2.toInt = 0 ∧ ¬ ((((0 ≤ p0.toInt ∧ p0.toInt ≤ 39 ∧ p0.toInt < (u1.1 m 0).toInt) ∧ 0 ≤ p1.toInt ∧ p1.toInt ≤ 59) ∧ (yCe S u1 m 4 p0 p1).toInt ≠ 0 ∧ (yCe S u1 m 4 p0 p1).toInt ≠ 1) ∧ -1000000 ≤ p2.toInt ∧ p2.toInt ≤ 1000000) ∧ zTr S u2 m (fun s => u1.2.2.2.1 (S.2.2.1 m s))) ∨ (r2.toInt = 1 ∧ ((((0 ≤ p0.toInt ∧ p0.toInt ≤ 39 ∧ p0.toInt < (u1.1 m 0).toInt) ∧ 0 ≤ p1.toInt ∧ p1.toInt ≤ 59) ∧ (yCe S u1 m 4 p0 p1).toInt ≠ 0 ∧ (yCe S u1 m 4 p0 p1).toInt ≠ 1) ∧ -1000000 ≤ p2.toInt ∧ p2.toInt ≤ 1000000) ∧ zTr S u2 m (fun s => if s = 10 then upd (u1.2.2.2.1 (S.2.2.1 m 10)) (60 * p0.toInt.toNat + p1.toInt.toNat) p2 else u1.2.2.2.1 (S.2.2.1 m s))))) : r = r2 ∧ zR5 S u2 q m := by
  obtain ⟨a, b⟩ := zR4.amount h.1 hMI1 hPo hSh hq hkq hm hkm hnk hg1 hg2 hf x1 x2
  exact ⟨a, b, h.2.gen hSh hq hkq hm hkm hg1 (by decide) (by decide) hg2 (by decide) (by decide) x1.2 hf (by decide)⟩
set_option maxHeartbeats 1000000 in
theorem zR5.heading {p0 : Int32} {p1 : Int32} {p2 : Int32} {r r2 : Int32} (h : zR5 S d q m) (hPo : yPo S d) (hSh : ySh S) (hq : q ∈ S.1) (hkq : S.2.1 q = 8) (hm : m ∈ S.1) (hkm : S.2.1 m = 9) (hMI : yMI S d m) (hMI1 : yMI S u1 m) (hnk : S.2.2.1 q 0 ≠ S.2.2.1 q 1) (hg1 : yAg S [8, 10, 11, 12, 13, 14, 15, 24] d u1) (hg2 : yAg S [9, 34, 40, 69] u1 u2) (hf : yK [38] u1 u2 m) (x1 : ((r.toInt = 0 ∧ ¬ ((0 ≤ p0.toInt ∧ p0.toInt ≤ 39 ∧ p0.toInt < (d.1 (S.2.2.1 (S.2.2.1 q 0) 0) 6).toInt) ∧ 0 ≤ p1.toInt ∧ p1.toInt ≤ 59) ∧ zTm S d u1 (S.2.2.1 (S.2.2.1 q 0) 0) (fun i => d.2.2.2.1 (S.2.2.1 (S.2.2.1 (S.2.2.1 q 0) 0) i))) ∨ (r.toInt = 1 ∧ ((0 ≤ p0.toInt ∧ p0.toInt ≤ 39 ∧ p0.toInt < (d.1 (S.2.2.1 (S.2.2.1 q 0) 0) 6).toInt) ∧ 0 ≤ p1.toInt ∧ p1.toInt ≤ 59) ∧ zTm S d u1 (S.2.2.1 (S.2.2.1 q 0) 0) (fun i => xput 2402 (d.2.2.2.1 (S.2.2.1 (S.2.2.1 (S.2.2.1 q 0) 0) i)) (p0 * 60 + p1) (([5, 0, p2, 0, 0, 0] : List Int32).getD i 0)))) ∧ u1.1 q 4 = d.1 q 4) (x2 : yMI S u2 m ∧ ((r2.toInt = 0 ∧ ¬ ((0 ≤ p0.toInt ∧ p0.toInt ≤ 39 ∧ p0.toInt < (u1.1 m 0).toInt) ∧ 0 ≤ p1.toInt ∧ p1.toInt ≤ 59) ∧ zTr S u2 m (fun s => u1.2.2.2.1 (S.2.2.1 m s))) ∨ (r2.toInt = 1 ∧ ((0 ≤ p0.toInt ∧ p0.toInt ≤ 39 ∧ p0.toInt < (u1.1 m 0).toInt) ∧ 0 ≤ p1.toInt ∧ p1.toInt ≤ 59) ∧ zTr S u2 m (fun s => if s = 10 then upd (u1.2.2.2.1 (S.2.2.1 m 10)) (60 * p0.toInt.toNat + p1.toInt.toNat) p2 else if s = 4 then upd (u1.2.2.2.1 (S.2.2.1 m 4)) (60 * p0.toInt.toNat + p1.toInt.toNat) (vp_nar .byte 1) else u1.2.2.2.1 (S.2.2.1 m s))))) : r = r2 ∧ zR5 S u2 q m := by
  obtain ⟨a, b⟩ := zR4.heading h.1 hMI1 hPo hSh hq hkq hm hkm hnk hg1 hg2 hf x1 x2
  exact ⟨a, b, h.2.gen hSh hq hkq hm hkm hg1 (by decide) (by decide) hg2 (by decide) (by decide) x1.2 hf (by decide)⟩
set_option maxHeartbeats 1000000 in
theorem zR5.strike {p0 : Int32} {p1 : Int32} {r r2 : Int32} (h : zR5 S d q m) (hPo : yPo S d) (hSh : ySh S) (hq : q ∈ S.1) (hkq : S.2.1 q = 8) (hm : m ∈ S.1) (hkm : S.2.1 m = 9) (hMI : yMI S d m) (hMI1 : yMI S u1 m) (hnk : S.2.2.1 q 0 ≠ S.2.2.1 q 1) (hg1 : yAg S [8, 10, 11, 12, 13, 14, 15, 24] d u1) (hg2 : yAg S [9, 34, 69] u1 u2) (hf : yK [38] u1 u2 m) (x1 : ((r.toInt = 0 ∧ ¬ (((0 ≤ p0.toInt ∧ p0.toInt ≤ 39 ∧ p0.toInt < (d.1 (S.2.2.1 (S.2.2.1 q 0) 0) 6).toInt) ∧ 0 ≤ p1.toInt ∧ p1.toInt ≤ 59) ∧ (xat 2402 (d.2.2.2.1 (S.2.2.1 (S.2.2.1 (S.2.2.1 q 0) 0) 0)) (p0 * 60 + p1)).toInt ≠ 6) ∧ zTm S d u1 (S.2.2.1 (S.2.2.1 q 0) 0) (fun i => d.2.2.2.1 (S.2.2.1 (S.2.2.1 (S.2.2.1 q 0) 0) i))) ∨ (r.toInt = 1 ∧ (((0 ≤ p0.toInt ∧ p0.toInt ≤ 39 ∧ p0.toInt < (d.1 (S.2.2.1 (S.2.2.1 q 0) 0) 6).toInt) ∧ 0 ≤ p1.toInt ∧ p1.toInt ≤ 59) ∧ (xat 2402 (d.2.2.2.1 (S.2.2.1 (S.2.2.1 (S.2.2.1 q 0) 0) 0)) (p0 * 60 + p1)).toInt ≠ 6) ∧ zTm S d u1 (S.2.2.1 (S.2.2.1 q 0) 0) (fun i => xput 2402 (d.2.2.2.1 (S.2.2.1 (S.2.2.1 (S.2.2.1 q 0) 0) i)) (p0 * 60 + p1) (([6, 0, 0, 0, 0, 0] : List Int32).getD i 0)))) ∧ u1.1 q 4 = d.1 q 4) (x2 : yMI S u2 m ∧ ((r2.toInt = 0 ∧ ¬ (((0 ≤ p0.toInt ∧ p0.toInt ≤ 39 ∧ p0.toInt < (u1.1 m 0).toInt) ∧ 0 ≤ p1.toInt ∧ p1.toInt ≤ 59) ∧ (yCe S u1 m 4 p0 p1).toInt ≠ 0) ∧ zTr S u2 m (fun s => u1.2.2.2.1 (S.2.2.1 m s))) ∨ (r2.toInt = 1 ∧ (((0 ≤ p0.toInt ∧ p0.toInt ≤ 39 ∧ p0.toInt < (u1.1 m 0).toInt) ∧ 0 ≤ p1.toInt ∧ p1.toInt ≤ 59) ∧ (yCe S u1 m 4 p0 p1).toInt ≠ 0) ∧ zTr S u2 m (fun s => if s = 4 then upd (u1.2.2.2.1 (S.2.2.1 m 4)) (60 * p0.toInt.toNat + p1.toInt.toNat) (vp_nar .byte 0) else u1.2.2.2.1 (S.2.2.1 m s))))) : r = r2 ∧ zR5 S u2 q m := by
  obtain ⟨a, b⟩ := zR4.strike h.1 hMI1 hPo hSh hq hkq hm hkm hnk hg1 hg2 hf x1 x2
  exact ⟨a, b, h.2.gen hSh hq hkq hm hkm hg1 (by decide) (by decide) hg2 (by decide) (by decide) x1.2 hf (by decide)⟩
set_option maxHeartbeats 1000000 in
theorem zR5.kind {p0 : Int32} {p1 : Int32} {r r2 : Int32} (h : zR5 S d q m) (hPo : yPo S d) (hSh : ySh S) (hq : q ∈ S.1) (hkq : S.2.1 q = 8) (hm : m ∈ S.1) (hkm : S.2.1 m = 9) (hMI : yMI S d m) (hMI1 : yMI S u1 m) (hnk : S.2.2.1 q 0 ≠ S.2.2.1 q 1) (hg1 : yAg S [8, 24] d u1) (hg2 : yAg S [9, 69] u1 u2) (hf : yK [38] u1 u2 m) (x1 : ((r.toInt = -1 ∧ ¬ ((0 ≤ p0.toInt ∧ p0.toInt ≤ 39 ∧ p0.toInt < (d.1 (S.2.2.1 (S.2.2.1 q 0) 0) 6).toInt) ∧ 0 ≤ p1.toInt ∧ p1.toInt ≤ 59) ∧ zTm S d u1 (S.2.2.1 (S.2.2.1 q 0) 0) (fun i => d.2.2.2.1 (S.2.2.1 (S.2.2.1 (S.2.2.1 q 0) 0) i))) ∨ (((0 ≤ p0.toInt ∧ p0.toInt ≤ 39 ∧ p0.toInt < (d.1 (S.2.2.1 (S.2.2.1 q 0) 0) 6).toInt) ∧ 0 ≤ p1.toInt ∧ p1.toInt ≤ 59) ∧ r = xat 2402 (d.2.2.2.1 (S.2.2.1 (S.2.2.1 (S.2.2.1 q 0) 0) 0)) (p0 * 60 + p1) ∧ zTm S d u1 (S.2.2.1 (S.2.2.1 q 0) 0) (fun i => d.2.2.2.1 (S.2.2.1 (S.2.2.1 (S.2.2.1 q 0) 0) i)))) ∧ u1.1 q 4 = d.1 q 4) (x2 : yMI S u2 m ∧ ((r2.toInt = -1 ∧ ¬ ((0 ≤ p0.toInt ∧ p0.toInt ≤ 39 ∧ p0.toInt < (u1.1 m 0).toInt) ∧ 0 ≤ p1.toInt ∧ p1.toInt ≤ 59) ∧ zTr S u2 m (fun s => u1.2.2.2.1 (S.2.2.1 m s))) ∨ (((0 ≤ p0.toInt ∧ p0.toInt ≤ 39 ∧ p0.toInt < (u1.1 m 0).toInt) ∧ 0 ≤ p1.toInt ∧ p1.toInt ≤ 59) ∧ (((yCe S u1 m 4 p0 p1).toInt = 0 → r2.toInt = 6) ∧ ((yCe S u1 m 4 p0 p1).toInt = 1 → r2.toInt = 5) ∧ ((yCe S u1 m 4 p0 p1).toInt ≠ 0 → (yCe S u1 m 4 p0 p1).toInt ≠ 1 → r2 = yCe S u1 m 5 p0 p1)) ∧ zTr S u2 m (fun s => u1.2.2.2.1 (S.2.2.1 m s))))) : r = r2 ∧ zR5 S u2 q m := by
  obtain ⟨a, b⟩ := zR4.kind h.1 hMI1 hPo hSh hq hkq hm hkm hnk hg1 hg2 hf x1 x2
  exact ⟨a, b, h.2.gen hSh hq hkq hm hkm hg1 (by decide) (by decide) hg2 (by decide) (by decide) x1.2 hf (by decide)⟩
set_option maxHeartbeats 1000000 in
theorem zR5.headed {p0 : Int32} {p1 : Int32} {r r2 : Int32} (h : zR5 S d q m) (hPo : yPo S d) (hSh : ySh S) (hq : q ∈ S.1) (hkq : S.2.1 q = 8) (hm : m ∈ S.1) (hkm : S.2.1 m = 9) (hMI : yMI S d m) (hMI1 : yMI S u1 m) (hnk : S.2.2.1 q 0 ≠ S.2.2.1 q 1) (hg1 : yAg S [8, 24] d u1) (hg2 : yAg S [9, 69] u1 u2) (hf : yK [38] u1 u2 m) (x1 : ((r.toInt = -1 ∧ ¬ (((0 ≤ p0.toInt ∧ p0.toInt ≤ 39 ∧ p0.toInt < (d.1 (S.2.2.1 (S.2.2.1 q 0) 0) 6).toInt) ∧ 0 ≤ p1.toInt ∧ p1.toInt ≤ 59) ∧ (xat 2402 (d.2.2.2.1 (S.2.2.1 (S.2.2.1 (S.2.2.1 q 0) 0) 0)) (p0 * 60 + p1)).toInt ≠ 6 ∧ (xat 2402 (d.2.2.2.1 (S.2.2.1 (S.2.2.1 (S.2.2.1 q 0) 0) 0)) (p0 * 60 + p1)).toInt = 5) ∧ zTm S d u1 (S.2.2.1 (S.2.2.1 q 0) 0) (fun i => d.2.2.2.1 (S.2.2.1 (S.2.2.1 (S.2.2.1 q 0) 0) i))) ∨ ((((0 ≤ p0.toInt ∧ p0.toInt ≤ 39 ∧ p0.toInt < (d.1 (S.2.2.1 (S.2.2.1 q 0) 0) 6).toInt) ∧ 0 ≤ p1.toInt ∧ p1.toInt ≤ 59) ∧ (xat 2402 (d.2.2.2.1 (S.2.2.1 (S.2.2.1 (S.2.2.1 q 0) 0) 0)) (p0 * 60 + p1)).toInt ≠ 6 ∧ (xat 2402 (d.2.2.2.1 (S.2.2.1 (S.2.2.1 (S.2.2.1 q 0) 0) 0)) (p0 * 60 + p1)).toInt = 5) ∧ r = xat 2402 (d.2.2.2.1 (S.2.2.1 (S.2.2.1 (S.2.2.1 q 0) 0) 2)) (p0 * 60 + p1) ∧ zTm S d u1 (S.2.2.1 (S.2.2.1 q 0) 0) (fun i => d.2.2.2.1 (S.2.2.1 (S.2.2.1 (S.2.2.1 q 0) 0) i)))) ∧ u1.1 q 4 = d.1 q 4) (x2 : yMI S u2 m ∧ ((r2.toInt = -1 ∧ ¬ (((0 ≤ p0.toInt ∧ p0.toInt ≤ 39 ∧ p0.toInt < (u1.1 m 0).toInt) ∧ 0 ≤ p1.toInt ∧ p1.toInt ≤ 59) ∧ (yCe S u1 m 4 p0 p1).toInt = 1) ∧ zTr S u2 m (fun s => u1.2.2.2.1 (S.2.2.1 m s))) ∨ ((((0 ≤ p0.toInt ∧ p0.toInt ≤ 39 ∧ p0.toInt < (u1.1 m 0).toInt) ∧ 0 ≤ p1.toInt ∧ p1.toInt ≤ 59) ∧ (yCe S u1 m 4 p0 p1).toInt = 1) ∧ r2 = yCe S u1 m 10 p0 p1 ∧ zTr S u2 m (fun s => u1.2.2.2.1 (S.2.2.1 m s))))) : r = r2 ∧ zR5 S u2 q m := by
  obtain ⟨a, b⟩ := zR4.headed h.1 hMI1 hPo hSh hq hkq hm hkm hnk hg1 hg2 hf x1 x2
  exact ⟨a, b, h.2.gen hSh hq hkq hm hkm hg1 (by decide) (by decide) hg2 (by decide) (by decide) x1.2 hf (by decide)⟩
set_option maxHeartbeats 1000000 in
theorem zR5.span {p0 : Int32} {p1 : Int32} {p2 : Int32} {r r2 : Int32} (h : zR5 S d q m) (hPo : yPo S d) (hSh : ySh S) (hq : q ∈ S.1) (hkq : S.2.1 q = 8) (hm : m ∈ S.1) (hkm : S.2.1 m = 9) (hMI : yMI S d m) (hMI1 : yMI S u1 m) (hnk : S.2.2.1 q 0 ≠ S.2.2.1 q 1) (hg1 : yAg S [8, 24] d u1) (hg2 : yAg S [9, 69] u1 u2) (hf : yK [38] u1 u2 m) (x1 : ((r.toInt = -1 ∧ ¬ ((((0 ≤ p0.toInt ∧ p0.toInt ≤ 39 ∧ p0.toInt < (d.1 (S.2.2.1 (S.2.2.1 q 0) 0) 6).toInt) ∧ 0 ≤ p1.toInt ∧ p1.toInt ≤ 59) ∧ (xat 2402 (d.2.2.2.1 (S.2.2.1 (S.2.2.1 (S.2.2.1 q 0) 0) 0)) (p0 * 60 + p1)).toInt ≠ 6 ∧ (xat 2402 (d.2.2.2.1 (S.2.2.1 (S.2.2.1 (S.2.2.1 q 0) 0) 0)) (p0 * 60 + p1)).toInt ≠ 5) ∧ 0 ≤ p2.toInt ∧ p2.toInt ≤ 4) ∧ zTm S d u1 (S.2.2.1 (S.2.2.1 q 0) 0) (fun i => d.2.2.2.1 (S.2.2.1 (S.2.2.1 (S.2.2.1 q 0) 0) i))) ∨ (((((0 ≤ p0.toInt ∧ p0.toInt ≤ 39 ∧ p0.toInt < (d.1 (S.2.2.1 (S.2.2.1 q 0) 0) 6).toInt) ∧ 0 ≤ p1.toInt ∧ p1.toInt ≤ 59) ∧ (xat 2402 (d.2.2.2.1 (S.2.2.1 (S.2.2.1 (S.2.2.1 q 0) 0) 0)) (p0 * 60 + p1)).toInt ≠ 6 ∧ (xat 2402 (d.2.2.2.1 (S.2.2.1 (S.2.2.1 (S.2.2.1 q 0) 0) 0)) (p0 * 60 + p1)).toInt ≠ 5) ∧ 0 ≤ p2.toInt ∧ p2.toInt ≤ 4) ∧ ((p2.toInt = 0 → r = xat 2402 (d.2.2.2.1 (S.2.2.1 (S.2.2.1 (S.2.2.1 q 0) 0) 1)) (p0 * 60 + p1)) ∧ (p2.toInt = 1 → r = xat 2402 (d.2.2.2.1 (S.2.2.1 (S.2.2.1 (S.2.2.1 q 0) 0) 2)) (p0 * 60 + p1)) ∧ (p2.toInt = 2 → r = xat 2402 (d.2.2.2.1 (S.2.2.1 (S.2.2.1 (S.2.2.1 q 0) 0) 3)) (p0 * 60 + p1)) ∧ (p2.toInt = 3 → r = xat 2402 (d.2.2.2.1 (S.2.2.1 (S.2.2.1 (S.2.2.1 q 0) 0) 4)) (p0 * 60 + p1)) ∧ (p2.toInt = 4 → r = xat 2402 (d.2.2.2.1 (S.2.2.1 (S.2.2.1 (S.2.2.1 q 0) 0) 5)) (p0 * 60 + p1))) ∧ zTm S d u1 (S.2.2.1 (S.2.2.1 q 0) 0) (fun i => d.2.2.2.1 (S.2.2.1 (S.2.2.1 (S.2.2.1 q 0) 0) i)))) ∧ u1.1 q 4 = d.1 q 4) (x2 : yMI S u2 m ∧ ((r2.toInt = -1 ∧ ¬ ((((0 ≤ p0.toInt ∧ p0.toInt ≤ 39 ∧ p0.toInt < (u1.1 m 0).toInt) ∧ 0 ≤ p1.toInt ∧ p1.toInt ≤ 59) ∧ (yCe S u1 m 4 p0 p1).toInt ≠ 0 ∧ (yCe S u1 m 4 p0 p1).toInt ≠ 1) ∧ 0 ≤ p2.toInt ∧ p2.toInt ≤ 4) ∧ zTr S u2 m (fun s => u1.2.2.2.1 (S.2.2.1 m s))) ∨ (((((0 ≤ p0.toInt ∧ p0.toInt ≤ 39 ∧ p0.toInt < (u1.1 m 0).toInt) ∧ 0 ≤ p1.toInt ∧ p1.toInt ≤ 59) ∧ (yCe S u1 m 4 p0 p1).toInt ≠ 0 ∧ (yCe S u1 m 4 p0 p1).toInt ≠ 1) ∧ 0 ≤ p2.toInt ∧ p2.toInt ≤ 4) ∧ ((p2.toInt = 0 → r2 = yCe S u1 m 6 p0 p1) ∧ (p2.toInt = 1 → r2 = yCe S u1 m 7 p0 p1) ∧ (p2.toInt = 2 → r2 = yCe S u1 m 8 p0 p1) ∧ (p2.toInt = 3 → r2 = yCe S u1 m 9 p0 p1) ∧ (p2.toInt = 4 → r2 = yCe S u1 m 10 p0 p1)) ∧ zTr S u2 m (fun s => u1.2.2.2.1 (S.2.2.1 m s))))) : r = r2 ∧ zR5 S u2 q m := by
  obtain ⟨a, b⟩ := zR4.span h.1 hMI1 hPo hSh hq hkq hm hkm hnk hg1 hg2 hf x1 x2
  exact ⟨a, b, h.2.gen hSh hq hkq hm hkm hg1 (by decide) (by decide) hg2 (by decide) (by decide) x1.2 hf (by decide)⟩
set_option maxHeartbeats 1000000 in
theorem zR5.together {p0 : Int32} {r r2 : Int32} (h : zR5 S d q m) (hPo : yPo S d) (hSh : ySh S) (hq : q ∈ S.1) (hkq : S.2.1 q = 8) (hm : m ∈ S.1) (hkm : S.2.1 m = 9) (hMI : yMI S d m) (hMI1 : yMI S u1 m) (hnk : S.2.2.1 q 0 ≠ S.2.2.1 q 1) (hg1 : yAg S [0, 8, 24] d u1) (hg2 : yAg S [9, 41, 69] u1 u2) (hf : yK [38] u1 u2 m) (x1 : ((r.toInt = 0 ∧ ¬ zTC p0 (fun j => 0 < (d.1 (yPA S (S.2.2.1 q 0) j) 2).toInt)) ∨ (r.toInt = 1 ∧ zTC p0 (fun j => 0 < (d.1 (yPA S (S.2.2.1 q 0) j) 2).toInt))) ∧ u1.1 q 4 = d.1 q 4) (x2 : yMI S u2 m ∧ ((r2.toInt = 0 ∧ ¬ zTC p0 (fun j => yOI S u1 m (j).toInt.toNat = 1)) ∨ (r2.toInt = 1 ∧ zTC p0 (fun j => yOI S u1 m (j).toInt.toNat = 1))) ∧ zPf S u1 u2 m (fun _ => False)) : r = r2 ∧ zR5 S u2 q m := by
  obtain ⟨a, b⟩ := zR4.together h.1 hMI1 hPo hSh hq hkq hm hkm hnk hg1 hg2 hf x1 x2
  exact ⟨a, b, h.2.gen hSh hq hkq hm hkm hg1 (by decide) (by decide) hg2 (by decide) (by decide) x1.2 hf (by decide)⟩
set_option maxHeartbeats 1000000 in
theorem zR5.port {p0 : Int32} {p1 : Int32} {p2 : Int32} {r r2 : Int32} (h : zR5 S d q m) (hPo : yPo S d) (hSh : ySh S) (hq : q ∈ S.1) (hkq : S.2.1 q = 8) (hm : m ∈ S.1) (hkm : S.2.1 m = 9) (hMI : yMI S d m) (hMI1 : yMI S u1 m) (hnk : S.2.2.1 q 0 ≠ S.2.2.1 q 1) (hg1 : yAg S [0, 2, 4, 8, 16, 20, 21, 24] d u1) (hg2 : yAg S [9, 41, 42, 43, 44, 45, 46, 47, 69] u1 u2) (hf : yK [1, 38] u1 u2 m) (x1 : (((r.toInt = 0 ∧ ¬ (0 ≤ p0.toInt ∧ p0.toInt ≤ 7 ∧ 0 ≤ p1.toInt ∧ p1.toInt ≤ 39 ∧ p1.toInt < (d.1 (S.2.2.1 (S.2.2.1 q 0) 0) 6).toInt ∧ 1 ≤ p2.toInt ∧ p2.toInt ≤ 90) ∧ zKp S 4 d u1) ∨ (r.toInt = 1 ∧ (0 ≤ p0.toInt ∧ p0.toInt ≤ 7 ∧ 0 ≤ p1.toInt ∧ p1.toInt ≤ 39 ∧ p1.toInt < (d.1 (S.2.2.1 (S.2.2.1 q 0) 0) 6).toInt ∧ 1 ≤ p2.toInt ∧ p2.toInt ≤ 90) ∧ u1.1 (yPA S (S.2.2.1 q 0) p0) 2 = p2 ∧ u1.1 (yPA S (S.2.2.1 q 0) p0) 3 = p1 ∧ u1.2.1 (yPA S (S.2.2.1 q 0) p0) 8 = 0 ∧ ∀ a, S.2.1 a = 4 → a ≠ (yPA S (S.2.2.1 q 0) p0) → u1.1 a = d.1 a ∧ u1.2.1 a = d.2.1 a)) ∧ u1.1 q 4 = d.1 q 4) ∧ (((0 ≤ p0.toInt ∧ p0.toInt ≤ 7 ∧ 0 ≤ p1.toInt ∧ p1.toInt ≤ 39 ∧ p1.toInt < (d.1 (S.2.2.1 (S.2.2.1 q 0) 0) 6).toInt ∧ 1 ≤ p2.toInt ∧ p2.toInt ≤ 90) → r.toInt = 1 ∧ (∃ r, zRem S d u1 (S.2.2.1 (S.2.2.1 q 0) 1) p0 0 129600 r) ∧ zEo S d u1 (S.2.2.1 (S.2.2.1 q 0) 1) ∧ (∀ j, j < 90 → u1.2.2.2.1 (S.2.2.1 (yPA S (S.2.2.1 q 0) p0) 0) j = 1440) ∧ zKo S d u1 (yPA S (S.2.2.1 q 0) p0)) ∧ (¬ (0 ≤ p0.toInt ∧ p0.toInt ≤ 7 ∧ 0 ≤ p1.toInt ∧ p1.toInt ≤ 39 ∧ p1.toInt < (d.1 (S.2.2.1 (S.2.2.1 q 0) 0) 6).toInt ∧ 1 ≤ p2.toInt ∧ p2.toInt ≤ 90) → r.toInt = 0 ∧ zNe S d u1))) (x2 : (yMI S u2 m ∧ ((r2.toInt = 0 ∧ ¬ (0 ≤ p0.toInt ∧ p0.toInt ≤ 7 ∧ 1 ≤ p2.toInt ∧ p2.toInt ≤ 90 ∧ 0 ≤ p1.toInt ∧ p1.toInt ≤ 39 ∧ p1.toInt < (u1.1 m 0).toInt) ∧ zPf S u1 u2 m (fun _ => False)) ∨ (r2.toInt = 1 ∧ (0 ≤ p0.toInt ∧ p0.toInt ≤ 7 ∧ 1 ≤ p2.toInt ∧ p2.toInt ≤ 90 ∧ 0 ≤ p1.toInt ∧ p1.toInt ≤ 39 ∧ p1.toInt < (u1.1 m 0).toInt) ∧ u2.2.2.2.2 (S.2.2.1 m 11) (12 * p0.toInt.toNat) = 1 ∧ u2.2.2.2.2 (S.2.2.1 m 11) (12 * p0.toInt.toNat + 2) = p2.toInt64 ∧ u2.2.2.2.2 (S.2.2.1 m 11) (12 * p0.toInt.toNat + 3) = 0 ∧ zPf S u1 u2 m (fun i => i / 12 = p0.toInt.toNat)))) ∧ (((0 ≤ p0.toInt ∧ p0.toInt ≤ 7 ∧ 1 ≤ p2.toInt ∧ p2.toInt ≤ 90 ∧ 0 ≤ p1.toInt ∧ p1.toInt ≤ 39 ∧ p1.toInt < (u1.1 m 0).toInt) → r2.toInt = 1 ∧ (∃ rr, zClV S u1 u2 m p0 0 129600 rr) ∧ zDayR S u1 u2 m p0.toInt.toNat) ∧ (¬ (0 ≤ p0.toInt ∧ p0.toInt ≤ 7 ∧ 1 ≤ p2.toInt ∧ p2.toInt ≤ 90 ∧ 0 ≤ p1.toInt ∧ p1.toInt ≤ 39 ∧ p1.toInt < (u1.1 m 0).toInt) → r2.toInt = 0 ∧ zMe S u1 u2 m))) : r = r2 ∧ zR5 S u2 q m := by
  obtain ⟨a, b⟩ := zR4.port h.1 hMI1 hPo hSh hq hkq hm hkm hnk hg1 hg2 hf x1.1 x2.1
  exact ⟨a, b, (zEV.op_port h.1 h.2 hPo hSh hq hkq hm hkm hMI hMI1 hnk hg1 hg2 hf x1.1.2 x1.2 x2.2).2⟩
set_option maxHeartbeats 1000000 in
theorem zR5.close {p0 : Int32} {r r2 : Int32} (h : zR5 S d q m) (hPo : yPo S d) (hSh : ySh S) (hq : q ∈ S.1) (hkq : S.2.1 q = 8) (hm : m ∈ S.1) (hkm : S.2.1 m = 9) (hMI : yMI S d m) (hMI1 : yMI S u1 m) (hnk : S.2.2.1 q 0 ≠ S.2.2.1 q 1) (hg1 : yAg S [0, 2, 4, 8, 16, 24] d u1) (hg2 : yAg S [9, 41, 45, 46, 47, 69] u1 u2) (hf : yK [1, 38] u1 u2 m) (x1 : (((r.toInt = 0 ∧ ¬ (0 ≤ p0.toInt ∧ p0.toInt ≤ 7 ∧ 0 < (d.1 (yPA S (S.2.2.1 q 0) p0) 2).toInt) ∧ zKp S 4 d u1) ∨ (r.toInt = 1 ∧ (0 ≤ p0.toInt ∧ p0.toInt ≤ 7 ∧ 0 < (d.1 (yPA S (S.2.2.1 q 0) p0) 2).toInt) ∧ u1.1 (yPA S (S.2.2.1 q 0) p0) 2 = 0 ∧ u1.1 (yPA S (S.2.2.1 q 0) p0) 3 = d.1 (yPA S (S.2.2.1 q 0) p0) 3 ∧ ∀ a, S.2.1 a = 4 → a ≠ (yPA S (S.2.2.1 q 0) p0) → u1.1 a = d.1 a ∧ u1.2.1 a = d.2.1 a)) ∧ u1.1 q 4 = d.1 q 4) ∧ (((0 ≤ p0.toInt ∧ p0.toInt ≤ 7 ∧ 0 < (d.1 (yPA S (S.2.2.1 q 0) p0) 2).toInt) → r.toInt = 1 ∧ (∃ r, zRem S d u1 (S.2.2.1 (S.2.2.1 q 0) 1) p0 0 129600 r) ∧ zEo S d u1 (S.2.2.1 (S.2.2.1 q 0) 1)) ∧ (¬ (0 ≤ p0.toInt ∧ p0.toInt ≤ 7 ∧ 0 < (d.1 (yPA S (S.2.2.1 q 0) p0) 2).toInt) → r.toInt = 0 ∧ zNe S d u1))) (x2 : (yMI S u2 m ∧ ((r2.toInt = 0 ∧ ¬ (0 ≤ p0.toInt ∧ p0.toInt ≤ 7 ∧ yOI S u1 m p0.toInt.toNat = 1) ∧ zPf S u1 u2 m (fun _ => False)) ∨ (r2.toInt = 1 ∧ (0 ≤ p0.toInt ∧ p0.toInt ≤ 7 ∧ yOI S u1 m p0.toInt.toNat = 1) ∧ u2.2.2.2.2 (S.2.2.1 m 11) (12 * p0.toInt.toNat) = 0 ∧ zPf S u1 u2 m (fun i => i = 12 * p0.toInt.toNat)))) ∧ (((0 ≤ p0.toInt ∧ p0.toInt ≤ 7 ∧ yOI S u1 m p0.toInt.toNat = 1) → r2.toInt = 1 ∧ (∃ rr, zClV S u1 u2 m p0 0 129600 rr)) ∧ (¬ (0 ≤ p0.toInt ∧ p0.toInt ≤ 7 ∧ yOI S u1 m p0.toInt.toNat = 1) → r2.toInt = 0 ∧ zMe S u1 u2 m))) : r = r2 ∧ zR5 S u2 q m := by
  obtain ⟨a, b⟩ := zR4.close h.1 hMI1 hPo hSh hq hkq hm hkm hnk hg1 hg2 hf x1.1 x2.1
  exact ⟨a, b, (zEV.op_close h.1 h.2 hPo hSh hq hkq hm hkm hMI hMI1 hnk hg1 hg2 hf x1.1.2 x1.2 x2.2).2⟩
set_option maxHeartbeats 1000000 in
theorem zR5.day {p0 : Int32} {p1 : Int32} {p2 : Int32} {r r2 : Int32} (h : zR5 S d q m) (hPo : yPo S d) (hSh : ySh S) (hq : q ∈ S.1) (hkq : S.2.1 q = 8) (hm : m ∈ S.1) (hkm : S.2.1 m = 9) (hMI : yMI S d m) (hMI1 : yMI S u1 m) (hnk : S.2.2.1 q 0 ≠ S.2.2.1 q 1) (hg1 : yAg S [2, 8, 16, 20, 24] d u1) (hg2 : yAg S [9, 42, 43, 45, 46, 47, 69] u1 u2) (hf : yK [1, 38] u1 u2 m) (x1 : (((r.toInt = 0 ∧ ¬ (0 ≤ p0.toInt ∧ p0.toInt ≤ 7 ∧ 0 < (d.1 (yPA S (S.2.2.1 q 0) p0) 2).toInt ∧ 0 ≤ p1.toInt ∧ p1.toInt ≤ 89 ∧ p1.toInt < (d.1 (yPA S (S.2.2.1 q 0) p0) 2).toInt)) ∨ (r.toInt = 1 ∧ (0 ≤ p0.toInt ∧ p0.toInt ≤ 7 ∧ 0 < (d.1 (yPA S (S.2.2.1 q 0) p0) 2).toInt ∧ 0 ≤ p1.toInt ∧ p1.toInt ≤ 89 ∧ p1.toInt < (d.1 (yPA S (S.2.2.1 q 0) p0) 2).toInt))) ∧ u1.1 q 4 = d.1 q 4) ∧ (((0 ≤ p0.toInt ∧ p0.toInt ≤ 7 ∧ 0 < (d.1 (yPA S (S.2.2.1 q 0) p0) 2).toInt ∧ 0 ≤ p1.toInt ∧ p1.toInt ≤ 89 ∧ p1.toInt < (d.1 (yPA S (S.2.2.1 q 0) p0) 2).toInt) → r.toInt = 1 ∧ u1.2.2.2.1 (S.2.2.1 (yPA S (S.2.2.1 q 0) p0) 0) = xput 90 (d.2.2.2.1 (S.2.2.1 (yPA S (S.2.2.1 q 0) p0) 0)) p1 (if p2 = 0 then -1 else 1440) ∧ zKo S d u1 (yPA S (S.2.2.1 q 0) p0) ∧ (∃ r, zRem S d u1 (S.2.2.1 (S.2.2.1 q 0) 1) p0 (p1 * 1440) 1440 r) ∧ zEo S d u1 (S.2.2.1 (S.2.2.1 q 0) 1)) ∧ (¬ (0 ≤ p0.toInt ∧ p0.toInt ≤ 7 ∧ 0 < (d.1 (yPA S (S.2.2.1 q 0) p0) 2).toInt ∧ 0 ≤ p1.toInt ∧ p1.toInt ≤ 89 ∧ p1.toInt < (d.1 (yPA S (S.2.2.1 q 0) p0) 2).toInt) → r.toInt = 0 ∧ zNe S d u1))) (x2 : (yMI S u2 m ∧ ((r2.toInt = 0 ∧ ¬ (0 ≤ p0.toInt ∧ p0.toInt ≤ 7 ∧ yOI S u1 m p0.toInt.toNat = 1 ∧ 0 ≤ p1.toInt ∧ p1.toInt < yOf S u1 m p0.toInt.toNat 2)) ∨ (r2.toInt = 1 ∧ (0 ≤ p0.toInt ∧ p0.toInt ≤ 7 ∧ yOI S u1 m p0.toInt.toNat = 1 ∧ 0 ≤ p1.toInt ∧ p1.toInt < yOf S u1 m p0.toInt.toNat 2)))) ∧ (((0 ≤ p0.toInt ∧ p0.toInt ≤ 7 ∧ yOI S u1 m p0.toInt.toNat = 1 ∧ 0 ≤ p1.toInt ∧ p1.toInt < yOf S u1 m p0.toInt.toNat 2) → r2.toInt = 1 ∧ (∃ a b rr, a = 1440 * p1 ∧ b = 1440 * p1 + 1440 ∧ zClV S u1 u2 m p0 a b rr) ∧ u2.2.2.2.1 (S.2.2.1 m 12) = upd (u1.2.2.2.1 (S.2.2.1 m 12)) (zDi p0 p1) 1440 ∧ u2.2.2.2.1 (S.2.2.1 m 13) = upd (u1.2.2.2.1 (S.2.2.1 m 13)) (zDi p0 p1) (if p2 = 0 then 1 else 0)) ∧ (¬ (0 ≤ p0.toInt ∧ p0.toInt ≤ 7 ∧ yOI S u1 m p0.toInt.toNat = 1 ∧ 0 ≤ p1.toInt ∧ p1.toInt < yOf S u1 m p0.toInt.toNat 2) → r2.toInt = 0 ∧ zMe S u1 u2 m))) : r = r2 ∧ zR5 S u2 q m := by
  obtain ⟨a, b⟩ := zR4.day h.1 hMI1 hPo hSh hq hkq hm hkm hnk hg1 hg2 hf x1.1 x2.1
  exact ⟨a, b, (zEV.op_day h.1 h.2 hPo hSh hq hkq hm hkm hMI hMI1 hnk hg1 hg2 hf x1.1.2 x1.2 x2.2).2⟩
set_option maxHeartbeats 1000000 in
theorem zR5.event {p0 : Int32} {p1 : Int32} {p2 : Int32} {r r2 : Int32} (h : zR5 S d q m) (hPo : yPo S d) (hSh : ySh S) (hq : q ∈ S.1) (hkq : S.2.1 q = 8) (hm : m ∈ S.1) (hkm : S.2.1 m = 9) (hMI : yMI S d m) (hMI1 : yMI S u1 m) (hnk : S.2.2.1 q 0 ≠ S.2.2.1 q 1) (hg1 : yAg S [2, 8, 16, 24] d u1) (hg2 : yAg S [9, 45, 46, 47, 69] u1 u2) (hf : yK [1, 38] u1 u2 m) (x1 : (u1.1 q 4 = d.1 q 4) ∧ (((0 ≤ p0.toInt ∧ p0.toInt ≤ 7 ∧ 0 < (d.1 (yPA S (S.2.2.1 q 0) p0) 2).toInt ∧ 0 ≤ p1.toInt ∧ p1.toInt ≤ 129599 ∧ p1.toInt < (d.1 (yPA S (S.2.2.1 q 0) p0) 2 * 1440).toInt ∧ 0 ≤ p2.toInt ∧ p2.toInt ≤ 7 ∧ zKI S d (yPA S (S.2.2.1 q 0) p0) p1 = 1 ∧ (d.1 (S.2.2.1 (S.2.2.1 q 0) 1) 2).toInt < 5000) → r.toInt = 1 ∧ zEo S d u1 (S.2.2.1 (S.2.2.1 q 0) 1) ∧ zAdd S d u1 (S.2.2.1 (S.2.2.1 q 0) 1) p0 p1 p2) ∧ (¬ (0 ≤ p0.toInt ∧ p0.toInt ≤ 7 ∧ 0 < (d.1 (yPA S (S.2.2.1 q 0) p0) 2).toInt ∧ 0 ≤ p1.toInt ∧ p1.toInt ≤ 129599 ∧ p1.toInt < (d.1 (yPA S (S.2.2.1 q 0) p0) 2 * 1440).toInt ∧ 0 ≤ p2.toInt ∧ p2.toInt ≤ 7 ∧ zKI S d (yPA S (S.2.2.1 q 0) p0) p1 = 1 ∧ (d.1 (S.2.2.1 (S.2.2.1 q 0) 1) 2).toInt < 5000) → r.toInt = 0 ∧ zNe S d u1))) (x2 : (yMI S u2 m) ∧ (((0 ≤ p0.toInt ∧ p0.toInt ≤ 7 ∧ yOI S u1 m p0.toInt.toNat = 1 ∧ 0 ≤ p1.toInt ∧ p1.toInt < 1440 * yOf S u1 m p0.toInt.toNat 2 ∧ 0 ≤ p2.toInt ∧ p2.toInt ≤ 7 ∧ yKI S u1 m p0 p1 = 1 ∧ (u1.1 m 1).toInt ≠ 5000) → r2.toInt = 1 ∧ zInV S u1 u2 m p0 p1 p2) ∧ (¬ (0 ≤ p0.toInt ∧ p0.toInt ≤ 7 ∧ yOI S u1 m p0.toInt.toNat = 1 ∧ 0 ≤ p1.toInt ∧ p1.toInt < 1440 * yOf S u1 m p0.toInt.toNat 2 ∧ 0 ≤ p2.toInt ∧ p2.toInt ≤ 7 ∧ yKI S u1 m p0 p1 = 1 ∧ (u1.1 m 1).toInt ≠ 5000) → r2.toInt = 0 ∧ zMe S u1 u2 m))) : r = r2 ∧ zR5 S u2 q m := by
  obtain ⟨a, b⟩ := zEV.op_event h.1 h.2 hPo hSh hq hkq hm hkm hMI hMI1 hnk hg1 hg2 hf x1.1 x1.2 x2.2
  exact ⟨a, h.1.gen hSh hq hkq hm hkm hnk hg1 (by decide) (by decide) x1.1 hg2 (by decide) (by decide) hf (by decide), b⟩
set_option maxHeartbeats 1000000 in
theorem zR5.tear {p0 : Int32} {p1 : Int32} {p2 : Int32} {r r2 : Int32} (h : zR5 S d q m) (hPo : yPo S d) (hSh : ySh S) (hq : q ∈ S.1) (hkq : S.2.1 q = 8) (hm : m ∈ S.1) (hkm : S.2.1 m = 9) (hMI : yMI S d m) (hMI1 : yMI S u1 m) (hnk : S.2.2.1 q 0 ≠ S.2.2.1 q 1) (hg1 : yAg S [2, 8, 16, 20, 24] d u1) (hg2 : yAg S [9, 42, 45, 46, 47, 69] u1 u2) (hf : yK [1, 38] u1 u2 m) (x1 : (u1.1 q 4 = d.1 q 4) ∧ (((0 ≤ p0.toInt ∧ p0.toInt ≤ 7 ∧ 0 < (d.1 (yPA S (S.2.2.1 q 0) p0) 2).toInt ∧ 0 ≤ p1.toInt ∧ p1.toInt ≤ 89 ∧ p1.toInt < (d.1 (yPA S (S.2.2.1 q 0) p0) 2).toInt ∧ (xat 90 (d.2.2.2.1 (S.2.2.1 (yPA S (S.2.2.1 q 0) p0) 0)) p1).toInt ≠ -1 ∧ 0 ≤ p2.toInt ∧ p2.toInt ≤ 1439) → (u1.2.2.2.1 (S.2.2.1 (yPA S (S.2.2.1 q 0) p0) 0) = xput 90 (d.2.2.2.1 (S.2.2.1 (yPA S (S.2.2.1 q 0) p0) 0)) p1 (if xat 90 (d.2.2.2.1 (S.2.2.1 (yPA S (S.2.2.1 q 0) p0) 0)) p1 < p2 then xat 90 (d.2.2.2.1 (S.2.2.1 (yPA S (S.2.2.1 q 0) p0) 0)) p1 else p2) ∧ zKo S d u1 (yPA S (S.2.2.1 q 0) p0) ∧ zRem S d u1 (S.2.2.1 (S.2.2.1 q 0) 1) p0 (p1 * 1440 + (if xat 90 (d.2.2.2.1 (S.2.2.1 (yPA S (S.2.2.1 q 0) p0) 0)) p1 < p2 then xat 90 (d.2.2.2.1 (S.2.2.1 (yPA S (S.2.2.1 q 0) p0) 0)) p1 else p2)) (1440 - (if xat 90 (d.2.2.2.1 (S.2.2.1 (yPA S (S.2.2.1 q 0) p0) 0)) p1 < p2 then xat 90 (d.2.2.2.1 (S.2.2.1 (yPA S (S.2.2.1 q 0) p0) 0)) p1 else p2)) r ∧ zEo S d u1 (S.2.2.1 (S.2.2.1 q 0) 1))) ∧ (¬ (0 ≤ p0.toInt ∧ p0.toInt ≤ 7 ∧ 0 < (d.1 (yPA S (S.2.2.1 q 0) p0) 2).toInt ∧ 0 ≤ p1.toInt ∧ p1.toInt ≤ 89 ∧ p1.toInt < (d.1 (yPA S (S.2.2.1 q 0) p0) 2).toInt ∧ (xat 90 (d.2.2.2.1 (S.2.2.1 (yPA S (S.2.2.1 q 0) p0) 0)) p1).toInt ≠ -1 ∧ 0 ≤ p2.toInt ∧ p2.toInt ≤ 1439) → r.toInt = -1 ∧ zNe S d u1))) (x2 : (yMI S u2 m) ∧ (((0 ≤ p0.toInt ∧ p0.toInt ≤ 7 ∧ yOI S u1 m p0.toInt.toNat = 1 ∧ 0 ≤ p1.toInt ∧ p1.toInt < yOf S u1 m p0.toInt.toNat 2 ∧ (u1.2.2.2.1 (S.2.2.1 m 13) (zDi p0 p1)).toInt = 0 ∧ 0 ≤ p2.toInt ∧ p2.toInt ≤ 1439) → ((∃ a b, a = 1440 * p1 + (if p2 < u1.2.2.2.1 (S.2.2.1 m 12) (zDi p0 p1) then p2 else u1.2.2.2.1 (S.2.2.1 m 12) (zDi p0 p1)) ∧ b = 1440 * p1 + 1440 ∧ zClV S u1 u2 m p0 a b r2) ∧ u2.2.2.2.1 (S.2.2.1 m 12) = upd (u1.2.2.2.1 (S.2.2.1 m 12)) (zDi p0 p1) (if p2 < u1.2.2.2.1 (S.2.2.1 m 12) (zDi p0 p1) then p2 else u1.2.2.2.1 (S.2.2.1 m 12) (zDi p0 p1)) ∧ u2.2.2.2.1 (S.2.2.1 m 13) = u1.2.2.2.1 (S.2.2.1 m 13))) ∧ (¬ (0 ≤ p0.toInt ∧ p0.toInt ≤ 7 ∧ yOI S u1 m p0.toInt.toNat = 1 ∧ 0 ≤ p1.toInt ∧ p1.toInt < yOf S u1 m p0.toInt.toNat 2 ∧ (u1.2.2.2.1 (S.2.2.1 m 13) (zDi p0 p1)).toInt = 0 ∧ 0 ≤ p2.toInt ∧ p2.toInt ≤ 1439) → r2.toInt = -1 ∧ zMe S u1 u2 m))) : r = r2 ∧ zR5 S u2 q m := by
  obtain ⟨a, b⟩ := zEV.op_tear h.1 h.2 hPo hSh hq hkq hm hkm hMI hMI1 hnk hg1 hg2 hf x1.1 x1.2 x2.2
  exact ⟨a, h.1.gen hSh hq hkq hm hkm hnk hg1 (by decide) (by decide) x1.1 hg2 (by decide) (by decide) hf (by decide), b⟩
set_option maxHeartbeats 1000000 in
theorem zR5.copy {p0 : Int32} {p1 : Int32} {p2 : Int32} {p3 : Int32} {p4 : Int32} {r r2 : Int32} (h : zR5 S d q m) (hPo : yPo S d) (hSh : ySh S) (hq : q ∈ S.1) (hkq : S.2.1 q = 8) (hm : m ∈ S.1) (hkm : S.2.1 m = 9) (hMI : yMI S d m) (hMI1 : yMI S u1 m) (hnk : S.2.2.1 q 0 ≠ S.2.2.1 q 1) (hg1 : yAg S [2, 8, 16, 17, 20, 24] d u1) (hg2 : yAg S [9, 42, 43, 45, 46, 47, 69, 70, 71, 72, 73] u1 u2) (hf : yK [1, 38] u1 u2 m) (x1 : (u1.1 q 4 = d.1 q 4) ∧ ((((0 ≤ p0.toInt ∧ p0.toInt ≤ 7 ∧ 0 < (d.1 (yPA S (S.2.2.1 q 0) p0) 2).toInt ∧ 0 ≤ p1.toInt ∧ p1.toInt ≤ 89 ∧ p1.toInt < (d.1 (yPA S (S.2.2.1 q 0) p0) 2).toInt) ∧ (0 ≤ p2.toInt ∧ p2.toInt ≤ 7 ∧ 0 < (d.1 (yPA S (S.2.2.1 q 0) p2) 2).toInt ∧ 0 ≤ p3.toInt ∧ p3.toInt ≤ 89 ∧ p3.toInt < (d.1 (yPA S (S.2.2.1 q 0) p2) 2).toInt) ∧ 0 ≤ p4.toInt ∧ p4.toInt ≤ 90) → (zDF S d (S.2.2.1 (S.2.2.1 q 0) 1) p0 p1 p2 p3 (zMost (d.1 (yPA S (S.2.2.1 q 0) p0) 2) (d.1 (yPA S (S.2.2.1 q 0) p2) 2) p1 p3 p4) r ∧ zCpR S d u1 (S.2.2.1 (S.2.2.1 q 0) 1) p2 (p3 * 1440) p0 (p1 * 1440) (r * 1440) ∧ u1.2.2.2.1 (S.2.2.1 (yPA S (S.2.2.1 q 0) p0) 0) = xsl 90 90 (d.2.2.2.1 (S.2.2.1 (yPA S (S.2.2.1 q 0) p2) 0)) (d.2.2.2.1 (S.2.2.1 (yPA S (S.2.2.1 q 0) p0) 0)) p3 p1 r ∧ zKo S d u1 (yPA S (S.2.2.1 q 0) p0) ∧ zEo S d u1 (S.2.2.1 (S.2.2.1 q 0) 1))) ∧ (¬ ((0 ≤ p0.toInt ∧ p0.toInt ≤ 7 ∧ 0 < (d.1 (yPA S (S.2.2.1 q 0) p0) 2).toInt ∧ 0 ≤ p1.toInt ∧ p1.toInt ≤ 89 ∧ p1.toInt < (d.1 (yPA S (S.2.2.1 q 0) p0) 2).toInt) ∧ (0 ≤ p2.toInt ∧ p2.toInt ≤ 7 ∧ 0 < (d.1 (yPA S (S.2.2.1 q 0) p2) 2).toInt ∧ 0 ≤ p3.toInt ∧ p3.toInt ≤ 89 ∧ p3.toInt < (d.1 (yPA S (S.2.2.1 q 0) p2) 2).toInt) ∧ 0 ≤ p4.toInt ∧ p4.toInt ≤ 90) → r.toInt = -1 ∧ zNe S d u1))) (x2 : (yMI S u2 m) ∧ ((((0 ≤ p0.toInt ∧ p0.toInt ≤ 7 ∧ yOI S u1 m p0.toInt.toNat = 1 ∧ 0 ≤ p1.toInt ∧ p1.toInt < yOf S u1 m p0.toInt.toNat 2) ∧ (0 ≤ p2.toInt ∧ p2.toInt ≤ 7 ∧ yOI S u1 m p2.toInt.toNat = 1 ∧ 0 ≤ p3.toInt ∧ p3.toInt < yOf S u1 m p2.toInt.toNat 2) ∧ 0 ≤ p4.toInt ∧ p4.toInt ≤ 90) → zMC S u1 u2 m p0 p1 p2 p3 p4 r2) ∧ (¬ ((0 ≤ p0.toInt ∧ p0.toInt ≤ 7 ∧ yOI S u1 m p0.toInt.toNat = 1 ∧ 0 ≤ p1.toInt ∧ p1.toInt < yOf S u1 m p0.toInt.toNat 2) ∧ (0 ≤ p2.toInt ∧ p2.toInt ≤ 7 ∧ yOI S u1 m p2.toInt.toNat = 1 ∧ 0 ≤ p3.toInt ∧ p3.toInt < yOf S u1 m p2.toInt.toNat 2) ∧ 0 ≤ p4.toInt ∧ p4.toInt ≤ 90) → r2.toInt = -1 ∧ zMe S u1 u2 m))) : r = r2 ∧ zR5 S u2 q m := by
  obtain ⟨a, b⟩ := zEV.op_copy h.1 h.2 hPo hSh hq hkq hm hkm hMI hMI1 hnk hg1 hg2 hf x1.1 x1.2 x2.2
  exact ⟨a, h.1.gen hSh hq hkq hm hkm hnk hg1 (by decide) (by decide) x1.1 hg2 (by decide) (by decide) hf (by decide), b⟩
set_option maxHeartbeats 1000000 in
theorem zR5.state {p0 : Int32} {p1 : Int32} {r r2 : Int32} (h : zR5 S d q m) (hPo : yPo S d) (hSh : ySh S) (hq : q ∈ S.1) (hkq : S.2.1 q = 8) (hm : m ∈ S.1) (hkm : S.2.1 m = 9) (hMI : yMI S d m) (hMI1 : yMI S u1 m) (hnk : S.2.2.1 q 0 ≠ S.2.2.1 q 1) (hg1 : yAg S [8, 24] d u1) (hg2 : yAg S [9, 69] u1 u2) (hf : yK [38] u1 u2 m) (x1 : (u1.1 q 4 = d.1 q 4) ∧ (((0 ≤ p0.toInt ∧ p0.toInt ≤ 7 ∧ 0 < (d.1 (yPA S (S.2.2.1 q 0) p0) 2).toInt ∧ 0 ≤ p1.toInt ∧ p1.toInt ≤ 129599 ∧ p1.toInt < (d.1 (yPA S (S.2.2.1 q 0) p0) 2 * 1440).toInt ∧ zKI S d (yPA S (S.2.2.1 q 0) p0) p1 = 1) → zSt S d (S.2.2.1 (S.2.2.1 q 0) 1) p0 p1 r) ∧ (¬ (0 ≤ p0.toInt ∧ p0.toInt ≤ 7 ∧ 0 < (d.1 (yPA S (S.2.2.1 q 0) p0) 2).toInt ∧ 0 ≤ p1.toInt ∧ p1.toInt ≤ 129599 ∧ p1.toInt < (d.1 (yPA S (S.2.2.1 q 0) p0) 2 * 1440).toInt ∧ zKI S d (yPA S (S.2.2.1 q 0) p0) p1 = 1) → r.toInt = -1))) (x2 : (yMI S u2 m) ∧ (((0 ≤ p0.toInt ∧ p0.toInt ≤ 7 ∧ yOI S u1 m p0.toInt.toNat = 1 ∧ 0 ≤ p1.toInt ∧ p1.toInt < 1440 * yOf S u1 m p0.toInt.toNat 2 ∧ yKI S u1 m p0 p1 = 1) → zSm S u1 m p0 p1 r2) ∧ (¬ (0 ≤ p0.toInt ∧ p0.toInt ≤ 7 ∧ yOI S u1 m p0.toInt.toNat = 1 ∧ 0 ≤ p1.toInt ∧ p1.toInt < 1440 * yOf S u1 m p0.toInt.toNat 2 ∧ yKI S u1 m p0 p1 = 1) → r2.toInt = -1))) : r = r2 ∧ zR5 S u2 q m := by
  obtain ⟨a, b⟩ := zEV.op_state h.1 h.2 hPo hSh hq hkq hm hkm hMI hMI1 hnk hg1 hg2 hf x1.1 x1.2 x2.2
  exact ⟨a, h.1.gen hSh hq hkq hm hkm hnk hg1 (by decide) (by decide) x1.1 hg2 (by decide) (by decide) hf (by decide), b⟩
set_option maxHeartbeats 1000000 in
theorem zR5.image  {r r2 : Int32} (h : zR5 S d q m) (hPo : yPo S d) (hSh : ySh S) (hq : q ∈ S.1) (hkq : S.2.1 q = 8) (hm : m ∈ S.1) (hkm : S.2.1 m = 9) (hMI : yMI S d m) (hMI1 : yMI S u1 m) (hnk : S.2.2.1 q 0 ≠ S.2.2.1 q 1) (hg1 : yAg S [0, 1, 2, 4, 6, 8, 10, 11, 12, 13, 14, 15, 16, 18, 19, 20, 21, 24] d u1) (hg2 : yAg S [9, 51, 52, 53, 54, 55, 56, 57, 58, 59, 60, 61, 62, 63, 64, 65, 66, 67] u1 u2) (hf : yK [20, 38] u1 u2 m) (x1 : ((u1.1 q 4 = 1 ∧ u1.1 (S.2.2.1 (S.2.2.1 q 1) 0) 6 = d.1 (S.2.2.1 (S.2.2.1 q 0) 0) 6 ∧ u1.1 (S.2.2.1 (S.2.2.1 q 0) 0) 6 = d.1 (S.2.2.1 (S.2.2.1 q 0) 0) 6 ∧ r = 1) ∧ zTake S d u1 (S.2.2.1 q 1) (S.2.2.1 q 0) ∧ zTk S d u1 (S.2.2.1 (S.2.2.1 q 1) 0) (S.2.2.1 (S.2.2.1 q 0) 0)) ∧ (zTe S d u1 (S.2.2.1 q 1) (S.2.2.1 q 0))) (x2 : (yMI S u2 m ∧ (u2.1 m 20 = 1 ∧ u2.2.2.2.1 (S.2.2.1 m 21) 0 = u1.1 m 0 ∧ u2.1 m 0 = u1.1 m 0 ∧ r2 = 1) ∧ u2.2.2.2.1 (S.2.2.1 m 21) 2 = u1.1 m 2 ∧ u2.2.2.2.1 (S.2.2.1 m 21) 3 = u1.1 m 3 ∧ (∀ j : Nat, j < 96 → u2.2.2.2.2 (S.2.2.1 m 29) j = u1.2.2.2.2 (S.2.2.1 m 11) j) ∧ ∀ s, 4 ≤ s → s ≤ 10 → ∀ j : Nat, j < 2400 → u2.2.2.2.1 (S.2.2.1 m (s + 18)) j = zNr s (u1.2.2.2.1 (S.2.2.1 m s) j)) ∧ (u2.2.2.2.1 (S.2.2.1 m 21) 1 = u1.1 m 1 ∧ zKeepD (u2.2.2.2.1 (S.2.2.1 m 33)) (u2.2.2.2.1 (S.2.2.1 m 34)) (u2.2.2.2.1 (S.2.2.1 m 35)) (u2.2.2.2.1 (S.2.2.1 m 30)) (u2.2.2.2.1 (S.2.2.1 m 31)) (u1.2.2.2.1 (S.2.2.1 m 15)) (u1.2.2.2.1 (S.2.2.1 m 16)) (u1.2.2.2.1 (S.2.2.1 m 17)) (u1.2.2.2.1 (S.2.2.1 m 12)) (u1.2.2.2.1 (S.2.2.1 m 13)))) : r = r2 ∧ zR5 S u2 q m := by
  obtain ⟨a, b⟩ := zR4.image h.1 hMI1 hPo hSh hq hkq hm hkm hnk hg1 hg2 hf x1.1 x2.1
  exact ⟨a, b, h.2.image hSh hq hkq hm hkm hnk hg1 (by decide) hg2 (by decide) (by decide) hf (by decide) x1.2 x2.2⟩
set_option maxHeartbeats 1000000 in
theorem zR5.back  {r r2 : Int32} (h : zR5 S d q m) (hPo : yPo S d) (hSh : ySh S) (hq : q ∈ S.1) (hkq : S.2.1 q = 8) (hm : m ∈ S.1) (hkm : S.2.1 m = 9) (hMI : yMI S d m) (hMI1 : yMI S u1 m) (hnk : S.2.2.1 q 0 ≠ S.2.2.1 q 1) (hg1 : yAg S [0, 1, 2, 4, 6, 8, 10, 11, 12, 13, 14, 15, 16, 18, 19, 20, 21, 24] d u1) (hg2 : yAg S [9, 34, 35, 36, 37, 38, 39, 40, 41, 42, 43, 44, 45, 46, 47, 48, 49, 69] u1 u2) (hf : yK [0, 1, 2, 3, 38] u1 u2 m) (x1 : ((((d.1 q 4 = 0 ∧ r = 0 ∧ u1.1 (S.2.2.1 (S.2.2.1 q 0) 0) 6 = d.1 (S.2.2.1 (S.2.2.1 q 0) 0) 6) ∨ (¬ d.1 q 4 = 0 ∧ r = 1 ∧ u1.1 (S.2.2.1 (S.2.2.1 q 0) 0) 6 = d.1 (S.2.2.1 (S.2.2.1 q 1) 0) 6)) ∧ u1.1 (S.2.2.1 (S.2.2.1 q 1) 0) 6 = d.1 (S.2.2.1 (S.2.2.1 q 1) 0) 6 ∧ u1.1 q 4 = d.1 q 4) ∧ ((d.1 q 4 = 0 ∧ zKp S 1 d u1 ∧ zKp S 4 d u1 ∧ zRk S d u1) ∨ (¬ d.1 q 4 = 0 ∧ zTake S d u1 (S.2.2.1 q 0) (S.2.2.1 q 1) ∧ zTk S d u1 (S.2.2.1 (S.2.2.1 q 0) 0) (S.2.2.1 (S.2.2.1 q 1) 0)))) ∧ ((d.1 q 4 = 0 ∧ zNe S d u1) ∨ (¬ d.1 q 4 = 0 ∧ zTe S d u1 (S.2.2.1 q 0) (S.2.2.1 q 1)))) (x2 : (yMI S u2 m ∧ (((u1.1 m 20 = 0 ∧ u2.1 m 0 = u1.1 m 0 ∧ r2 = 0) ∧ u2.1 m 2 = u1.1 m 2 ∧ u2.1 m 3 = u1.1 m 3 ∧ zPf S u1 u2 m (fun _ => False) ∧ zTr S u2 m (fun s => u1.2.2.2.1 (S.2.2.1 m s))) ∨ ((¬ u1.1 m 20 = 0 ∧ u2.1 m 0 = u1.2.2.2.1 (S.2.2.1 m 21) 0 ∧ r2 = 1) ∧ u2.1 m 2 = u1.2.2.2.1 (S.2.2.1 m 21) 2 ∧ u2.1 m 3 = u1.2.2.2.1 (S.2.2.1 m 21) 3 ∧ (∀ j : Nat, j < 96 → u2.2.2.2.2 (S.2.2.1 m 11) j = u1.2.2.2.2 (S.2.2.1 m 29) j) ∧ ∀ s, 4 ≤ s → s ≤ 10 → ∀ j : Nat, j < 2400 → u2.2.2.2.1 (S.2.2.1 m s) j = zNr s (u1.2.2.2.1 (S.2.2.1 m (s + 18)) j)))) ∧ ((u1.1 m 20 = 0 ∧ zMe S u1 u2 m) ∨ (¬ u1.1 m 20 = 0 ∧ u2.1 m 1 = u1.2.2.2.1 (S.2.2.1 m 21) 1 ∧ zKeepD (u2.2.2.2.1 (S.2.2.1 m 15)) (u2.2.2.2.1 (S.2.2.1 m 16)) (u2.2.2.2.1 (S.2.2.1 m 17)) (u2.2.2.2.1 (S.2.2.1 m 12)) (u2.2.2.2.1 (S.2.2.1 m 13)) (u1.2.2.2.1 (S.2.2.1 m 33)) (u1.2.2.2.1 (S.2.2.1 m 34)) (u1.2.2.2.1 (S.2.2.1 m 35)) (u1.2.2.2.1 (S.2.2.1 m 30)) (u1.2.2.2.1 (S.2.2.1 m 31))))) : r = r2 ∧ zR5 S u2 q m := by
  obtain ⟨a, b⟩ := zR4.back h.1 hMI1 hPo hSh hq hkq hm hkm hnk hg1 hg2 hf x1.1 x2.1
  exact ⟨a, b, h.2.back hPo h.1.1.1.2.1 hSh hq hkq hm hkm hMI hnk hg1 (by decide) hg2 (by decide) x1.1.1.2.2 x1.2 x2.2⟩
set_option maxHeartbeats 1000000 in
theorem zR5.as  (h : zR5 S d q m) (hPo : yPo S d) (hSh : ySh S) (hq : q ∈ S.1) (hkq : S.2.1 q = 8) (hm : m ∈ S.1) (hkm : S.2.1 m = 9) (hMI : yMI S d m) (hMI1 : yMI S u1 m) (hnk : S.2.2.1 q 0 ≠ S.2.2.1 q 1) (hg1 : yAg S [3, 5, 7, 8, 10, 11, 12, 13, 14, 15, 22, 23, 24] d u1) (hg2 : yAg S [9, 69, 74, 75, 77, 78] u1 u2) (hf : yK [38, 49, 50, 51, 52, 53, 54, 55, 57, 62, 63, 64, 65] u1 u2 m) (x1 : ((∀ i, i < 6 → ∀ k, k < 2400 → u1.2.2.2.1 (S.2.2.1 (S.2.2.1 (S.2.2.1 q 0) 0) i) k = d.2.2.2.1 (S.2.2.1 (S.2.2.1 (S.2.2.1 q 0) 0) i) k) ∧ ∀ t, t ∈ S.1 → S.2.1 t = 6 → t ≠ S.2.2.1 (S.2.2.1 q 0) 0 → ∀ i, i < 6 → u1.2.2.2.1 (S.2.2.1 t i) = d.2.2.2.1 (S.2.2.1 t i)) ∧ u1.1 q 4 = d.1 q 4) (x2 : yMI S u2 m) : zR5 S u2 q m := by
  exact ⟨zR4.as h.1 hMI1 hPo hSh hq hkq hm hkm hnk hg1 hg2 hf x1 x2, h.2.gen hSh hq hkq hm hkm hg1 (by decide) (by decide) hg2 (by decide) (by decide) x1.2 hf (by decide)⟩
end ZEV5
