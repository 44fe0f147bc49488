def zR (S : yS) (d : yD) (q m : Nat) : Prop := yR S d q m ∧ yR2 S d q m
section ZR3
variable {S : yS} {d u1 u2 : yD} {q m : Nat} {M M' F : List Nat}
theorem zR.gen (h : zR S d q m) (hSh : ySh S) (hq : q ∈ S.1) (hkq : S.2.1 q = 8) (hm : m ∈ S.1) (hkm : S.2.1 m = 9) (hg1 : yAg S M d u1) (hM : (6 ∉ M ∧ 9 ∉ M ∧ 51 ∉ M) ∧ (9 ∉ M ∧ 41 ∉ M ∧ 51 ∉ M ∧ 59 ∉ M) ∧ 1 ∉ M ∧ 4 ∉ M) (hi : u1.1 q 4 = d.1 q 4) (hg2 : yAg S M' u1 u2) (hM' : (8 ∉ M' ∧ 6 ∉ M' ∧ 51 ∉ M') ∧ (1 ∉ M' ∧ 4 ∉ M' ∧ 8 ∉ M' ∧ 51 ∉ M' ∧ 59 ∉ M') ∧ 41 ∉ M') (hf : yK F u1 u2 m) (hF : (0 ∉ F ∧ 20 ∉ F) ∧ 2 ∉ F ∧ 3 ∉ F) : zR S u2 q m := by
  have k11 := (ySh.f9_11 hSh m hm hkm).2
  exact ⟨h.1.gen hSh hq hkq hm hkm hg1 hM.1 hi hg2 hM'.1 hf hF.1, h.2.gen hSh hq hkq hm hkm hg1 hM.2.1 hg2 hM'.2.1 hi (fun a ha => (hg1 a (by rw [ha]; exact hM.2.2.1)).1) (fun a ha => yf42 (yAg.o hg1 (a := a) (by rw [ha]; exact hM.2.2.2))) (hf 2 hF.2.1) (hf 3 hF.2.2) (zPf.eq (hg2 _ (by rw [k11]; exact hM'.2.2)).2.2.2.2)⟩
/-- together: the groups are none of this -/
theorem zR.tog (h : zR S d q m) (hSh : ySh S) (hq : q ∈ S.1) (hkq : S.2.1 q = 8) (hm : m ∈ S.1) (hkm : S.2.1 m = 9) (hg1 : yAg S M d u1) (hM : (6 ∉ M ∧ 9 ∉ M ∧ 51 ∉ M) ∧ (9 ∉ M ∧ 41 ∉ M ∧ 51 ∉ M ∧ 59 ∉ M) ∧ 1 ∉ M ∧ 4 ∉ M) (hi : u1.1 q 4 = d.1 q 4) (hg2 : yAg S M' u1 u2) (hM' : (8 ∉ M' ∧ 6 ∉ M' ∧ 51 ∉ M') ∧ (1 ∉ M' ∧ 4 ∉ M' ∧ 8 ∉ M' ∧ 51 ∉ M' ∧ 59 ∉ M')) (hf : yK F u1 u2 m) (hF : (0 ∉ F ∧ 20 ∉ F) ∧ 2 ∉ F ∧ 3 ∉ F) (gp : zPf S u1 u2 m (fun _ => False)) : zR S u2 q m :=
  ⟨h.1.gen hSh hq hkq hm hkm hg1 hM.1 hi hg2 hM'.1 hf hF.1, h.2.gen hSh hq hkq hm hkm hg1 hM.2.1 hg2 hM'.2 hi (fun a ha => (hg1 a (by rw [ha]; exact hM.2.2.1)).1) (fun a ha => yf42 (yAg.o hg1 (a := a) (by rw [ha]; exact hM.2.2.2))) (hf 2 hF.2.1) (hf 3 hF.2.2) gp⟩
theorem zR.ini (h : zIni S d) (hSh : ySh S) (hq : q ∈ S.1) (hkq : S.2.1 q = 8) (hm : m ∈ S.1) (hkm : S.2.1 m = 9) : zR S d q m := ⟨yR.ini h hSh hq hkq hm hkm, yR2.ini h hSh hq hkq hm hkm⟩
set_option maxHeartbeats 1000000 in
theorem zR.close {p0 : Int32} {r r2 : Int32} (h : zR S d q m) (hPo : yPo S d) (hSh : ySh S) (hq : q ∈ S.1) (hkq : S.2.1 q = 8) (hm : m ∈ S.1) (hkm : S.2.1 m = 9) (hnk : S.2.2.1 q 0 ≠ S.2.2.1 q 1) (hg1 : yAg S [0, 2, 4, 8, 16, 24] d u1) (hg2 : yAg S [9, 41, 45, 46, 47, 69] u1 u2) (hf : yK [1, 38] u1 u2 m) (x1 : ((r.toInt = 0 ∧ ¬ (0 ≤ p0.toInt ∧ p0.toInt ≤ 7 ∧ 0 < (d.1 (yPA S (S.2.2.1 q 0) p0) 2).toInt) ∧ zKp S 4 d u1) ∨ (r.toInt = 1 ∧ (0 ≤ p0.toInt ∧ p0.toInt ≤ 7 ∧ 0 < (d.1 (yPA S (S.2.2.1 q 0) p0) 2).toInt) ∧ u1.1 (yPA S (S.2.2.1 q 0) p0) 2 = 0 ∧ u1.1 (yPA S (S.2.2.1 q 0) p0) 3 = d.1 (yPA S (S.2.2.1 q 0) p0) 3 ∧ ∀ a, S.2.1 a = 4 → a ≠ (yPA S (S.2.2.1 q 0) p0) → u1.1 a = d.1 a ∧ u1.2.1 a = d.2.1 a)) ∧ u1.1 q 4 = d.1 q 4) (x2 : yMI S u2 m ∧ ((r2.toInt = 0 ∧ ¬ (0 ≤ p0.toInt ∧ p0.toInt ≤ 7 ∧ yOI S u1 m p0.toInt.toNat = 1) ∧ zPf S u1 u2 m (fun _ => False)) ∨ (r2.toInt = 1 ∧ (0 ≤ p0.toInt ∧ p0.toInt ≤ 7 ∧ yOI S u1 m p0.toInt.toNat = 1) ∧ u2.2.2.2.2 (S.2.2.1 m 11) (12 * p0.toInt.toNat) = 0 ∧ zPf S u1 u2 m (fun i => i = 12 * p0.toInt.toNat)))) : r = r2 ∧ zR S u2 q m := by
  obtain ⟨hA, hB⟩ := h
  obtain ⟨x1, hi⟩ := x1
  obtain ⟨-, x2⟩ := x2
  have k11 := (ySh.f9_11 hSh m hm hkm).2
  have e11 : u1.2.2.2.2 (S.2.2.1 m 11) = d.2.2.2.2 (S.2.2.1 m 11) := (hg1 _ (by rw [k11]; decide)).2.2.2.2
  have em : u1.1 m = d.1 m := (hg1 m (by rw [hkm]; decide)).1
  have hP : zRP S d (S.2.2.1 q 0) (u1.2.2.2.2 (S.2.2.1 m 11)) := by rw [e11]; exact hB.2.1
  have hR1 : yR S u2 q m := yR.gen hA hSh hq hkq hm hkm hg1 (by decide) hi hg2 (by decide) hf (by decide)
  obtain ⟨e, hh⟩ := ans (hP.oi p0) x1 x2
  refine ⟨e, hR1, ?_⟩
  rcases hh with ⟨-, a, b⟩ | ⟨⟨p0h, p7h, -⟩, ⟨a1, a2, a3⟩, b1, b2⟩
  · exact hB.gen hSh hq hkq hm hkm hg1 (by decide) hg2 (by decide) hi (fun a ha => (hg1 a (by rw [ha]; decide)).1) (fun x hx => yf42 (a x hx)) (hf 2 (by decide)) (hf 3 (by decide)) b
  · exact hB.pt hSh hq hkq hm hkm hnk hg1 (by decide) (by decide) hg2 (by decide) hi p0h p7h a3 (hf 2 (by decide)) (hf 3 (by decide)) (fun i e => by have e2 : i = _ := e; omega) b2 (Or.inl ⟨by rw [a1]; decide +kernel, by rw [b1]; decide +kernel⟩)
set_option maxHeartbeats 1000000 in
theorem zR.port {p0 : Int32} {p1 : Int32} {p2 : Int32} {r r2 : Int32} (h : zR S d q m) (hPo : yPo S d) (hSh : ySh S) (hq : q ∈ S.1) (hkq : S.2.1 q = 8) (hm : m ∈ S.1) (hkm : S.2.1 m = 9) (hnk : S.2.2.1 q 0 ≠ S.2.2.1 q 1) (hg1 : yAg S [0, 2, 4, 8, 16, 20, 21, 24] d u1) (hg2 : yAg S [9, 41, 42, 43, 44, 45, 46, 47, 69] u1 u2) (hf : yK [1, 38] u1 u2 m) (x1 : ((r.toInt = 0 ∧ ¬ (0 ≤ p0.toInt ∧ p0.toInt ≤ 7 ∧ 0 ≤ p1.toInt ∧ p1.toInt ≤ 39 ∧ p1.toInt < (d.1 (S.2.2.1 (S.2.2.1 q 0) 0) 6).toInt ∧ 1 ≤ p2.toInt ∧ p2.toInt ≤ 90) ∧ zKp S 4 d u1) ∨ (r.toInt = 1 ∧ (0 ≤ p0.toInt ∧ p0.toInt ≤ 7 ∧ 0 ≤ p1.toInt ∧ p1.toInt ≤ 39 ∧ p1.toInt < (d.1 (S.2.2.1 (S.2.2.1 q 0) 0) 6).toInt ∧ 1 ≤ p2.toInt ∧ p2.toInt ≤ 90) ∧ u1.1 (yPA S (S.2.2.1 q 0) p0) 2 = p2 ∧ u1.1 (yPA S (S.2.2.1 q 0) p0) 3 = p1 ∧ u1.2.1 (yPA S (S.2.2.1 q 0) p0) 8 = 0 ∧ ∀ a, S.2.1 a = 4 → a ≠ (yPA S (S.2.2.1 q 0) p0) → u1.1 a = d.1 a ∧ u1.2.1 a = d.2.1 a)) ∧ u1.1 q 4 = d.1 q 4) (x2 : yMI S u2 m ∧ ((r2.toInt = 0 ∧ ¬ (0 ≤ p0.toInt ∧ p0.toInt ≤ 7 ∧ 1 ≤ p2.toInt ∧ p2.toInt ≤ 90 ∧ 0 ≤ p1.toInt ∧ p1.toInt ≤ 39 ∧ p1.toInt < (u1.1 m 0).toInt) ∧ zPf S u1 u2 m (fun _ => False)) ∨ (r2.toInt = 1 ∧ (0 ≤ p0.toInt ∧ p0.toInt ≤ 7 ∧ 1 ≤ p2.toInt ∧ p2.toInt ≤ 90 ∧ 0 ≤ p1.toInt ∧ p1.toInt ≤ 39 ∧ p1.toInt < (u1.1 m 0).toInt) ∧ u2.2.2.2.2 (S.2.2.1 m 11) (12 * p0.toInt.toNat) = 1 ∧ u2.2.2.2.2 (S.2.2.1 m 11) (12 * p0.toInt.toNat + 2) = p2.toInt64 ∧ u2.2.2.2.2 (S.2.2.1 m 11) (12 * p0.toInt.toNat + 3) = 0 ∧ zPf S u1 u2 m (fun i => i / 12 = p0.toInt.toNat)))) : r = r2 ∧ zR S u2 q m := by
  obtain ⟨hA, hB⟩ := h
  obtain ⟨x1, hi⟩ := x1
  obtain ⟨-, x2⟩ := x2
  have k11 := (ySh.f9_11 hSh m hm hkm).2
  have e11 : u1.2.2.2.2 (S.2.2.1 m 11) = d.2.2.2.2 (S.2.2.1 m 11) := (hg1 _ (by rw [k11]; decide)).2.2.2.2
  have em : u1.1 m = d.1 m := (hg1 m (by rw [hkm]; decide)).1
  have hP : zRP S d (S.2.2.1 q 0) (u1.2.2.2.2 (S.2.2.1 m 11)) := by rw [e11]; exact hB.2.1
  have hR1 : yR S u2 q m := yR.gen hA hSh hq hkq hm hkm hg1 (by decide) hi hg2 (by decide) hf (by decide)
  have hn : d.1 (S.2.2.1 (S.2.2.1 q 0) 0) 6 = u1.1 m 0 := by rw [em]; exact hA.1
  rw [hn] at x1
  obtain ⟨e, hh⟩ := ans (C2 := 0 ≤ p0.toInt ∧ p0.toInt ≤ 7 ∧ 1 ≤ p2.toInt ∧ p2.toInt ≤ 90 ∧ 0 ≤ p1.toInt ∧ p1.toInt ≤ 39 ∧ p1.toInt < (u1.1 m 0).toInt) (by constructor <;> (intro w; omega)) x1 x2
  refine ⟨e, hR1, ?_⟩
  rcases hh with ⟨-, a, b⟩ | ⟨⟨p0h, p7h, -, -, -, d0, d9⟩, ⟨a1, a2, a3, a4⟩, b1, b2, b3, b4⟩
  · exact hB.gen hSh hq hkq hm hkm hg1 (by decide) hg2 (by decide) hi (fun a ha => (hg1 a (by rw [ha]; decide)).1) (fun x hx => yf42 (a x hx)) (hf 2 (by decide)) (hf 3 (by decide)) b
  · exact hB.pt hSh hq hkq hm hkm hnk hg1 (by decide) (by decide) hg2 (by decide) hi p0h p7h a4 (hf 2 (by decide)) (hf 3 (by decide)) (fun i e => e) b4 (Or.inr ⟨by rw [a1]; omega, by rw [a1]; omega, b1, by rw [a1]; exact b2, by rw [a3, b3]⟩)
set_option maxHeartbeats 1000000 in
theorem zR.day {p0 : Int32} {p1 : Int32} {r r2 : Int32} (h : zR S d q m) (hPo : yPo S d) (hSh : ySh S) (hq : q ∈ S.1) (hkq : S.2.1 q = 8) (hm : m ∈ S.1) (hkm : S.2.1 m = 9) (hnk : S.2.2.1 q 0 ≠ S.2.2.1 q 1) (hg1 : yAg S [2, 8, 16, 20, 24] d u1) (hg2 : yAg S [9, 42, 43, 45, 46, 47, 69] u1 u2) (hf : yK [1, 38] u1 u2 m) (x1 : ((r.toInt = 0 ∧ ¬ (0 ≤ p0.toInt ∧ p0.toInt ≤ 7 ∧ 0 < (d.1 (yPA S (S.2.2.1 q 0) p0) 2).toInt ∧ 0 ≤ p1.toInt ∧ p1.toInt ≤ 89 ∧ p1.toInt < (d.1 (yPA S (S.2.2.1 q 0) p0) 2).toInt)) ∨ (r.toInt = 1 ∧ (0 ≤ p0.toInt ∧ p0.toInt ≤ 7 ∧ 0 < (d.1 (yPA S (S.2.2.1 q 0) p0) 2).toInt ∧ 0 ≤ p1.toInt ∧ p1.toInt ≤ 89 ∧ p1.toInt < (d.1 (yPA S (S.2.2.1 q 0) p0) 2).toInt))) ∧ u1.1 q 4 = d.1 q 4) (x2 : yMI S u2 m ∧ ((r2.toInt = 0 ∧ ¬ (0 ≤ p0.toInt ∧ p0.toInt ≤ 7 ∧ yOI S u1 m p0.toInt.toNat = 1 ∧ 0 ≤ p1.toInt ∧ p1.toInt < yOf S u1 m p0.toInt.toNat 2)) ∨ (r2.toInt = 1 ∧ (0 ≤ p0.toInt ∧ p0.toInt ≤ 7 ∧ yOI S u1 m p0.toInt.toNat = 1 ∧ 0 ≤ p1.toInt ∧ p1.toInt < yOf S u1 m p0.toInt.toNat 2)))) : r = r2 ∧ zR S u2 q m := by
  obtain ⟨hA, hB⟩ := h
  obtain ⟨x1, hi⟩ := x1
  obtain ⟨-, x2⟩ := x2
  have k11 := (ySh.f9_11 hSh m hm hkm).2
  have e11 : u1.2.2.2.2 (S.2.2.1 m 11) = d.2.2.2.2 (S.2.2.1 m 11) := (hg1 _ (by rw [k11]; decide)).2.2.2.2
  have em : u1.1 m = d.1 m := (hg1 m (by rw [hkm]; decide)).1
  have hP : zRP S d (S.2.2.1 q 0) (u1.2.2.2.2 (S.2.2.1 m 11)) := by rw [e11]; exact hB.2.1
  have hR1 : yR S u2 q m := yR.gen hA hSh hq hkq hm hkm hg1 (by decide) hi hg2 (by decide) hf (by decide)
  have hC : (0 ≤ p0.toInt ∧ p0.toInt ≤ 7 ∧ 0 < (d.1 (yPA S (S.2.2.1 q 0) p0) 2).toInt ∧ 0 ≤ p1.toInt ∧ p1.toInt ≤ 89 ∧ p1.toInt < (d.1 (yPA S (S.2.2.1 q 0) p0) 2).toInt) ↔ (0 ≤ p0.toInt ∧ p0.toInt ≤ 7 ∧ yOI S u1 m p0.toInt.toNat = 1 ∧ 0 ≤ p1.toInt ∧ p1.toInt < yOf S u1 m p0.toInt.toNat 2) := by
    have o := hP.oi p0
    constructor
    · rintro ⟨a, b, c, w⟩
      have g := hP.of a b c
      exact ⟨a, b, (o.mp ⟨a, b, c⟩).2.2, by omega⟩
    · rintro ⟨a, b, c, w⟩
      have c2 := (o.mpr ⟨a, b, c⟩).2.2
      have h90 : (d.1 (yPA S (S.2.2.1 q 0) p0) 2).toInt ≤ 90 := by
        rcases hP p0 a b with ⟨x, -⟩ | ⟨-, x, -⟩
        · exact absurd c2 x
        · exact x
      have g := hP.of a b c2
      exact ⟨a, b, c2, by omega⟩
  exact ⟨ans0 hC x1 x2, hR1, hB.gen hSh hq hkq hm hkm hg1 (by decide) hg2 (by decide) hi (fun a ha => (hg1 a (by rw [ha]; decide)).1) (fun a ha => yf42 (yAg.o hg1 (a := a) (by rw [ha]; decide))) (hf 2 (by decide)) (hf 3 (by decide)) (zPf.eq (hg2 _ (by rw [k11]; decide)).2.2.2.2)⟩
set_option maxHeartbeats 1000000 in
theorem zR.tons {p0 : Int32} {p1 : Int64} {r r2 : Int32} (h : zR S d q m) (hPo : yPo S d) (hSh : ySh S) (hq : q ∈ S.1) (hkq : S.2.1 q = 8) (hm : m ∈ S.1) (hkm : S.2.1 m = 9) (hnk : S.2.2.1 q 0 ≠ S.2.2.1 q 1) (hg1 : yAg S [4, 8, 24] d u1) (hg2 : yAg S [9, 41, 69] u1 u2) (hf : yK [38] u1 u2 m) (x1 : ((r.toInt = 0 ∧ ¬ (0 ≤ p0.toInt ∧ p0.toInt ≤ 7 ∧ 0 < (d.1 (yPA S (S.2.2.1 q 0) p0) 2).toInt ∧ 0 ≤ p1.toInt ∧ p1.toInt ≤ 100000000) ∧ zKp S 4 d u1) ∨ (r.toInt = 1 ∧ (0 ≤ p0.toInt ∧ p0.toInt ≤ 7 ∧ 0 < (d.1 (yPA S (S.2.2.1 q 0) p0) 2).toInt ∧ 0 ≤ p1.toInt ∧ p1.toInt ≤ 100000000) ∧ u1.2.1 (yPA S (S.2.2.1 q 0) p0) 8 = p1 ∧ (∀ a, S.2.1 a = 4 → u1.1 a = d.1 a) ∧ ∀ a, S.2.1 a = 4 → a ≠ (yPA S (S.2.2.1 q 0) p0) → u1.1 a = d.1 a ∧ u1.2.1 a = d.2.1 a)) ∧ u1.1 q 4 = d.1 q 4) (x2 : yMI S u2 m ∧ ((r2.toInt = 0 ∧ ¬ (0 ≤ p0.toInt ∧ p0.toInt ≤ 7 ∧ yOI S u1 m p0.toInt.toNat = 1 ∧ 0 ≤ p1.toInt ∧ p1.toInt ≤ 100000000) ∧ zPf S u1 u2 m (fun _ => False)) ∨ (r2.toInt = 1 ∧ (0 ≤ p0.toInt ∧ p0.toInt ≤ 7 ∧ yOI S u1 m p0.toInt.toNat = 1 ∧ 0 ≤ p1.toInt ∧ p1.toInt ≤ 100000000) ∧ u2.2.2.2.2 (S.2.2.1 m 11) (12 * p0.toInt.toNat + 3) = p1 ∧ zPf S u1 u2 m (fun i => i = 12 * p0.toInt.toNat + 3)))) : r = r2 ∧ zR S u2 q m := by
  obtain ⟨hA, hB⟩ := h
  obtain ⟨x1, hi⟩ := x1
  obtain ⟨-, x2⟩ := x2
  have k11 := (ySh.f9_11 hSh m hm hkm).2
  have e11 : u1.2.2.2.2 (S.2.2.1 m 11) = d.2.2.2.2 (S.2.2.1 m 11) := (hg1 _ (by rw [k11]; decide)).2.2.2.2
  have em : u1.1 m = d.1 m := (hg1 m (by rw [hkm]; decide)).1
  have hP : zRP S d (S.2.2.1 q 0) (u1.2.2.2.2 (S.2.2.1 m 11)) := by rw [e11]; exact hB.2.1
  have hR1 : yR S u2 q m := yR.gen hA hSh hq hkq hm hkm hg1 (by decide) hi hg2 (by decide) hf (by decide)
  have hC : (0 ≤ p0.toInt ∧ p0.toInt ≤ 7 ∧ 0 < (d.1 (yPA S (S.2.2.1 q 0) p0) 2).toInt ∧ 0 ≤ p1.toInt ∧ p1.toInt ≤ 100000000) ↔ (0 ≤ p0.toInt ∧ p0.toInt ≤ 7 ∧ yOI S u1 m p0.toInt.toNat = 1 ∧ 0 ≤ p1.toInt ∧ p1.toInt ≤ 100000000) := by
    have o := hP.oi p0
    constructor
    · rintro ⟨a, b, c, w⟩
      exact ⟨a, b, (o.mp ⟨a, b, c⟩).2.2, w⟩
    · rintro ⟨a, b, c, w⟩
      exact ⟨a, b, (o.mpr ⟨a, b, c⟩).2.2, w⟩
  obtain ⟨e, hh⟩ := ans hC x1 x2
  refine ⟨e, hR1, ?_⟩
  rcases hh with ⟨-, a, b⟩ | ⟨⟨p0h, p7h, hd, -⟩, ⟨a1, a2, a3⟩, b1, b2⟩
  · exact hB.gen hSh hq hkq hm hkm hg1 (by decide) hg2 (by decide) hi (fun a ha => (hg1 a (by rw [ha]; decide)).1) (fun x hx => yf42 (a x hx)) (hf 2 (by decide)) (hf 3 (by decide)) b
  · obtain ⟨q1, q2⟩ := (yB0 hSh hq hkq).1
    have kp := (yPA_in hSh q1 q2 p0h p7h).2.2.1
    refine hB.pt hSh hq hkq hm hkm hnk hg1 (by decide) (by decide) hg2 (by decide) hi p0h p7h a3 (hf 2 (by decide)) (hf 3 (by decide)) (fun i e => by have e2 : i = _ := e; omega) b2 ?_
    rw [a1, b1, a2 _ kp, b2 _ (by omega) (fun e => by have e2 : 12 * p0.toInt.toNat = 12 * p0.toInt.toNat + 3 := e; omega), b2 (12 * p0.toInt.toNat + 2) (by omega) (fun e => by have e2 : 12 * p0.toInt.toNat + 2 = 12 * p0.toInt.toNat + 3 := e; omega)]
    rcases hP p0 p0h p7h with ⟨x, -⟩ | ⟨x1, x2, x3, x4, -⟩
    · exact absurd hd x
    · exact Or.inr ⟨x1, x2, x3, x4, rfl⟩
set_option maxHeartbeats 1000000 in
theorem zR.office {p0 : Int32} {p1 : Int32} {p2 : Int32} {p3 : Int32} {r r2 : Int32} (h : zR S d q m) (hPo : yPo S d) (hSh : ySh S) (hq : q ∈ S.1) (hkq : S.2.1 q = 8) (hm : m ∈ S.1) (hkm : S.2.1 m = 9) (hnk : S.2.2.1 q 0 ≠ S.2.2.1 q 1) (hg1 : yAg S [4, 8, 24] d u1) (hg2 : yAg S [9, 41, 69] u1 u2) (hf : yK [38] u1 u2 m) (x1 : ((r.toInt = 0 ∧ ¬ (0 ≤ p0.toInt ∧ p0.toInt ≤ 7 ∧ 0 < (d.1 (yPA S (S.2.2.1 q 0) p0) 2).toInt ∧ 0 ≤ p1.toInt ∧ p1.toInt ≤ 1440 ∧ 0 ≤ p2.toInt ∧ p2.toInt ≤ 1440 ∧ 0 ≤ p3.toInt ∧ p3.toInt ≤ 100000) ∧ ∀ a, S.2.1 a = 4 → u1.1 a 2 = d.1 a 2 ∧ u1.1 a 3 = d.1 a 3 ∧ u1.2.1 a 8 = d.2.1 a 8) ∨ (r.toInt = 1 ∧ (0 ≤ p0.toInt ∧ p0.toInt ≤ 7 ∧ 0 < (d.1 (yPA S (S.2.2.1 q 0) p0) 2).toInt ∧ 0 ≤ p1.toInt ∧ p1.toInt ≤ 1440 ∧ 0 ≤ p2.toInt ∧ p2.toInt ≤ 1440 ∧ 0 ≤ p3.toInt ∧ p3.toInt ≤ 100000) ∧ ∀ a, S.2.1 a = 4 → u1.1 a 2 = d.1 a 2 ∧ u1.1 a 3 = d.1 a 3 ∧ u1.2.1 a 8 = d.2.1 a 8)) ∧ u1.1 q 4 = d.1 q 4) (x2 : yMI S u2 m ∧ ((r2.toInt = 0 ∧ ¬ (0 ≤ p0.toInt ∧ p0.toInt ≤ 7 ∧ yOI S u1 m p0.toInt.toNat = 1 ∧ 0 ≤ p1.toInt ∧ p1.toInt ≤ 1440 ∧ 0 ≤ p2.toInt ∧ p2.toInt ≤ 1440 ∧ 0 ≤ p3.toInt ∧ p3.toInt ≤ 100000) ∧ zPf S u1 u2 m (fun _ => False)) ∨ (r2.toInt = 1 ∧ (0 ≤ p0.toInt ∧ p0.toInt ≤ 7 ∧ yOI S u1 m p0.toInt.toNat = 1 ∧ 0 ≤ p1.toInt ∧ p1.toInt ≤ 1440 ∧ 0 ≤ p2.toInt ∧ p2.toInt ≤ 1440 ∧ 0 ≤ p3.toInt ∧ p3.toInt ≤ 100000) ∧ zPf S u1 u2 m (fun _ => False)))) : r = r2 ∧ zR S u2 q m := by
  obtain ⟨hA, hB⟩ := h
  obtain ⟨x1, hi⟩ := x1
  obtain ⟨-, x2⟩ := x2
  have k11 := (ySh.f9_11 hSh m hm hkm).2
  have e11 : u1.2.2.2.2 (S.2.2.1 m 11) = d.2.2.2.2 (S.2.2.1 m 11) := (hg1 _ (by rw [k11]; decide)).2.2.2.2
  have em : u1.1 m = d.1 m := (hg1 m (by rw [hkm]; decide)).1
  have hP : zRP S d (S.2.2.1 q 0) (u1.2.2.2.2 (S.2.2.1 m 11)) := by rw [e11]; exact hB.2.1
  have hR1 : yR S u2 q m := yR.gen hA hSh hq hkq hm hkm hg1 (by decide) hi hg2 (by decide) hf (by decide)
  have hC : (0 ≤ p0.toInt ∧ p0.toInt ≤ 7 ∧ 0 < (d.1 (yPA S (S.2.2.1 q 0) p0) 2).toInt ∧ 0 ≤ p1.toInt ∧ p1.toInt ≤ 1440 ∧ 0 ≤ p2.toInt ∧ p2.toInt ≤ 1440 ∧ 0 ≤ p3.toInt ∧ p3.toInt ≤ 100000) ↔ (0 ≤ p0.toInt ∧ p0.toInt ≤ 7 ∧ yOI S u1 m p0.toInt.toNat = 1 ∧ 0 ≤ p1.toInt ∧ p1.toInt ≤ 1440 ∧ 0 ≤ p2.toInt ∧ p2.toInt ≤ 1440 ∧ 0 ≤ p3.toInt ∧ p3.toInt ≤ 100000) := by
    have o := hP.oi p0
    constructor
    · rintro ⟨a, b, c, w⟩
      exact ⟨a, b, (o.mp ⟨a, b, c⟩).2.2, w⟩
    · rintro ⟨a, b, c, w⟩
      exact ⟨a, b, (o.mpr ⟨a, b, c⟩).2.2, w⟩
  obtain ⟨e, hh⟩ := ans hC x1 x2
  refine ⟨e, hR1, ?_⟩
  rcases hh with ⟨-, a, b⟩ | ⟨-, a, b⟩
  · exact hB.gen hSh hq hkq hm hkm hg1 (by decide) hg2 (by decide) hi (fun a ha => (hg1 a (by rw [ha]; decide)).1) a (hf 2 (by decide)) (hf 3 (by decide)) b
  · exact hB.gen hSh hq hkq hm hkm hg1 (by decide) hg2 (by decide) hi (fun a ha => (hg1 a (by rw [ha]; decide)).1) a (hf 2 (by decide)) (hf 3 (by decide)) b
set_option maxHeartbeats 1000000 in
theorem zR.offset {p0 : Int32} {p1 : Int32} {r r2 : Int32} (h : zR S d q m) (hPo : yPo S d) (hSh : ySh S) (hq : q ∈ S.1) (hkq : S.2.1 q = 8) (hm : m ∈ S.1) (hkm : S.2.1 m = 9) (hnk : S.2.2.1 q 0 ≠ S.2.2.1 q 1) (hg1 : yAg S [4, 8, 24] d u1) (hg2 : yAg S [9, 41, 69] u1 u2) (hf : yK [38] u1 u2 m) (x1 : ((r.toInt = 0 ∧ ¬ (0 ≤ p0.toInt ∧ p0.toInt ≤ 7 ∧ 0 < (d.1 (yPA S (S.2.2.1 q 0) p0) 2).toInt ∧ 0 ≤ p1.toInt ∧ p1.toInt ≤ 1000000) ∧ ∀ a, S.2.1 a = 4 → u1.1 a 2 = d.1 a 2 ∧ u1.1 a 3 = d.1 a 3 ∧ u1.2.1 a 8 = d.2.1 a 8) ∨ (r.toInt = 1 ∧ (0 ≤ p0.toInt ∧ p0.toInt ≤ 7 ∧ 0 < (d.1 (yPA S (S.2.2.1 q 0) p0) 2).toInt ∧ 0 ≤ p1.toInt ∧ p1.toInt ≤ 1000000) ∧ ∀ a, S.2.1 a = 4 → u1.1 a 2 = d.1 a 2 ∧ u1.1 a 3 = d.1 a 3 ∧ u1.2.1 a 8 = d.2.1 a 8)) ∧ u1.1 q 4 = d.1 q 4) (x2 : yMI S u2 m ∧ ((r2.toInt = 0 ∧ ¬ (0 ≤ p0.toInt ∧ p0.toInt ≤ 7 ∧ yOI S u1 m p0.toInt.toNat = 1 ∧ 0 ≤ p1.toInt ∧ p1.toInt ≤ 1000000) ∧ zPf S u1 u2 m (fun _ => False)) ∨ (r2.toInt = 1 ∧ (0 ≤ p0.toInt ∧ p0.toInt ≤ 7 ∧ yOI S u1 m p0.toInt.toNat = 1 ∧ 0 ≤ p1.toInt ∧ p1.toInt ≤ 1000000) ∧ zPf S u1 u2 m (fun _ => False)))) : r = r2 ∧ zR S u2 q m := by
  obtain ⟨hA, hB⟩ := h
  obtain ⟨x1, hi⟩ := x1
  obtain ⟨-, x2⟩ := x2
  have k11 := (ySh.f9_11 hSh m hm hkm).2
  have e11 : u1.2.2.2.2 (S.2.2.1 m 11) = d.2.2.2.2 (S.2.2.1 m 11) := (hg1 _ (by rw [k11]; decide)).2.2.2.2
  have em : u1.1 m = d.1 m := (hg1 m (by rw [hkm]; decide)).1
  have hP : zRP S d (S.2.2.1 q 0) (u1.2.2.2.2 (S.2.2.1 m 11)) := by rw [e11]; exact hB.2.1
  have hR1 : yR S u2 q m := yR.gen hA hSh hq hkq hm hkm hg1 (by decide) hi hg2 (by decide) hf (by decide)
  have hC : (0 ≤ p0.toInt ∧ p0.toInt ≤ 7 ∧ 0 < (d.1 (yPA S (S.2.2.1 q 0) p0) 2).toInt ∧ 0 ≤ p1.toInt ∧ p1.toInt ≤ 1000000) ↔ (0 ≤ p0.toInt ∧ p0.toInt ≤ 7 ∧ yOI S u1 m p0.toInt.toNat = 1 ∧ 0 ≤ p1.toInt ∧ p1.toInt ≤ 1000000) := by
    have o := hP.oi p0
    constructor
    · rintro ⟨a, b, c, w⟩
      exact ⟨a, b, (o.mp ⟨a, b, c⟩).2.2, w⟩
    · rintro ⟨a, b, c, w⟩
      exact ⟨a, b, (o.mpr ⟨a, b, c⟩).2.2, w⟩
  obtain ⟨e, hh⟩ := ans hC x1 x2
  refine ⟨e, hR1, ?_⟩
  rcases hh with ⟨-, a, b⟩ | ⟨-, a, b⟩
  · exact hB.gen hSh hq hkq hm hkm hg1 (by decide) hg2 (by decide) hi (fun a ha => (hg1 a (by rw [ha]; decide)).1) a (hf 2 (by decide)) (hf 3 (by decide)) b
  · exact hB.gen hSh hq hkq hm hkm hg1 (by decide) hg2 (by decide) hi (fun a ha => (hg1 a (by rw [ha]; decide)).1) a (hf 2 (by decide)) (hf 3 (by decide)) b
set_option maxHeartbeats 1000000 in
theorem zR.rate {p0 : Int32} {p1 : Int64} {p2 : Int64} {r r2 : Int32} (h : zR S d q m) (hPo : yPo S d) (hSh : ySh S) (hq : q ∈ S.1) (hkq : S.2.1 q = 8) (hm : m ∈ S.1) (hkm : S.2.1 m = 9) (hnk : S.2.2.1 q 0 ≠ S.2.2.1 q 1) (hg1 : yAg S [4, 8, 24] d u1) (hg2 : yAg S [9, 41, 69] u1 u2) (hf : yK [38] u1 u2 m) (x1 : ((r.toInt = 0 ∧ ¬ (0 ≤ p0.toInt ∧ p0.toInt ≤ 7 ∧ 0 < (d.1 (yPA S (S.2.2.1 q 0) p0) 2).toInt ∧ 0 ≤ p1.toInt ∧ p1.toInt ≤ 1000000000 ∧ 0 ≤ p2.toInt ∧ p2.toInt ≤ 1000000000) ∧ ∀ a, S.2.1 a = 4 → u1.1 a 2 = d.1 a 2 ∧ u1.1 a 3 = d.1 a 3 ∧ u1.2.1 a 8 = d.2.1 a 8) ∨ (r.toInt = 1 ∧ (0 ≤ p0.toInt ∧ p0.toInt ≤ 7 ∧ 0 < (d.1 (yPA S (S.2.2.1 q 0) p0) 2).toInt ∧ 0 ≤ p1.toInt ∧ p1.toInt ≤ 1000000000 ∧ 0 ≤ p2.toInt ∧ p2.toInt ≤ 1000000000) ∧ ∀ a, S.2.1 a = 4 → u1.1 a 2 = d.1 a 2 ∧ u1.1 a 3 = d.1 a 3 ∧ u1.2.1 a 8 = d.2.1 a 8)) ∧ u1.1 q 4 = d.1 q 4) (x2 : yMI S u2 m ∧ ((r2.toInt = 0 ∧ ¬ (0 ≤ p0.toInt ∧ p0.toInt ≤ 7 ∧ yOI S u1 m p0.toInt.toNat = 1 ∧ 0 ≤ p1.toInt ∧ p1.toInt ≤ 1000000000 ∧ 0 ≤ p2.toInt ∧ p2.toInt ≤ 1000000000) ∧ zPf S u1 u2 m (fun _ => False)) ∨ (r2.toInt = 1 ∧ (0 ≤ p0.toInt ∧ p0.toInt ≤ 7 ∧ yOI S u1 m p0.toInt.toNat = 1 ∧ 0 ≤ p1.toInt ∧ p1.toInt ≤ 1000000000 ∧ 0 ≤ p2.toInt ∧ p2.toInt ≤ 1000000000) ∧ zPf S u1 u2 m (fun _ => False)))) : r = r2 ∧ zR S u2 q m := by
  obtain ⟨hA, hB⟩ := h
  obtain ⟨x1, hi⟩ := x1
  obtain ⟨-, x2⟩ := x2
  have k11 := (ySh.f9_11 hSh m hm hkm).2
  have e11 : u1.2.2.2.2 (S.2.2.1 m 11) = d.2.2.2.2 (S.2.2.1 m 11) := (hg1 _ (by rw [k11]; decide)).2.2.2.2
  have em : u1.1 m = d.1 m := (hg1 m (by rw [hkm]; decide)).1
  have hP : zRP S d (S.2.2.1 q 0) (u1.2.2.2.2 (S.2.2.1 m 11)) := by rw [e11]; exact hB.2.1
  have hR1 : yR S u2 q m := yR.gen hA hSh hq hkq hm hkm hg1 (by decide) hi hg2 (by decide) hf (by decide)
  have hC : (0 ≤ p0.toInt ∧ p0.toInt ≤ 7 ∧ 0 < (d.1 (yPA S (S.2.2.1 q 0) p0) 2).toInt ∧ 0 ≤ p1.toInt ∧ p1.toInt ≤ 1000000000 ∧ 0 ≤ p2.toInt ∧ p2.toInt ≤ 1000000000) ↔ (0 ≤ p0.toInt ∧ p0.toInt ≤ 7 ∧ yOI S u1 m p0.toInt.toNat = 1 ∧ 0 ≤ p1.toInt ∧ p1.toInt ≤ 1000000000 ∧ 0 ≤ p2.toInt ∧ p2.toInt ≤ 1000000000) := by
    have o := hP.oi p0
    constructor
    · rintro ⟨a, b, c, w⟩
      exact ⟨a, b, (o.mp ⟨a, b, c⟩).2.2, w⟩
    · rintro ⟨a, b, c, w⟩
      exact ⟨a, b, (o.mpr ⟨a, b, c⟩).2.2, w⟩
  obtain ⟨e, hh⟩ := ans hC x1 x2
  refine ⟨e, hR1, ?_⟩
  rcases hh with ⟨-, a, b⟩ | ⟨-, a, b⟩
  · exact hB.gen hSh hq hkq hm hkm hg1 (by decide) hg2 (by decide) hi (fun a ha => (hg1 a (by rw [ha]; decide)).1) a (hf 2 (by decide)) (hf 3 (by decide)) b
  · exact hB.gen hSh hq hkq hm hkm hg1 (by decide) hg2 (by decide) hi (fun a ha => (hg1 a (by rw [ha]; decide)).1) a (hf 2 (by decide)) (hf 3 (by decide)) b
set_option maxHeartbeats 1000000 in
theorem zR.weight {p0 : Int32} {p1 : Int32} {r r2 : Int64} (h : zR S d q m) (hPo : yPo S d) (hSh : ySh S) (hq : q ∈ S.1) (hkq : S.2.1 q = 8) (hm : m ∈ S.1) (hkm : S.2.1 m = 9) (hnk : S.2.2.1 q 0 ≠ S.2.2.1 q 1) (hg1 : yAg S [8, 24] d u1) (hg2 : yAg S [9, 69] u1 u2) (hf : yK [38] u1 u2 m) (x1 : ((r = -1 ∧ ¬ (0 ≤ p0.toInt ∧ p0.toInt ≤ 7 ∧ 0 < (d.1 (yPA S (S.2.2.1 q 0) p0) 2).toInt ∧ 0 ≤ p1.toInt ∧ p1.toInt ≤ 1)) ∨ ((0 ≤ p0.toInt ∧ p0.toInt ≤ 7 ∧ 0 < (d.1 (yPA S (S.2.2.1 q 0) p0) 2).toInt ∧ 0 ≤ p1.toInt ∧ p1.toInt ≤ 1) ∧ (p1.toInt = 0 → r = d.2.1 (yPA S (S.2.2.1 q 0) p0) 8 / 1000) ∧ (p1.toInt = 1 → r = d.2.1 (yPA S (S.2.2.1 q 0) p0) 8 - d.2.1 (yPA S (S.2.2.1 q 0) p0) 8 / 1000 * 1000))) ∧ u1.1 q 4 = d.1 q 4) (x2 : yMI S u2 m ∧ ((r2 = -1 ∧ ¬ (0 ≤ p0.toInt ∧ p0.toInt ≤ 7 ∧ yOI S u1 m p0.toInt.toNat = 1 ∧ 0 ≤ p1.toInt ∧ p1.toInt ≤ 1)) ∨ ((0 ≤ p0.toInt ∧ p0.toInt ≤ 7 ∧ yOI S u1 m p0.toInt.toNat = 1 ∧ 0 ≤ p1.toInt ∧ p1.toInt ≤ 1) ∧ (p1.toInt = 0 → r2 = u1.2.2.2.2 (S.2.2.1 m 11) (12 * p0.toInt.toNat + 3) / 1000) ∧ (p1.toInt = 1 → r2 = u1.2.2.2.2 (S.2.2.1 m 11) (12 * p0.toInt.toNat + 3) - u1.2.2.2.2 (S.2.2.1 m 11) (12 * p0.toInt.toNat + 3) / 1000 * 1000)))) : r = r2 ∧ zR S u2 q m := by
  obtain ⟨hA, hB⟩ := h
  obtain ⟨x1, hi⟩ := x1
  obtain ⟨-, x2⟩ := x2
  have k11 := (ySh.f9_11 hSh m hm hkm).2
  have e11 : u1.2.2.2.2 (S.2.2.1 m 11) = d.2.2.2.2 (S.2.2.1 m 11) := (hg1 _ (by rw [k11]; decide)).2.2.2.2
  have em : u1.1 m = d.1 m := (hg1 m (by rw [hkm]; decide)).1
  have hP : zRP S d (S.2.2.1 q 0) (u1.2.2.2.2 (S.2.2.1 m 11)) := by rw [e11]; exact hB.2.1
  have hR1 : yR S u2 q m := yR.gen hA hSh hq hkq hm hkm hg1 (by decide) hi hg2 (by decide) hf (by decide)
  have hC : (0 ≤ p0.toInt ∧ p0.toInt ≤ 7 ∧ 0 < (d.1 (yPA S (S.2.2.1 q 0) p0) 2).toInt ∧ 0 ≤ p1.toInt ∧ p1.toInt ≤ 1) ↔ (0 ≤ p0.toInt ∧ p0.toInt ≤ 7 ∧ yOI S u1 m p0.toInt.toNat = 1 ∧ 0 ≤ p1.toInt ∧ p1.toInt ≤ 1) := by
    have o := hP.oi p0
    constructor
    · rintro ⟨a, b, c, w⟩
      exact ⟨a, b, (o.mp ⟨a, b, c⟩).2.2, w⟩
    · rintro ⟨a, b, c, w⟩
      exact ⟨a, b, (o.mpr ⟨a, b, c⟩).2.2, w⟩
  refine ⟨?_, hR1, hB.gen hSh hq hkq hm hkm hg1 (by decide) hg2 (by decide) hi (fun a ha => (hg1 a (by rw [ha]; decide)).1) (fun a ha => yf42 (yAg.o hg1 (a := a) (by rw [ha]; decide))) (hf 2 (by decide)) (hf 3 (by decide)) (zPf.eq (hg2 _ (by rw [k11]; decide)).2.2.2.2)⟩
  rcases x1 with ⟨a, b⟩ | ⟨b, a0, a1⟩
  · rcases x2 with ⟨a2, b2⟩ | ⟨b2, -, -⟩
    · rw [a, a2]
    · exact absurd (hC.mpr b2) b
  · rcases x2 with ⟨-, b2⟩ | ⟨-, c0, c1⟩
    · exact absurd (hC.mp b) b2
    · obtain ⟨p0h, p7h, hd, w0, w1⟩ := b
      have ht : d.2.1 (yPA S (S.2.2.1 q 0) p0) 8 = u1.2.2.2.2 (S.2.2.1 m 11) (12 * p0.toInt.toNat + 3) := by
        rcases hP p0 p0h p7h with ⟨x, -⟩ | ⟨-, -, -, -, x⟩
        · exact absurd hd x
        · exact x
      rw [ht] at a0 a1
      by_cases z : p1.toInt = 0
      · rw [a0 z, c0 z]
      · have z1 : p1.toInt = 1 := by omega
        rw [a1 z1, c1 z1]
set_option maxHeartbeats 1000000 in
theorem zR.claim {p0 : Int32} {r r2 : Int32} (h : zR S d q m) (hPo : yPo S d) (hSh : ySh S) (hq : q ∈ S.1) (hkq : S.2.1 q = 8) (hm : m ∈ S.1) (hkm : S.2.1 m = 9) (hnk : S.2.2.1 q 0 ≠ S.2.2.1 q 1) (hg1 : yAg S [1, 8, 24] d u1) (hg2 : yAg S [9, 69] u1 u2) (hf : yK [2, 3, 38] u1 u2 m) (x1 : ((r.toInt = 0 ∧ ¬ (0 ≤ p0.toInt ∧ p0.toInt ≤ 7 ∧ 0 < (d.1 (yPA S (S.2.2.1 q 0) p0) 2).toInt) ∧ zKp S 1 d u1) ∨ (r.toInt = 1 ∧ (0 ≤ p0.toInt ∧ p0.toInt ≤ 7 ∧ 0 < (d.1 (yPA S (S.2.2.1 q 0) p0) 2).toInt) ∧ u1.1 (S.2.2.1 (S.2.2.1 q 0) 2) 3 = p0 ∧ u1.1 (S.2.2.1 (S.2.2.1 q 0) 2) 2 = 0 ∧ ∀ a, S.2.1 a = 1 → a ≠ (S.2.2.1 (S.2.2.1 q 0) 2) → u1.1 a = d.1 a ∧ u1.2.1 a = d.2.1 a)) ∧ u1.1 q 4 = d.1 q 4) (x2 : yMI S u2 m ∧ ((r2.toInt = 0 ∧ ¬ (0 ≤ p0.toInt ∧ p0.toInt ≤ 7 ∧ yOI S u1 m p0.toInt.toNat = 1) ∧ u2.1 m 2 = u1.1 m 2 ∧ u2.1 m 3 = u1.1 m 3) ∨ (r2.toInt = 1 ∧ (0 ≤ p0.toInt ∧ p0.toInt ≤ 7 ∧ yOI S u1 m p0.toInt.toNat = 1) ∧ u2.1 m 3 = p0 ∧ u2.1 m 2 = 0))) : r = r2 ∧ zR S u2 q m := by
  obtain ⟨hA, hB⟩ := h
  obtain ⟨x1, hi⟩ := x1
  obtain ⟨-, x2⟩ := x2
  have k11 := (ySh.f9_11 hSh m hm hkm).2
  have e11 : u1.2.2.2.2 (S.2.2.1 m 11) = d.2.2.2.2 (S.2.2.1 m 11) := (hg1 _ (by rw [k11]; decide)).2.2.2.2
  have em : u1.1 m = d.1 m := (hg1 m (by rw [hkm]; decide)).1
  have hP : zRP S d (S.2.2.1 q 0) (u1.2.2.2.2 (S.2.2.1 m 11)) := by rw [e11]; exact hB.2.1
  have hR1 : yR S u2 q m := yR.gen hA hSh hq hkq hm hkm hg1 (by decide) hi hg2 (by decide) hf (by decide)
  obtain ⟨e, hh⟩ := ans (hP.oi p0) x1 x2
  refine ⟨e, hR1, ?_⟩
  rcases hh with ⟨-, a, b1, b2⟩ | ⟨-, ⟨a1, a2, a3⟩, b1, b2⟩
  · have c0 := (yB0 hSh hq hkq).2.2.1
    exact hB.cl hSh hq hkq hm hkm hnk hg1 (by decide) (by decide) hg2 (by decide) (by decide) hi (fun x hx _ => a x hx) (by rw [(a _ c0).1, b1, b2, em]; exact hB.1)
  · exact hB.cl hSh hq hkq hm hkm hnk hg1 (by decide) (by decide) hg2 (by decide) (by decide) hi a3 ⟨by rw [a1, b1], by rw [a2, b2]⟩
set_option maxHeartbeats 1000000 in
theorem zR.tell {p0 : Int32} {p1 : Int32} {r r2 : Int32} (h : zR S d q m) (hMI : yMI S u1 m) (hPo : yPo S d) (hSh : ySh S) (hq : q ∈ S.1) (hkq : S.2.1 q = 8) (hm : m ∈ S.1) (hkm : S.2.1 m = 9) (hnk : S.2.2.1 q 0 ≠ S.2.2.1 q 1) (hg1 : yAg S [1, 8, 18, 19, 24] d u1) (hg2 : yAg S [9, 48, 49, 69] u1 u2) (hf : yK [2, 38] u1 u2 m) (x1 : ((r.toInt = -1 ∧ ¬ (1 ≤ p0.toInt ∧ p0.toInt ≤ 129600 ∧ (p1.toInt = -2 ∨ p1.toInt = -3 ∨ (0 ≤ p1.toInt ∧ p1.toInt ≤ 59)) ∧ (d.1 (S.2.2.1 (S.2.2.1 q 0) 2) 3).toInt ≠ -1 ∧ (d.1 (S.2.2.1 (S.2.2.1 q 0) 2) 2).toInt < 500) ∧ zKp S 1 d u1) ∨ ((1 ≤ p0.toInt ∧ p0.toInt ≤ 129600 ∧ (p1.toInt = -2 ∨ p1.toInt = -3 ∨ (0 ≤ p1.toInt ∧ p1.toInt ≤ 59)) ∧ (d.1 (S.2.2.1 (S.2.2.1 q 0) 2) 3).toInt ≠ -1 ∧ (d.1 (S.2.2.1 (S.2.2.1 q 0) 2) 2).toInt < 500) ∧ r = d.1 (S.2.2.1 (S.2.2.1 q 0) 2) 2 + 1 ∧ u1.1 (S.2.2.1 (S.2.2.1 q 0) 2) 2 = d.1 (S.2.2.1 (S.2.2.1 q 0) 2) 2 + 1 ∧ u1.1 (S.2.2.1 (S.2.2.1 q 0) 2) 3 = d.1 (S.2.2.1 (S.2.2.1 q 0) 2) 3 ∧ ∀ a, S.2.1 a = 1 → a ≠ (S.2.2.1 (S.2.2.1 q 0) 2) → u1.1 a = d.1 a ∧ u1.2.1 a = d.2.1 a)) ∧ u1.1 q 4 = d.1 q 4) (x2 : yMI S u2 m ∧ ((r2.toInt = -1 ∧ ¬ (1 ≤ p0.toInt ∧ p0.toInt ≤ 129600 ∧ (p1.toInt = -2 ∨ p1.toInt = -3 ∨ (0 ≤ p1.toInt ∧ p1.toInt ≤ 59)) ∧ 0 ≤ (u1.1 m 3).toInt ∧ (u1.1 m 2).toInt < 500) ∧ u2.1 m 2 = u1.1 m 2 ∧ u2.1 m 3 = u1.1 m 3) ∨ (r2.toInt = (u1.1 m 2).toInt + 1 ∧ (1 ≤ p0.toInt ∧ p0.toInt ≤ 129600 ∧ (p1.toInt = -2 ∨ p1.toInt = -3 ∨ (0 ≤ p1.toInt ∧ p1.toInt ≤ 59)) ∧ 0 ≤ (u1.1 m 3).toInt ∧ (u1.1 m 2).toInt < 500) ∧ (u2.1 m 2).toInt = (u1.1 m 2).toInt + 1 ∧ u2.1 m 3 = u1.1 m 3))) : r = r2 ∧ zR S u2 q m := by
  obtain ⟨hA, hB⟩ := h
  obtain ⟨x1, hi⟩ := x1
  obtain ⟨-, x2⟩ := x2
  have k11 := (ySh.f9_11 hSh m hm hkm).2
  have e11 : u1.2.2.2.2 (S.2.2.1 m 11) = d.2.2.2.2 (S.2.2.1 m 11) := (hg1 _ (by rw [k11]; decide)).2.2.2.2
  have em : u1.1 m = d.1 m := (hg1 m (by rw [hkm]; decide)).1
  have hP : zRP S d (S.2.2.1 q 0) (u1.2.2.2.2 (S.2.2.1 m 11)) := by rw [e11]; exact hB.2.1
  have hR1 : yR S u2 q m := yR.gen hA hSh hq hkq hm hkm hg1 (by decide) hi hg2 (by decide) hf (by decide)
  have hc3 : d.1 (S.2.2.1 (S.2.2.1 q 0) 2) 3 = u1.1 m 3 := by rw [em]; exact hB.1.1
  have hc2 : d.1 (S.2.2.1 (S.2.2.1 q 0) 2) 2 = u1.1 m 2 := by rw [em]; exact hB.1.2
  rw [hc3, hc2] at x1
  have hb3 := hMI.c
  have one : (1 : Int32).toInt = 1 := by decide +kernel
  rcases x1 with ⟨a, b, c⟩ | ⟨b, a1, a2, a3, a4⟩
  · rcases x2 with ⟨a2, b2, g2, g3⟩ | ⟨-, b2, -⟩
    · have c0 := (yB0 hSh hq hkq).2.2.1
      exact ⟨Int32.toInt_inj.mp (a.trans a2.symm), hR1, hB.cl hSh hq hkq hm hkm hnk hg1 (by decide) (by decide) hg2 (by decide) (by decide) hi (fun x hx _ => c x hx) (by rw [(c _ c0).1, g2, g3, hc3, hc2]; exact ⟨rfl, rfl⟩)⟩
    · exact absurd (by refine ⟨b2.1, b2.2.1, b2.2.2.1, ?_, b2.2.2.2.2⟩; omega) b
  · rcases x2 with ⟨-, b2, -⟩ | ⟨r3, -, g2, g3⟩
    · exact absurd (by refine ⟨b.1, b.2.1, b.2.2.1, ?_, b.2.2.2.2⟩; omega) b2
    · have e2 : (u1.1 m 2 + 1).toInt = (u1.1 m 2).toInt + 1 := tadd rfl rfl one (by omega) (by omega)
      exact ⟨Int32.toInt_inj.mp (by rw [a1, e2, r3]), hR1, hB.cl hSh hq hkq hm hkm hnk hg1 (by decide) (by decide) hg2 (by decide) (by decide) hi a4 ⟨by rw [a3, g3], Int32.toInt_inj.mp (by rw [a2, e2, g2])⟩⟩
set_option maxHeartbeats 1000000 in
theorem zR.image  {r r2 : Int32} (h : zR S d q m) (hPo : yPo S d) (hSh : ySh S) (hq : q ∈ S.1) (hkq : S.2.1 q = 8) (hm : m ∈ S.1) (hkm : S.2.1 m = 9) (hnk : S.2.2.1 q 0 ≠ S.2.2.1 q 1) (hg1 : yAg S [0, 1, 2, 4, 6, 8, 10, 11, 12, 13, 14, 15, 16, 18, 19, 20, 21, 24] d u1) (hg2 : yAg S [9, 51, 52, 53, 54, 55, 56, 57, 58, 59, 60, 61, 62, 63, 64, 65, 66, 67] u1 u2) (hf : yK [20, 38] u1 u2 m) (x1 : (u1.1 q 4 = 1 ∧ u1.1 (S.2.2.1 (S.2.2.1 q 1) 0) 6 = d.1 (S.2.2.1 (S.2.2.1 q 0) 0) 6 ∧ u1.1 (S.2.2.1 (S.2.2.1 q 0) 0) 6 = d.1 (S.2.2.1 (S.2.2.1 q 0) 0) 6 ∧ r = 1) ∧ zTake S d u1 (S.2.2.1 q 1) (S.2.2.1 q 0) ∧ zTk S d u1 (S.2.2.1 (S.2.2.1 q 1) 0) (S.2.2.1 (S.2.2.1 q 0) 0)) (x2 : yMI S u2 m ∧ (u2.1 m 20 = 1 ∧ u2.2.2.2.1 (S.2.2.1 m 21) 0 = u1.1 m 0 ∧ u2.1 m 0 = u1.1 m 0 ∧ r2 = 1) ∧ u2.2.2.2.1 (S.2.2.1 m 21) 2 = u1.1 m 2 ∧ u2.2.2.2.1 (S.2.2.1 m 21) 3 = u1.1 m 3 ∧ (∀ j : Nat, j < 96 → u2.2.2.2.2 (S.2.2.1 m 29) j = u1.2.2.2.2 (S.2.2.1 m 11) j) ∧ ∀ s, 4 ≤ s → s ≤ 10 → ∀ j : Nat, j < 2400 → u2.2.2.2.1 (S.2.2.1 m (s + 18)) j = zNr s (u1.2.2.2.1 (S.2.2.1 m s) j)) : r = r2 ∧ zR S u2 q m := by
  obtain ⟨hA, hB⟩ := h
  obtain ⟨x1, ht, -⟩ := x1
  obtain ⟨-, x2, x3, x4, x5, -⟩ := x2
  obtain ⟨e, g⟩ := yR.image hA hSh hq hkq hm hkm hg1 (by decide) hg2 (by decide) x1 x2
  exact ⟨e, g, hB.image hSh hq hkq hm hkm hnk hg1 (by decide) hg2 (by decide) ht (hf 2 (by decide)) (hf 3 (by decide)) x3 x4 x5⟩
set_option maxHeartbeats 1000000 in
theorem zR.back  {r r2 : Int32} (h : zR S d q m) (hPo : yPo S d) (hSh : ySh S) (hq : q ∈ S.1) (hkq : S.2.1 q = 8) (hm : m ∈ S.1) (hkm : S.2.1 m = 9) (hnk : S.2.2.1 q 0 ≠ S.2.2.1 q 1) (hg1 : yAg S [0, 1, 2, 4, 6, 8, 10, 11, 12, 13, 14, 15, 16, 18, 19, 20, 21, 24] d u1) (hg2 : yAg S [9, 34, 35, 36, 37, 38, 39, 40, 41, 42, 43, 44, 45, 46, 47, 48, 49, 69] u1 u2) (hf : yK [0, 1, 2, 3, 38] u1 u2 m) (x1 : (((d.1 q 4 = 0 ∧ r = 0 ∧ u1.1 (S.2.2.1 (S.2.2.1 q 0) 0) 6 = d.1 (S.2.2.1 (S.2.2.1 q 0) 0) 6) ∨ (¬ d.1 q 4 = 0 ∧ r = 1 ∧ u1.1 (S.2.2.1 (S.2.2.1 q 0) 0) 6 = d.1 (S.2.2.1 (S.2.2.1 q 1) 0) 6)) ∧ u1.1 (S.2.2.1 (S.2.2.1 q 1) 0) 6 = d.1 (S.2.2.1 (S.2.2.1 q 1) 0) 6 ∧ u1.1 q 4 = d.1 q 4) ∧ ((d.1 q 4 = 0 ∧ zKp S 1 d u1 ∧ zKp S 4 d u1 ∧ zRk S d u1) ∨ (¬ d.1 q 4 = 0 ∧ zTake S d u1 (S.2.2.1 q 0) (S.2.2.1 q 1) ∧ zTk S d u1 (S.2.2.1 (S.2.2.1 q 0) 0) (S.2.2.1 (S.2.2.1 q 1) 0)))) (x2 : yMI S u2 m ∧ (((u1.1 m 20 = 0 ∧ u2.1 m 0 = u1.1 m 0 ∧ r2 = 0) ∧ u2.1 m 2 = u1.1 m 2 ∧ u2.1 m 3 = u1.1 m 3 ∧ zPf S u1 u2 m (fun _ => False) ∧ zTr S u2 m (fun s => u1.2.2.2.1 (S.2.2.1 m s))) ∨ ((¬ u1.1 m 20 = 0 ∧ u2.1 m 0 = u1.2.2.2.1 (S.2.2.1 m 21) 0 ∧ r2 = 1) ∧ u2.1 m 2 = u1.2.2.2.1 (S.2.2.1 m 21) 2 ∧ u2.1 m 3 = u1.2.2.2.1 (S.2.2.1 m 21) 3 ∧ (∀ j : Nat, j < 96 → u2.2.2.2.2 (S.2.2.1 m 11) j = u1.2.2.2.2 (S.2.2.1 m 29) j) ∧ ∀ s, 4 ≤ s → s ≤ 10 → ∀ j : Nat, j < 2400 → u2.2.2.2.1 (S.2.2.1 m s) j = zNr s (u1.2.2.2.1 (S.2.2.1 m (s + 18)) j)))) : r = r2 ∧ zR S u2 q m := by
  obtain ⟨hA, hB⟩ := h
  obtain ⟨x1, ht⟩ := x1
  obtain ⟨-, x2⟩ := x2
  obtain ⟨e, g⟩ := yR.back hA hPo hSh hq hkq hm hkm hg1 (by decide) hg2 (by decide) hf (by decide) x1 (x2.imp (fun w => w.1) (fun w => w.1))
  exact ⟨e, g, hB.back hPo hSh hq hkq hm hkm hnk hA.2.1 hg1 (by decide) hg2 (by decide) x1.2.2 (ht.imp (fun w => ⟨w.1, w.2.1, w.2.2.1⟩) (fun w => ⟨w.1, w.2.1⟩)) (x2.imp (fun w => ⟨w.1, w.2.1, w.2.2.1, w.2.2.2.1⟩) (fun w => ⟨w.1, w.2.1, w.2.2.1, w.2.2.2.1⟩))⟩
set_option maxHeartbeats 1000000 in
theorem zR.contract  {r r2 : Int32} (h : zR S d q m) (hPo : yPo S d) (hSh : ySh S) (hq : q ∈ S.1) (hkq : S.2.1 q = 8) (hm : m ∈ S.1) (hkm : S.2.1 m = 9) (hnk : S.2.2.1 q 0 ≠ S.2.2.1 q 1) (hg1 : yAg S [6, 8, 24] d u1) (hg2 : yAg S [9, 34, 69] u1 u2) (hf : yK [0, 38] u1 u2 m) (x1 : ((40 ≤ d.1 (S.2.2.1 (S.2.2.1 q 0) 0) 6 ∧ r = -1 ∧ u1.1 (S.2.2.1 (S.2.2.1 q 0) 0) 6 = d.1 (S.2.2.1 (S.2.2.1 q 0) 0) 6) ∨ (¬ 40 ≤ d.1 (S.2.2.1 (S.2.2.1 q 0) 0) 6 ∧ r = d.1 (S.2.2.1 (S.2.2.1 q 0) 0) 6 ∧ u1.1 (S.2.2.1 (S.2.2.1 q 0) 0) 6 = d.1 (S.2.2.1 (S.2.2.1 q 0) 0) 6 + 1)) ∧ u1.1 (S.2.2.1 (S.2.2.1 q 1) 0) 6 = d.1 (S.2.2.1 (S.2.2.1 q 1) 0) 6 ∧ u1.1 q 4 = d.1 q 4) (x2 : yMI S u2 m ∧ (((u1.1 m 0).toInt = 40 ∧ r2.toInt = -1 ∧ (u2.1 m 0).toInt = (u1.1 m 0).toInt ∧ zTr S u2 m (fun s => u1.2.2.2.1 (S.2.2.1 m s))) ∨ ((u1.1 m 0).toInt ≤ 39 ∧ r2.toInt = (u1.1 m 0).toInt ∧ (u2.1 m 0).toInt = (u1.1 m 0).toInt + 1 ∧ (∀ j : Nat, j < 60 → u2.2.2.2.1 (S.2.2.1 m 4) (60 * (u1.1 m 0).toInt.toNat + j) = 0) ∧ (∀ k : Nat, (k < 60 * (u1.1 m 0).toInt.toNat ∨ 60 * (u1.1 m 0).toInt.toNat + 60 ≤ k) → u2.2.2.2.1 (S.2.2.1 m 4) k = u1.2.2.2.1 (S.2.2.1 m 4) k) ∧ ∀ s, 5 ≤ s → s ≤ 10 → u2.2.2.2.1 (S.2.2.1 m s) = u1.2.2.2.1 (S.2.2.1 m s)))) : r = r2 ∧ zR S u2 q m := by
  obtain ⟨hA, hB⟩ := h
  obtain ⟨-, x2⟩ := x2
  have k11 := (ySh.f9_11 hSh m hm hkm).2
  have hi : u1.1 q 4 = d.1 q 4 := x1.2.2
  obtain ⟨e, g⟩ := yR.contract hA hSh hq hkq hm hkm hg1 (by decide) hg2 (by decide) hf (by decide) x1 (x2.imp (fun w => ⟨w.1, w.2.1, w.2.2.1⟩) (fun w => ⟨w.1, w.2.1, w.2.2.1⟩))
  exact ⟨e, g, hB.gen hSh hq hkq hm hkm hg1 (by decide) hg2 (by decide) hi (fun a ha => (hg1 a (by rw [ha]; decide)).1) (fun a ha => yf42 (yAg.o hg1 (a := a) (by rw [ha]; decide))) (hf 2 (by decide)) (hf 3 (by decide)) (zPf.eq (hg2 _ (by rw [k11]; decide)).2.2.2.2)⟩
end ZR3
