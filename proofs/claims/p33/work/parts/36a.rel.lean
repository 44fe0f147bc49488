/-! THE RELATION for claims and ports -/
def zRP (S : yS) (d : yD) (b : Nat) (f : Nat → Int64) : Prop := ∀ p : Int32, 0 ≤ p.toInt → p.toInt ≤ 7 → (¬ 0 < (d.1 (yPA S b p) 2).toInt ∧ ¬ f (12 * p.toInt.toNat) = 1) ∨ (0 < (d.1 (yPA S b p) 2).toInt ∧ (d.1 (yPA S b p) 2).toInt ≤ 90 ∧ f (12 * p.toInt.toNat) = 1 ∧ f (12 * p.toInt.toNat + 2) = (d.1 (yPA S b p) 2).toInt64 ∧ d.2.1 (yPA S b p) 8 = f (12 * p.toInt.toNat + 3))
def yR2 (S : yS) (d : yD) (q m : Nat) : Prop := (d.1 (S.2.2.1 (S.2.2.1 q 0) 2) 3 = d.1 m 3 ∧ d.1 (S.2.2.1 (S.2.2.1 q 0) 2) 2 = d.1 m 2) ∧ zRP S d (S.2.2.1 q 0) (d.2.2.2.2 (S.2.2.1 m 11)) ∧ (d.1 q 4 = 1 → (d.1 (S.2.2.1 (S.2.2.1 q 1) 2) 2 = d.2.2.2.1 (S.2.2.1 m 21) 2 ∧ d.1 (S.2.2.1 (S.2.2.1 q 1) 2) 3 = d.2.2.2.1 (S.2.2.1 m 21) 3) ∧ zRP S d (S.2.2.1 q 1) (d.2.2.2.2 (S.2.2.1 m 29)))
section YR2
variable {S : yS} {d u1 u2 : yD} {q m : Nat} {M M' F : List Nat}
theorem yB0 (hSh : ySh S) (hq : q ∈ S.1) (hkq : S.2.1 q = 8) : (S.2.2.1 q 0 ∈ S.1 ∧ S.2.1 (S.2.2.1 q 0) = 0) ∧ (S.2.2.1 q 1 ∈ S.1 ∧ S.2.1 (S.2.2.1 q 1) = 0) ∧ S.2.1 (S.2.2.1 (S.2.2.1 q 0) 2) = 1 ∧ S.2.1 (S.2.2.1 (S.2.2.1 q 1) 2) = 1 := by
  have a := ySh.f8_0 hSh q hq hkq
  have b := ySh.f8_1 hSh q hq hkq
  exact ⟨a, b, (ySh.f0_2 hSh _ a.1 a.2).2, (ySh.f0_2 hSh _ b.1 b.2).2⟩
theorem zRP.same {u : yD} {b : Nat} {f g : Nat → Int64} (h : zRP S d b f) (hSh : ySh S) (hb : b ∈ S.1) (hkb : S.2.1 b = 0) (hu : ∀ p : Int32, 0 ≤ p.toInt → p.toInt ≤ 7 → u.1 (yPA S b p) 2 = d.1 (yPA S b p) 2 ∧ u.2.1 (yPA S b p) 8 = d.2.1 (yPA S b p) 8) (hf : ∀ i, i < 96 → (i % 12 = 0 ∨ i % 12 = 2 ∨ i % 12 = 3) → g i = f i) : zRP S u b g := fun p h0 h7 => by
  obtain ⟨e1, e2⟩ := hu p h0 h7
  rw [e1, e2, hf _ (by omega) (by omega), hf (12 * p.toInt.toNat + 2) (by omega) (by omega), hf (12 * p.toInt.toNat + 3) (by omega) (by omega)]
  exact h p h0 h7
theorem zRP.oi {e : yD} {b : Nat} (h : zRP S d b (e.2.2.2.2 (S.2.2.1 m 11))) (p : Int32) : (0 ≤ p.toInt ∧ p.toInt ≤ 7 ∧ 0 < (d.1 (yPA S b p) 2).toInt) ↔ (0 ≤ p.toInt ∧ p.toInt ≤ 7 ∧ yOI S e m p.toInt.toNat = 1) := by
  constructor
  · rintro ⟨h0, h7, hd⟩
    refine ⟨h0, h7, ?_⟩
    rcases h p h0 h7 with ⟨a, -⟩ | ⟨-, -, a, -⟩
    · exact absurd hd a
    · exact if_pos a
  · rintro ⟨h0, h7, ho⟩
    refine ⟨h0, h7, ?_⟩
    rcases h p h0 h7 with ⟨-, a⟩ | ⟨a, -⟩
    · unfold yOI at ho
      rw [if_neg a] at ho
      exact absurd ho (by decide)
    · exact a
theorem zRP.of {e : yD} {b : Nat} (h : zRP S d b (e.2.2.2.2 (S.2.2.1 m 11))) {p : Int32} (h0 : 0 ≤ p.toInt) (h7 : p.toInt ≤ 7) (hd : 0 < (d.1 (yPA S b p) 2).toInt) : yOf S e m p.toInt.toNat 2 = (d.1 (yPA S b p) 2).toInt := by
  rcases h p h0 h7 with ⟨a, -⟩ | ⟨-, -, -, a, -⟩
  · exact absurd hd a
  · unfold yOf
    rw [a, Int64.toInt_toInt32, Int32.toInt_toInt64]
    have b1 := Int32.le_toInt (d.1 (yPA S b p) 2)
    have b2 := Int32.toInt_lt (d.1 (yPA S b p) 2)
    exact Int.bmod_eq_of_le (by omega) (by omega)
theorem ans {r r2 : Int32} {C C2 : Prop} {E0 E1 F0 F1 : Prop} (hC : C ↔ C2) (h : (r.toInt = 0 ∧ ¬ C ∧ E0) ∨ (r.toInt = 1 ∧ C ∧ E1)) (h2 : (r2.toInt = 0 ∧ ¬ C2 ∧ F0) ∨ (r2.toInt = 1 ∧ C2 ∧ F1)) : r = r2 ∧ ((¬ C ∧ E0 ∧ F0) ∨ (C ∧ E1 ∧ F1)) := by
  rcases h with ⟨a, b, c⟩ | ⟨a, b, c⟩ <;> rcases h2 with ⟨a2, b2, c2⟩ | ⟨a2, b2, c2⟩
  · exact ⟨Int32.toInt_inj.mp (a.trans a2.symm), Or.inl ⟨b, c, c2⟩⟩
  · exact absurd (hC.mpr b2) b
  · exact absurd (hC.mp b) b2
  · exact ⟨Int32.toInt_inj.mp (a.trans a2.symm), Or.inr ⟨b, c, c2⟩⟩
theorem ans0 {r r2 : Int32} {C C2 : Prop} (hC : C ↔ C2) (h : (r.toInt = 0 ∧ ¬ C) ∨ (r.toInt = 1 ∧ C)) (h2 : (r2.toInt = 0 ∧ ¬ C2) ∨ (r2.toInt = 1 ∧ C2)) : r = r2 := by
  rcases h with ⟨a, b⟩ | ⟨a, b⟩ <;> rcases h2 with ⟨a2, b2⟩ | ⟨a2, b2⟩
  · exact Int32.toInt_inj.mp (a.trans a2.symm)
  · exact absurd (hC.mpr b2) b
  · exact absurd (hC.mp b) b2
  · exact Int32.toInt_inj.mp (a.trans a2.symm)
/-- the desk's call touches nothing of the reference, the reference's nothing of the desk -/
theorem yR2.step (h : yR2 S d q m) (hSh : ySh S) (hq : q ∈ S.1) (hkq : S.2.1 q = 8) (hm : m ∈ S.1) (hkm : S.2.1 m = 9) (hg1 : yAg S M d u1) (hM : 9 ∉ M ∧ 41 ∉ M ∧ 51 ∉ M ∧ 59 ∉ M) (hg2 : yAg S M' u1 u2) (hM' : 1 ∉ M' ∧ 4 ∉ M' ∧ 8 ∉ M' ∧ 51 ∉ M' ∧ 59 ∉ M') (himg : u1.1 q 4 = d.1 q 4)
    (hC : u1.1 (S.2.2.1 (S.2.2.1 q 0) 2) 3 = u2.1 m 3 ∧ u1.1 (S.2.2.1 (S.2.2.1 q 0) 2) 2 = u2.1 m 2) (hP : zRP S u1 (S.2.2.1 q 0) (u2.2.2.2.2 (S.2.2.1 m 11))) (hK1 : u1.1 (S.2.2.1 (S.2.2.1 q 1) 2) 2 = d.1 (S.2.2.1 (S.2.2.1 q 1) 2) 2 ∧ u1.1 (S.2.2.1 (S.2.2.1 q 1) 2) 3 = d.1 (S.2.2.1 (S.2.2.1 q 1) 2) 3)
    (hB1 : ∀ p : Int32, 0 ≤ p.toInt → p.toInt ≤ 7 → u1.1 (yPA S (S.2.2.1 q 1) p) 2 = d.1 (yPA S (S.2.2.1 q 1) p) 2 ∧ u1.2.1 (yPA S (S.2.2.1 q 1) p) 8 = d.2.1 (yPA S (S.2.2.1 q 1) p) 8) : yR2 S u2 q m := by
  obtain ⟨⟨b0, kb0⟩, ⟨b1, kb1⟩, c0, c1⟩ := yB0 hSh hq hkq
  have k21 := (ySh.f9_21 hSh m hm hkm).2
  have k29 := (ySh.f9_29 hSh m hm hkm).2
  have e21 : u2.2.2.2.1 (S.2.2.1 m 21) = d.2.2.2.1 (S.2.2.1 m 21) := ((hg2 _ (by rw [k21]; exact hM'.2.2.2.1)).2.2.2.1).trans (hg1 _ (by rw [k21]; exact hM.2.2.1)).2.2.2.1
  have e29 : u2.2.2.2.2 (S.2.2.1 m 29) = d.2.2.2.2 (S.2.2.1 m 29) := ((hg2 _ (by rw [k29]; exact hM'.2.2.2.2)).2.2.2.2).trans (hg1 _ (by rw [k29]; exact hM.2.2.2)).2.2.2.2
  have f1 := fun (a : Nat) (ha : S.2.1 a = 1) => (hg2 a (by rw [ha]; exact hM'.1)).1
  have f4 := fun (a : Nat) (ha : S.2.1 a = 4) => yAg.o hg2 (a := a) (by rw [ha]; exact hM'.2.1)
  have f8 : u2.1 q = u1.1 q := (hg2 q (by rw [hkq]; exact hM'.2.2.1)).1
  obtain ⟨-, -, hK⟩ := h
  refine ⟨?_, ?_, fun hi => ?_⟩
  · rw [f1 _ c0]; exact hC
  · exact hP.same hSh b0 kb0 (fun p h0 h7 => by
      obtain ⟨x, y⟩ := f4 _ (yPA_in hSh b0 kb0 h0 h7).2.2.1
      rw [x, y]; exact ⟨rfl, rfl⟩) (fun _ _ _ => rfl)
  · obtain ⟨⟨g1, g2⟩, g3⟩ := hK (by rw [← himg, ← f8]; exact hi)
    refine ⟨⟨?_, ?_⟩, ?_⟩
    · rw [f1 _ c1, hK1.1, e21]; exact g1
    · rw [f1 _ c1, hK1.2, e21]; exact g2
    · exact g3.same hSh b1 kb1 (fun p h0 h7 => by
        obtain ⟨x, y⟩ := f4 _ (yPA_in hSh b1 kb1 h0 h7).2.2.1
        obtain ⟨z, w⟩ := hB1 p h0 h7
        rw [x, y]; exact ⟨z, w⟩) (fun i _ _ => by rw [e29])
/-- where neither side touches claims or ports -/
theorem yR2.gen (h : yR2 S d q m) (hSh : ySh S) (hq : q ∈ S.1) (hkq : S.2.1 q = 8) (hm : m ∈ S.1) (hkm : S.2.1 m = 9) (hg1 : yAg S M d u1) (hM : 9 ∉ M ∧ 41 ∉ M ∧ 51 ∉ M ∧ 59 ∉ M) (hg2 : yAg S M' u1 u2) (hM' : 1 ∉ M' ∧ 4 ∉ M' ∧ 8 ∉ M' ∧ 51 ∉ M' ∧ 59 ∉ M') (himg : u1.1 q 4 = d.1 q 4)
    (H1 : ∀ a, S.2.1 a = 1 → u1.1 a = d.1 a) (H4 : ∀ a, S.2.1 a = 4 → u1.1 a 2 = d.1 a 2 ∧ u1.1 a 3 = d.1 a 3 ∧ u1.2.1 a 8 = d.2.1 a 8) (G2 : u2.1 m 2 = u1.1 m 2) (G3 : u2.1 m 3 = u1.1 m 3) (GP : zPf S u1 u2 m (fun _ => False)) : yR2 S u2 q m := by
  obtain ⟨⟨b0, kb0⟩, ⟨b1, kb1⟩, c0, c1⟩ := yB0 hSh hq hkq
  have k11 := (ySh.f9_11 hSh m hm hkm).2
  have e11 : u1.2.2.2.2 (S.2.2.1 m 11) = d.2.2.2.2 (S.2.2.1 m 11) := (hg1 _ (by rw [k11]; exact hM.2.1)).2.2.2.2
  have em : u1.1 m = d.1 m := (hg1 m (by rw [hkm]; exact hM.1)).1
  refine h.step hSh hq hkq hm hkm hg1 hM hg2 hM' himg ?_ ?_ ⟨by rw [H1 _ c1], by rw [H1 _ c1]⟩ (fun p h0 h7 => ⟨(H4 _ (yPA_in hSh b1 kb1 h0 h7).2.2.1).1, (H4 _ (yPA_in hSh b1 kb1 h0 h7).2.2.1).2.2⟩)
  · rw [H1 _ c0, G2, G3, em]; exact h.1
  · exact h.2.1.same hSh b0 kb0 (fun p h0 h7 => ⟨(H4 _ (yPA_in hSh b0 kb0 h0 h7).2.2.1).1, (H4 _ (yPA_in hSh b0 kb0 h0 h7).2.2.1).2.2⟩) (fun i _ hi => by rw [GP i hi id, e11])
/-- where the claim alone is touched -/
theorem yR2.cl (h : yR2 S d q m) (hSh : ySh S) (hq : q ∈ S.1) (hkq : S.2.1 q = 8) (hm : m ∈ S.1) (hkm : S.2.1 m = 9) (hnk : S.2.2.1 q 0 ≠ S.2.2.1 q 1) (hg1 : yAg S M d u1) (hM : 9 ∉ M ∧ 41 ∉ M ∧ 51 ∉ M ∧ 59 ∉ M) (h4 : 4 ∉ M) (hg2 : yAg S M' u1 u2) (hM' : 1 ∉ M' ∧ 4 ∉ M' ∧ 8 ∉ M' ∧ 51 ∉ M' ∧ 59 ∉ M') (h41 : 41 ∉ M') (himg : u1.1 q 4 = d.1 q 4)
    (H1 : ∀ a, S.2.1 a = 1 → a ≠ S.2.2.1 (S.2.2.1 q 0) 2 → u1.1 a = d.1 a ∧ u1.2.1 a = d.2.1 a) (hC : u1.1 (S.2.2.1 (S.2.2.1 q 0) 2) 3 = u2.1 m 3 ∧ u1.1 (S.2.2.1 (S.2.2.1 q 0) 2) 2 = u2.1 m 2) : yR2 S u2 q m := by
  obtain ⟨⟨b0, kb0⟩, ⟨b1, kb1⟩, c0, c1⟩ := yB0 hSh hq hkq
  have k11 := (ySh.f9_11 hSh m hm hkm).2
  have e11 : u1.2.2.2.2 (S.2.2.1 m 11) = d.2.2.2.2 (S.2.2.1 m 11) := (hg1 _ (by rw [k11]; exact hM.2.1)).2.2.2.2
  have e11' : u2.2.2.2.2 (S.2.2.1 m 11) = u1.2.2.2.2 (S.2.2.1 m 11) := (hg2 _ (by rw [k11]; exact h41)).2.2.2.2
  have f4 := fun (a : Nat) (ha : S.2.1 a = 4) => yAg.o hg1 (a := a) (by rw [ha]; exact h4)
  have hne : S.2.2.1 (S.2.2.1 q 1) 2 ≠ S.2.2.1 (S.2.2.1 q 0) 2 := fun e => hnk (ySh.j0_2 hSh _ _ b1 b0 kb1 kb0 e).symm
  have g1 := H1 _ c1 hne
  refine h.step hSh hq hkq hm hkm hg1 hM hg2 hM' himg hC ?_ ⟨by rw [g1.1], by rw [g1.1]⟩ (fun p h0 h7 => ?_)
  · exact h.2.1.same hSh b0 kb0 (fun p h0 h7 => by
      obtain ⟨x, y⟩ := f4 _ (yPA_in hSh b0 kb0 h0 h7).2.2.1
      rw [x, y]; exact ⟨rfl, rfl⟩) (fun i _ _ => by rw [e11', e11])
  · obtain ⟨x, y⟩ := f4 _ (yPA_in hSh b1 kb1 h0 h7).2.2.1
    rw [x, y]; exact ⟨rfl, rfl⟩
/-- where one port alone is touched -/
theorem yR2.pt (h : yR2 S d q m) (hSh : ySh S) (hq : q ∈ S.1) (hkq : S.2.1 q = 8) (hm : m ∈ S.1) (hkm : S.2.1 m = 9) (hnk : S.2.2.1 q 0 ≠ S.2.2.1 q 1) (hg1 : yAg S M d u1) (hM : 9 ∉ M ∧ 41 ∉ M ∧ 51 ∉ M ∧ 59 ∉ M) (h1 : 1 ∉ M) (hg2 : yAg S M' u1 u2) (hM' : 1 ∉ M' ∧ 4 ∉ M' ∧ 8 ∉ M' ∧ 51 ∉ M' ∧ 59 ∉ M') (himg : u1.1 q 4 = d.1 q 4) {p : Int32} (p0 : 0 ≤ p.toInt) (p7 : p.toInt ≤ 7)
    (H4 : ∀ a, S.2.1 a = 4 → a ≠ yPA S (S.2.2.1 q 0) p → u1.1 a = d.1 a ∧ u1.2.1 a = d.2.1 a) (G2 : u2.1 m 2 = u1.1 m 2) (G3 : u2.1 m 3 = u1.1 m 3) {E : Nat → Prop} (hE : ∀ i, E i → i / 12 = p.toInt.toNat) (GP : zPf S u1 u2 m E)
    (hP : (¬ 0 < (u1.1 (yPA S (S.2.2.1 q 0) p) 2).toInt ∧ ¬ u2.2.2.2.2 (S.2.2.1 m 11) (12 * p.toInt.toNat) = 1) ∨ (0 < (u1.1 (yPA S (S.2.2.1 q 0) p) 2).toInt ∧ (u1.1 (yPA S (S.2.2.1 q 0) p) 2).toInt ≤ 90 ∧ u2.2.2.2.2 (S.2.2.1 m 11) (12 * p.toInt.toNat) = 1 ∧ u2.2.2.2.2 (S.2.2.1 m 11) (12 * p.toInt.toNat + 2) = (u1.1 (yPA S (S.2.2.1 q 0) p) 2).toInt64 ∧ u1.2.1 (yPA S (S.2.2.1 q 0) p) 8 = u2.2.2.2.2 (S.2.2.1 m 11) (12 * p.toInt.toNat + 3))) : yR2 S u2 q m := by
  obtain ⟨⟨b0, kb0⟩, ⟨b1, kb1⟩, c0, c1⟩ := yB0 hSh hq hkq
  have k11 := (ySh.f9_11 hSh m hm hkm).2
  have e11 : u1.2.2.2.2 (S.2.2.1 m 11) = d.2.2.2.2 (S.2.2.1 m 11) := (hg1 _ (by rw [k11]; exact hM.2.1)).2.2.2.2
  have em : u1.1 m = d.1 m := (hg1 m (by rw [hkm]; exact hM.1)).1
  have f1 := fun (a : Nat) (ha : S.2.1 a = 1) => (hg1 a (by rw [ha]; exact h1)).1
  refine h.step hSh hq hkq hm hkm hg1 hM hg2 hM' himg ?_ (fun x x0 x7 => ?_) ⟨by rw [f1 _ c1], by rw [f1 _ c1]⟩ (fun x x0 x7 => ?_)
  · rw [f1 _ c0, G2, G3, em]; exact h.1
  · by_cases e : x = p
    · subst e; exact hP
    · have e' : x.toInt ≠ p.toInt := fun w => e (Int32.toInt_inj.mp w)
      obtain ⟨y1, y2⟩ := H4 _ (yPA_in hSh b0 kb0 x0 x7).2.2.1 (fun w => e (yPA_inj hSh b0 kb0 b0 kb0 x0 x7 p0 p7 w).2)
      have hn : ∀ j, (j = 0 ∨ j = 2 ∨ j = 3) → u2.2.2.2.2 (S.2.2.1 m 11) (12 * x.toInt.toNat + j) = d.2.2.2.2 (S.2.2.1 m 11) (12 * x.toInt.toNat + j) := fun j hj => by
        rw [GP _ (by omega) (fun w => by have := hE _ w; omega), e11]
      have h0 := hn 0 (Or.inl rfl)
      rw [y1, y2, hn 2 (Or.inr (Or.inl rfl)), hn 3 (Or.inr (Or.inr rfl)), show 12 * x.toInt.toNat = 12 * x.toInt.toNat + 0 from rfl, h0]
      exact h.2.1 x x0 x7
  · obtain ⟨y1, y2⟩ := H4 _ (yPA_in hSh b1 kb1 x0 x7).2.2.1 (fun w => hnk (yPA_inj hSh b1 kb1 b0 kb0 x0 x7 p0 p7 w).1.symm)
    rw [y1, y2]; exact ⟨rfl, rfl⟩
/-- an image: the other book takes over -/
theorem yR2.image (h : yR2 S d q m) (hSh : ySh S) (hq : q ∈ S.1) (hkq : S.2.1 q = 8) (hm : m ∈ S.1) (hkm : S.2.1 m = 9) (hnk : S.2.2.1 q 0 ≠ S.2.2.1 q 1) (hg1 : yAg S M d u1) (hM : 9 ∉ M ∧ 41 ∉ M ∧ 51 ∉ M ∧ 59 ∉ M) (hg2 : yAg S M' u1 u2) (hM' : 1 ∉ M' ∧ 4 ∉ M' ∧ 8 ∉ M' ∧ 41 ∉ M') (ht : zTake S d u1 (S.2.2.1 q 1) (S.2.2.1 q 0)) (G2 : u2.1 m 2 = u1.1 m 2) (G3 : u2.1 m 3 = u1.1 m 3)
    (hk2 : u2.2.2.2.1 (S.2.2.1 m 21) 2 = u1.1 m 2) (hk3 : u2.2.2.2.1 (S.2.2.1 m 21) 3 = u1.1 m 3) (hkp : ∀ j : Nat, j < 96 → u2.2.2.2.2 (S.2.2.1 m 29) j = u1.2.2.2.2 (S.2.2.1 m 11) j) : yR2 S u2 q m := by
  obtain ⟨⟨b0, kb0⟩, ⟨b1, kb1⟩, c0, c1⟩ := yB0 hSh hq hkq
  have k11 := (ySh.f9_11 hSh m hm hkm).2
  have e11 : u1.2.2.2.2 (S.2.2.1 m 11) = d.2.2.2.2 (S.2.2.1 m 11) := (hg1 _ (by rw [k11]; exact hM.2.1)).2.2.2.2
  have e11' : u2.2.2.2.2 (S.2.2.1 m 11) = u1.2.2.2.2 (S.2.2.1 m 11) := (hg2 _ (by rw [k11]; exact hM'.2.2.2)).2.2.2.2
  have em : u1.1 m = d.1 m := (hg1 m (by rw [hkm]; exact hM.1)).1
  have f1 := fun (a : Nat) (ha : S.2.1 a = 1) => (hg2 a (by rw [ha]; exact hM'.1)).1
  have f4 := fun (a : Nat) (ha : S.2.1 a = 4) => yAg.o hg2 (a := a) (by rw [ha]; exact hM'.2.1)
  obtain ⟨⟨t1, t2, t3⟩, t4, t5⟩ := ht
  have hne : S.2.2.1 (S.2.2.1 q 0) 2 ≠ S.2.2.1 (S.2.2.1 q 1) 2 := fun e => hnk (ySh.j0_2 hSh _ _ b0 b1 kb0 kb1 e)
  have s0 := t3 _ c0 hne
  have ps : ∀ p : Int32, 0 ≤ p.toInt → p.toInt ≤ 7 → u1.1 (yPA S (S.2.2.1 q 0) p) = d.1 (yPA S (S.2.2.1 q 0) p) ∧ u1.2.1 (yPA S (S.2.2.1 q 0) p) = d.2.1 (yPA S (S.2.2.1 q 0) p) := fun p p0 p7 => t5 _ (yPA_in hSh b0 kb0 p0 p7).2.2.1 (fun x x0 x7 w => hnk (yPA_inj hSh b0 kb0 b1 kb1 p0 p7 x0 x7 w).1)
  refine ⟨?_, ?_, fun _ => ⟨⟨?_, ?_⟩, fun p p0 p7 => ?_⟩⟩
  · rw [f1 _ c0, s0.1, G2, G3, em]; exact h.1
  · exact h.2.1.same hSh b0 kb0 (fun p p0 p7 => by
      obtain ⟨x, y⟩ := f4 _ (yPA_in hSh b0 kb0 p0 p7).2.2.1
      obtain ⟨z, w⟩ := ps p p0 p7
      rw [x, y, z, w]; exact ⟨rfl, rfl⟩) (fun i _ _ => by rw [e11', e11])
  · rw [f1 _ c1, t1, hk2, em]; exact h.1.2
  · rw [f1 _ c1, t2, hk3, em]; exact h.1.1
  · obtain ⟨x, y⟩ := f4 _ (yPA_in hSh b1 kb1 p0 p7).2.2.1
    obtain ⟨z1, z2, z3⟩ := t4 p p0 p7
    rw [x, y, z1, z3, hkp _ (by omega), hkp _ (by omega), hkp _ (by omega), e11]
    exact h.2.1 p p0 p7
/-- back: the first book takes over, if there is an image -/
theorem yR2.back (h : yR2 S d q m) (hPo : yPo S d) (hSh : ySh S) (hq : q ∈ S.1) (hkq : S.2.1 q = 8) (hm : m ∈ S.1) (hkm : S.2.1 m = 9) (hnk : S.2.2.1 q 0 ≠ S.2.2.1 q 1) (hi0 : d.1 q 4 = d.1 m 20) (hg1 : yAg S M d u1) (hM : 9 ∉ M ∧ 41 ∉ M ∧ 51 ∉ M ∧ 59 ∉ M) (hg2 : yAg S M' u1 u2) (hM' : 1 ∉ M' ∧ 4 ∉ M' ∧ 8 ∉ M' ∧ 51 ∉ M' ∧ 59 ∉ M') (himg : u1.1 q 4 = d.1 q 4)
    (x1 : (d.1 q 4 = 0 ∧ zKp S 1 d u1 ∧ zKp S 4 d u1) ∨ (¬ d.1 q 4 = 0 ∧ zTake S d u1 (S.2.2.1 q 0) (S.2.2.1 q 1))) {A A' : Prop}
    (x2 : ((u1.1 m 20 = 0 ∧ A) ∧ u2.1 m 2 = u1.1 m 2 ∧ u2.1 m 3 = u1.1 m 3 ∧ zPf S u1 u2 m (fun _ => False)) ∨ ((¬ u1.1 m 20 = 0 ∧ A') ∧ u2.1 m 2 = u1.2.2.2.1 (S.2.2.1 m 21) 2 ∧ u2.1 m 3 = u1.2.2.2.1 (S.2.2.1 m 21) 3 ∧ ∀ j : Nat, j < 96 → u2.2.2.2.2 (S.2.2.1 m 11) j = u1.2.2.2.2 (S.2.2.1 m 29) j)) : yR2 S u2 q m := by
  obtain ⟨⟨b0, kb0⟩, ⟨b1, kb1⟩, c0, c1⟩ := yB0 hSh hq hkq
  have em : u1.1 m = d.1 m := (hg1 m (by rw [hkm]; exact hM.1)).1
  have k21 := (ySh.f9_21 hSh m hm hkm).2
  have k29 := (ySh.f9_29 hSh m hm hkm).2
  have d21 : u1.2.2.2.1 (S.2.2.1 m 21) = d.2.2.2.1 (S.2.2.1 m 21) := (hg1 _ (by rw [k21]; exact hM.2.2.1)).2.2.2.1
  have d29 : u1.2.2.2.2 (S.2.2.1 m 29) = d.2.2.2.2 (S.2.2.1 m 29) := (hg1 _ (by rw [k29]; exact hM.2.2.2)).2.2.2.2
  rcases x1 with ⟨i, a1, a4⟩ | ⟨i, t⟩
  · rcases x2 with ⟨-, g2, g3, gp⟩ | ⟨⟨j, -⟩, -⟩
    · exact h.gen hSh hq hkq hm hkm hg1 hM hg2 hM' himg (fun a ha => (a1 a ha).1) (fun a ha => yf42 (a4 a ha)) g2 g3 gp
    · exact absurd (by rw [em, ← hi0]; exact i) j
  · rcases x2 with ⟨⟨j, -⟩, -⟩ | ⟨-, g2, g3, gp⟩
    · exact absurd (by rw [hi0, ← em]; exact j) i
    · have hb := (hPo.b hq hkq (k := 4) rfl).resolve_left i
      obtain ⟨⟨w1, w2⟩, w3⟩ := h.2.2 hb
      obtain ⟨⟨t1, t2, t3⟩, t4, t5⟩ := t
      have hne : S.2.2.1 (S.2.2.1 q 1) 2 ≠ S.2.2.1 (S.2.2.1 q 0) 2 := fun e => hnk (ySh.j0_2 hSh _ _ b1 b0 kb1 kb0 e).symm
      have s1 := t3 _ c1 hne
      refine h.step hSh hq hkq hm hkm hg1 hM hg2 hM' himg ⟨?_, ?_⟩ (fun p p0 p7 => ?_) ⟨by rw [s1.1], by rw [s1.1]⟩ (fun p p0 p7 => ?_)
      · rw [t2, g3, d21]; exact w2
      · rw [t1, g2, d21]; exact w1
      · obtain ⟨z1, z2, z3⟩ := t4 p p0 p7
        rw [z1, z3, gp _ (by omega), gp _ (by omega), gp _ (by omega), d29]
        exact w3 p p0 p7
      · obtain ⟨y1, y2⟩ := t5 _ (yPA_in hSh b1 kb1 p0 p7).2.2.1 (fun x x0 x7 w => hnk (yPA_inj hSh b1 kb1 b0 kb0 p0 p7 x0 x7 w).1.symm)
        rw [y1, y2]; exact ⟨rfl, rfl⟩
theorem yR2.ini (h : zIni S d) (hSh : ySh S) (hq : q ∈ S.1) (hkq : S.2.1 q = 8) (hm : m ∈ S.1) (hkm : S.2.1 m = 9) : yR2 S d q m := by
  obtain ⟨⟨b0, kb0⟩, ⟨b1, kb1⟩, c0, c1⟩ := yB0 hSh hq hkq
  have a0 := (ySh.f0_2 hSh _ b0 kb0).1
  have hi : d.1 q 4 = 0 := h.i0 hq (by decide)
  refine ⟨⟨?_, ?_⟩, fun p p0 p7 => Or.inl ⟨?_, ?_⟩, fun e => absurd (hi.symm.trans e) (by decide +kernel)⟩
  · rw [h.1 _ a0 3, h.1 _ hm 3, if_pos ⟨Or.inl c0, rfl⟩, if_pos ⟨Or.inr hkm, rfl⟩]
  · rw [h.i0 a0 (by decide), h.i0 hm (by decide)]
  · rw [h.i0 (yPA_in hSh b0 kb0 p0 p7).2.1 (by decide)]; decide +kernel
  · rw [h.2.2.2.2.2]; decide +kernel
end YR2
theorem lgs {a : Int64} : lg_cmp a a = 0 := by
  unfold lg_cmp
  rw [if_neg (fun w => Int64.lt_irrefl w), if_pos rfl]
