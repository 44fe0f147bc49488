/-! whole numbers for the ints of the reference's side -/
theorem tadd {a b z : Int32} {A B : Int} (e : z = a + b) (ha : a.toInt = A) (hb : b.toInt = B) (h1 : -2147483648 ≤ A + B) (h2 : A + B < 2147483648) : z.toInt = A + B := by
  rw [e, Int32.toInt_add, ha, hb]; exact Int.bmod_eq_of_le (by omega) (by omega)
theorem tsub {a b z : Int32} {A B : Int} (e : z = a - b) (ha : a.toInt = A) (hb : b.toInt = B) (h1 : -2147483648 ≤ A - B) (h2 : A - B < 2147483648) : z.toInt = A - B := by
  rw [e, Int32.toInt_sub, ha, hb]; exact Int.bmod_eq_of_le (by omega) (by omega)
theorem tmul {a b z : Int32} {A B : Int} (e : z = a * b) (ha : a.toInt = A) (hb : b.toInt = B) (h1 : -2147483648 ≤ A * B) (h2 : A * B < 2147483648) : z.toInt = A * B := by
  rw [e, Int32.toInt_mul, ha, hb]; exact Int.bmod_eq_of_le (by omega) (by omega)
theorem tdiv' {a b z : Int32} {A B : Int} (e : z = a / b) (ha : a.toInt = A) (hb : b.toInt = B) (h0 : 0 ≤ A) (h1 : 0 < B) : z.toInt = A / B := by
  have hA : A < 2147483648 := by rw [← ha]; exact a.toInt_lt
  have hq : A.tdiv B = A / B := Int.tdiv_eq_ediv_of_nonneg h0
  have hl : 0 ≤ A / B := Int.ediv_nonneg h0 (by omega)
  have hu : A / B ≤ A := Int.ediv_le_self _ h0
  rw [e, Int32.toInt_div, ha, hb, hq]; exact Int.bmod_eq_of_le (by omega) (by omega)
theorem trem {a b z : Int32} {A B : Int} (e : z = a - a / b * b) (ha : a.toInt = A) (hb : b.toInt = B) (h0 : 0 ≤ A) (h1 : 0 < B) : z.toInt = A % B := by
  have hA : A < 2147483648 := by rw [← ha]; exact a.toInt_lt
  have hd := tdiv' (z := a / b) rfl ha hb h0 h1
  have hl : 0 ≤ A / B := Int.ediv_nonneg h0 (by omega)
  have hm : A / B * B ≤ A := Int.ediv_mul_le _ (by omega)
  have hm0 : 0 ≤ A / B * B := Int.mul_nonneg hl (by omega)
  have hp := tmul (z := a / b * b) rfl hd hb (by omega) (by omega)
  have hs := tsub e ha hp (by omega) (by omega)
  rw [hs, Int.emod_def, Int.mul_comm B]
theorem flt {a b : Int32} {A B : Int} (ha : a.toInt = A) (hb : b.toInt = B) (h : a < b) : A < B := by rw [← ha, ← hb]; exact Int32.lt_iff_toInt_lt.mp h
theorem fnlt {a b : Int32} {A B : Int} (ha : a.toInt = A) (hb : b.toInt = B) (h : ¬ a < b) : B ≤ A := by rw [← ha, ← hb]; exact Int32.le_iff_toInt_le.mp (Int32.not_lt.mp h)
theorem fle {a b : Int32} {A B : Int} (ha : a.toInt = A) (hb : b.toInt = B) (h : a ≤ b) : A ≤ B := by rw [← ha, ← hb]; exact Int32.le_iff_toInt_le.mp h
theorem fnle {a b : Int32} {A B : Int} (ha : a.toInt = A) (hb : b.toInt = B) (h : ¬ a ≤ b) : B < A := by rw [← ha, ← hb]; exact Int32.lt_iff_toInt_lt.mp (Int32.not_le.mp h)
theorem feq {a b : Int32} {A B : Int} (ha : a.toInt = A) (hb : b.toInt = B) (h : a = b) : A = B := by rw [← ha, ← hb, h]
theorem fne {a b : Int32} {A B : Int} (ha : a.toInt = A) (hb : b.toInt = B) (h : ¬ a = b) : A ≠ B := by
  rw [← ha, ← hb]; exact fun q => h (Int32.toInt_inj.mp q)
theorem xinT {i : Int32} {n : Nat} (N : Nat) (e : n = N) (h0 : 0 ≤ i.toInt) (h1 : i.toInt < (N : Int)) : vp_in i n := by
  rw [e, vp_in_iff]; omega
/-- the reference's own bounds: what its calls keep -/
def yMI (S : yS) (d : yD) (m : Nat) : Prop :=
  ((0 ≤ (d.1 m 0).toInt ∧ (d.1 m 0).toInt ≤ 40) ∧ (0 ≤ (d.1 m 1).toInt ∧ (d.1 m 1).toInt ≤ 5000) ∧ (0 ≤ (d.1 m 2).toInt ∧ (d.1 m 2).toInt ≤ 500) ∧ (-1 ≤ (d.1 m 3).toInt ∧ (d.1 m 3).toInt ≤ 7)) ∧
  (∀ p : Nat, p < 8 → (0 ≤ (d.2.2.2.2 (S.2.2.1 m 11) (12 * p + 1)).toInt ∧ (d.2.2.2.2 (S.2.2.1 m 11) (12 * p + 1)).toInt ≤ 39) ∧ (0 ≤ (d.2.2.2.2 (S.2.2.1 m 11) (12 * p + 2)).toInt ∧ (d.2.2.2.2 (S.2.2.1 m 11) (12 * p + 2)).toInt ≤ 90)) ∧
  (∀ k : Nat, 0 ≤ (d.2.2.2.1 (S.2.2.1 m 16) k).toInt ∧ (d.2.2.2.1 (S.2.2.1 m 16) k).toInt < 129600) ∧
  ((0 ≤ (d.2.2.2.1 (S.2.2.1 m 21) 0).toInt ∧ (d.2.2.2.1 (S.2.2.1 m 21) 0).toInt ≤ 40) ∧ (0 ≤ (d.2.2.2.1 (S.2.2.1 m 21) 1).toInt ∧ (d.2.2.2.1 (S.2.2.1 m 21) 1).toInt ≤ 5000) ∧ (0 ≤ (d.2.2.2.1 (S.2.2.1 m 21) 2).toInt ∧ (d.2.2.2.1 (S.2.2.1 m 21) 2).toInt ≤ 500) ∧ (-1 ≤ (d.2.2.2.1 (S.2.2.1 m 21) 3).toInt ∧ (d.2.2.2.1 (S.2.2.1 m 21) 3).toInt ≤ 7)) ∧
  (∀ p : Nat, p < 8 → (0 ≤ (d.2.2.2.2 (S.2.2.1 m 29) (12 * p + 1)).toInt ∧ (d.2.2.2.2 (S.2.2.1 m 29) (12 * p + 1)).toInt ≤ 39) ∧ (0 ≤ (d.2.2.2.2 (S.2.2.1 m 29) (12 * p + 2)).toInt ∧ (d.2.2.2.2 (S.2.2.1 m 29) (12 * p + 2)).toInt ≤ 90)) ∧
  (∀ k : Nat, 0 ≤ (d.2.2.2.1 (S.2.2.1 m 34) k).toInt ∧ (d.2.2.2.1 (S.2.2.1 m 34) k).toInt < 129600) ∧
  (∀ k : Nat, 0 ≤ (d.2.2.2.1 (S.2.2.1 m 40) k).toInt ∧ (d.2.2.2.1 (S.2.2.1 m 40) k).toInt < 129600) ∧
  (∀ k : Nat, d.2.2.2.1 (S.2.2.1 m 14) k = 0 ∨ d.2.2.2.1 (S.2.2.1 m 14) k = 1) ∧ (∀ k : Nat, d.2.2.2.1 (S.2.2.1 m 32) k = 0 ∨ d.2.2.2.1 (S.2.2.1 m 32) k = 1)
/-- the reference's int fields outside F stand -/
def yK (F : List Nat) (d u : yD) (m : Nat) : Prop := ∀ k, k ∉ F → u.1 m k = d.1 m k
theorem yK.rf {F : List Nat} {d : yD} {m : Nat} : yK F d d m := fun _ _ => rfl
theorem yK.tr {F F' : List Nat} {d d1 d2 : yD} {m : Nat} (h : yK F d d1 m) (h2 : yK F' d1 d2 m) (hf : ∀ x, x ∈ F' → x ∈ F) : yK F d d2 m := fun k hk => (h2 k (fun q => hk (hf k q))).trans (h k hk)
theorem yK.i {F : List Nat} {d d1 : yD} {m k : Nat} {v : Int32} (h : yK F d d1 m) (hk : k ∈ F) : yK F d (yi d1 m k v) m := fun j hj => (yi_at (fun e => hj (by rw [e]; exact hk))).trans (h j hj)
theorem yK.ag {F : List Nat} {S : yS} {M : List Nat} {d d1 d2 : yD} {m : Nat} (h : yK F d d1 m) (hg : yAg S M d1 d2) (h9 : S.2.1 m ∉ M) : yK F d d2 m := fun j hj => (congrFun (hg m h9).1 j).trans (h j hj)
theorem yMI.ag {S : yS} {d u : yD} {m : Nat} {M F : List Nat} (h : yMI S d m) (hSh : ySh S) (hm : m ∈ S.1) (hk : S.2.1 m = 9) (hg : yAg S M d u) (hf : yK F d u m)
    (hM : 41 ∉ M ∧ 46 ∉ M ∧ 51 ∉ M ∧ 59 ∉ M ∧ 64 ∉ M ∧ 70 ∉ M ∧ 44 ∉ M ∧ 62 ∉ M) (hF : 0 ∉ F ∧ 1 ∉ F ∧ 2 ∉ F ∧ 3 ∉ F) : yMI S u m := by
  obtain ⟨m1, m2, m3, m4, m5, m6, m7, m8⟩ := hM
  obtain ⟨f0, f1, f2, f3⟩ := hF
  have a1 := (hg (S.2.2.1 m 11) (by rw [(ySh.f9_11 hSh m hm hk).2]; exact m1)).2.2.2.2
  have a2 := (hg (S.2.2.1 m 16) (by rw [(ySh.f9_16 hSh m hm hk).2]; exact m2)).2.2.2.1
  have a3 := (hg (S.2.2.1 m 21) (by rw [(ySh.f9_21 hSh m hm hk).2]; exact m3)).2.2.2.1
  have a4 := (hg (S.2.2.1 m 29) (by rw [(ySh.f9_29 hSh m hm hk).2]; exact m4)).2.2.2.2
  have a5 := (hg (S.2.2.1 m 34) (by rw [(ySh.f9_34 hSh m hm hk).2]; exact m5)).2.2.2.1
  have a6 := (hg (S.2.2.1 m 40) (by rw [(ySh.f9_40 hSh m hm hk).2]; exact m6)).2.2.2.1
  have a7 := (hg (S.2.2.1 m 14) (by rw [(ySh.f9_14 hSh m hm hk).2]; exact m7)).2.2.2.1
  have a8 := (hg (S.2.2.1 m 32) (by rw [(ySh.f9_32 hSh m hm hk).2]; exact m8)).2.2.2.1
  unfold yMI at h ⊢
  rw [a1, a2, a3, a4, a5, a6, a7, a8, hf 0 f0, hf 1 f1, hf 2 f2, hf 3 f3]
  exact h
theorem yMI.c {S : yS} {d : yD} {m : Nat} (h : yMI S d m) : (0 ≤ (d.1 m 0).toInt ∧ (d.1 m 0).toInt ≤ 40) ∧ (0 ≤ (d.1 m 1).toInt ∧ (d.1 m 1).toInt ≤ 5000) ∧ (0 ≤ (d.1 m 2).toInt ∧ (d.1 m 2).toInt ≤ 500) ∧ (-1 ≤ (d.1 m 3).toInt ∧ (d.1 m 3).toInt ≤ 7) := h.1
theorem yMI.p {S : yS} {d : yD} {m : Nat} (h : yMI S d m) : ∀ p : Nat, p < 8 → (0 ≤ (d.2.2.2.2 (S.2.2.1 m 11) (12 * p + 1)).toInt ∧ (d.2.2.2.2 (S.2.2.1 m 11) (12 * p + 1)).toInt ≤ 39) ∧ (0 ≤ (d.2.2.2.2 (S.2.2.1 m 11) (12 * p + 2)).toInt ∧ (d.2.2.2.2 (S.2.2.1 m 11) (12 * p + 2)).toInt ≤ 90) := h.2.1
theorem yMI.e {S : yS} {d : yD} {m : Nat} (h : yMI S d m) : ∀ k : Nat, 0 ≤ (d.2.2.2.1 (S.2.2.1 m 16) k).toInt ∧ (d.2.2.2.1 (S.2.2.1 m 16) k).toInt < 129600 := h.2.2.1
theorem xtrunc {a : Int64} (h0 : -2147483648 ≤ a.toInt) (h1 : a.toInt < 2147483648) : a.toInt32.toInt = a.toInt := by
  rw [Int64.toInt_toInt32]; exact Int.bmod_eq_of_le (by omega) (by omega)
theorem xof1 {S : yS} {d : yD} {m : Nat} (h : yMI S d m) {p : Int32} (hp : 0 ≤ p.toInt ∧ p.toInt ≤ 7) {r : Int32} (e : r = (d.2.2.2.2 (S.2.2.1 m 11) (12 * p.toInt.toNat + (1 : Int32).toInt.toNat)).toInt32) : 0 ≤ r.toInt ∧ r.toInt ≤ 39 := by
  have q := (yMI.p h p.toInt.toNat (by omega)).1
  rw [e, show (1 : Int32).toInt.toNat = 1 by decide +kernel, xtrunc (by omega) (by omega)]; exact q
theorem xof2 {S : yS} {d : yD} {m : Nat} (h : yMI S d m) {p : Int32} (hp : 0 ≤ p.toInt ∧ p.toInt ≤ 7) {r : Int32} (e : r = (d.2.2.2.2 (S.2.2.1 m 11) (12 * p.toInt.toNat + (2 : Int32).toInt.toNat)).toInt32) : 0 ≤ r.toInt ∧ r.toInt ≤ 90 := by
  have q := (yMI.p h p.toInt.toNat (by omega)).2
  rw [e, show (2 : Int32).toInt.toNat = 2 by decide +kernel, xtrunc (by omega) (by omega)]; exact q
theorem yMI.z {S : yS} {d : yD} {m : Nat} (h : yMI S d m) : ∀ k : Nat, d.2.2.2.1 (S.2.2.1 m 14) k = 0 ∨ d.2.2.2.1 (S.2.2.1 m 14) k = 1 := h.2.2.2.2.2.2.2.1
theorem yMI.cm {S : yS} {d : yD} {m : Nat} (h : yMI S d m) : ∀ k : Nat, 0 ≤ (d.2.2.2.1 (S.2.2.1 m 40) k).toInt ∧ (d.2.2.2.1 (S.2.2.1 m 40) k).toInt < 129600 := h.2.2.2.2.2.2.1
/-- a quotient of what is hardly below 0 -/
theorem tdivb {a b z : Int32} {A B : Int} (e : z = a / b) (ha : a.toInt = A) (hb : b.toInt = B) (h0 : -B < A) (h1 : 0 < B) : 0 ≤ z.toInt ∧ (B * z.toInt ≤ A ∨ z.toInt = 0) := by
  by_cases hA : 0 ≤ A
  · have h := tdiv' e ha hb hA h1
    rw [h]
    refine ⟨Int.ediv_nonneg hA (by omega), Or.inl ?_⟩
    rw [Int.mul_comm]; exact Int.ediv_mul_le _ (by omega)
  · have hq : A.tdiv B = 0 := by
      have : A = -(-A) := by omega
      rw [this, Int.neg_tdiv, Int.tdiv_eq_zero_of_lt (by omega) (by omega)]; rfl
    have hz : z.toInt = 0 := by
      rw [e, Int32.toInt_div, ha, hb, hq]; decide
    exact ⟨by omega, Or.inr hz⟩
theorem tdivc {a b z : Int32} {A B : Int} (e : z = a / b) (ha : a.toInt = A) (hb : b.toInt = B) (h0 : -B < A) (h1 : 0 < B) : 0 ≤ z.toInt ∧ ((B * z.toInt ≤ A ∧ A < B * z.toInt + B) ∨ (A < 0 ∧ z.toInt = 0)) := by
  by_cases hA : 0 ≤ A
  · have h := tdiv' e ha hb hA h1
    rw [h]
    have q1 := Int.ediv_mul_le A (show B ≠ 0 by omega)
    have q2 := Int.lt_ediv_add_one_mul_self A h1
    rw [Int.add_mul, Int.one_mul] at q2
    rw [Int.mul_comm B]
    exact ⟨Int.ediv_nonneg hA (by omega), Or.inl ⟨q1, q2⟩⟩
  · have h := tdivb e ha hb h0 h1
    refine ⟨h.1, Or.inr ⟨by omega, ?_⟩⟩
    rcases h.2 with h2 | h2
    · have h3 : 0 ≤ B * z.toInt := Int.mul_nonneg (by omega) h.1
      omega
    · exact h2
theorem tremc {a b z : Int32} {A B : Int} (e : z = a - a / b * b) (ha : a.toInt = A) (hb : b.toInt = B) (h0 : -B < A) (h1 : 0 < B) : (0 ≤ z.toInt ∧ z.toInt < B ∧ 0 ≤ A) ∨ (A < 0 ∧ z.toInt = A) := by
  by_cases hA : 0 ≤ A
  · have h := trem e ha hb hA h1
    rw [h]
    exact Or.inl ⟨Int.emod_nonneg _ (by omega), Int.emod_lt_of_pos _ h1, hA⟩
  · have h := tdivc (z := a / b) rfl ha hb h0 h1
    have hz : (a / b).toInt = 0 := by
      rcases h.2 with h2 | h2
      · have h3 : 0 ≤ B * (a / b).toInt := Int.mul_nonneg (by omega) h.1
        omega
      · exact h2.2
    have hz0 : a / b = 0 := Int32.toInt_inj.mp (by rw [hz]; decide)
    refine Or.inr ⟨by omega, ?_⟩
    rw [e, hz0, Int32.zero_mul, Int32.sub_zero, ha]
theorem xnz3 {x : Int32} {z z2 z3 : Int64} {q : Int32} (ez : z = x.toInt64) (eq : q = lg_cmp z 0) (c : q < 0) (e3 : z3 = -1000 * z) : ¬ z3 = 0 := by
  intro h0
  have hz : z < 0 := by
    refine Classical.byContradiction fun w => ?_
    rw [eq] at c
    unfold lg_cmp at c
    by_cases h : (0 : Int64) < z
    · rw [if_pos h] at c; exact absurd c (by decide +kernel)
    · have e : z = 0 := Int64.le_antisymm (Int64.not_lt.mp h) (Int64.not_lt.mp w)
      rw [if_neg h, if_pos e] at c; exact absurd c (by decide +kernel)
  have h1 : z.toInt = x.toInt := by rw [ez, Int32.toInt_toInt64]
  have a : -2 ^ 31 ≤ x.toInt := x.le_toInt
  have h2 : z.toInt < 0 := by
    have q := Int64.lt_iff_toInt_lt.mp hz
    rw [show (0 : Int64).toInt = 0 by decide +kernel] at q; exact q
  have h4 : z3.toInt = -1000 * z.toInt := by
    rw [e3, Int64.toInt_mul, show (-1000 : Int64).toInt = -1000 by decide +kernel]
    exact Int.bmod_eq_of_le (by omega) (by omega)
  rw [h0, show (0 : Int64).toInt = 0 by decide +kernel] at h4
  omega
theorem yMI.i0 {S : yS} {d : yD} {m : Nat} {v : Int32} (h : yMI S d m) (hv : 0 ≤ v.toInt ∧ v.toInt ≤ 40) : yMI S (yi d m 0 v) m := by
  refine ⟨⟨?_, ?_, ?_, ?_⟩, h.2⟩
  · rw [yi_self]; exact hv
  · rw [yi_at (by decide)]; exact h.1.2.1
  · rw [yi_at (by decide)]; exact h.1.2.2.1
  · rw [yi_at (by decide)]; exact h.1.2.2.2
theorem yMI.i2 {S : yS} {d : yD} {m : Nat} {v : Int32} (h : yMI S d m) (hv : 0 ≤ v.toInt ∧ v.toInt ≤ 500) : yMI S (yi d m 2 v) m := by
  refine ⟨⟨?_, ?_, ?_, ?_⟩, h.2⟩
  · rw [yi_at (by decide)]; exact h.1.1
  · rw [yi_at (by decide)]; exact h.1.2.1
  · rw [yi_self]; exact hv
  · rw [yi_at (by decide)]; exact h.1.2.2.2
theorem yMI.i3 {S : yS} {d : yD} {m : Nat} {v : Int32} (h : yMI S d m) (hv : -1 ≤ v.toInt ∧ v.toInt ≤ 7) : yMI S (yi d m 3 v) m := by
  refine ⟨⟨?_, ?_, ?_, ?_⟩, h.2⟩
  · rw [yi_at (by decide)]; exact h.1.1
  · rw [yi_at (by decide)]; exact h.1.2.1
  · rw [yi_at (by decide)]; exact h.1.2.2.1
  · rw [yi_self]; exact hv
theorem yMI.i1 {S : yS} {d : yD} {m : Nat} {v : Int32} (h : yMI S d m) (hv : 0 ≤ v.toInt ∧ v.toInt ≤ 5000) : yMI S (yi d m 1 v) m := by
  refine ⟨⟨?_, ?_, ?_, ?_⟩, h.2⟩
  · rw [yi_at (by decide)]; exact h.1.1
  · rw [yi_self]; exact hv
  · rw [yi_at (by decide)]; exact h.1.2.2.1
  · rw [yi_at (by decide)]; exact h.1.2.2.2
