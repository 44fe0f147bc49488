/-! whole numbers for the desk's small helpers -/
theorem tw_ {p0 p1 p2 r : Int32} (h : (r = 1 ∧ ¬ p0 < p1 ∧ ¬ p2 < p0) ∨ (r = 0 ∧ (p0 < p1 ∨ p2 < p0))) : (r.toInt = 1 ∧ p1.toInt ≤ p0.toInt ∧ p0.toInt ≤ p2.toInt) ∨ (r.toInt = 0 ∧ (p0.toInt < p1.toInt ∨ p2.toInt < p0.toInt)) := by
  rcases h with ⟨rfl, h1, h2⟩ | ⟨rfl, h⟩
  · exact Or.inl ⟨by decide +kernel, Int32.le_iff_toInt_le.mp (Int32.not_lt.mp h1), Int32.le_iff_toInt_le.mp (Int32.not_lt.mp h2)⟩
  · exact Or.inr ⟨by decide +kernel, h.imp Int32.lt_iff_toInt_lt.mp Int32.lt_iff_toInt_lt.mp⟩
theorem tz_ {x : Int32} : x = 0 ↔ x.toInt = 0 := ⟨fun h => by rw [h]; decide +kernel, fun h => Int32.toInt_inj.mp (by rw [h]; decide +kernel)⟩
theorem tn_ {p r : Int32} (h : r = xnum p) : (p.toInt = 0 ∧ r.toInt = 1) ∨ (p.toInt ≠ 0 ∧ r.toInt = 0) := by
  unfold xnum at h
  by_cases e : p = 0
  · rw [if_pos e] at h; exact Or.inl ⟨tz_.mp e, by rw [h]; decide +kernel⟩
  · rw [if_neg e] at h; exact Or.inr ⟨fun q => e (tz_.mpr q), by rw [h]; decide +kernel⟩
theorem tl_ {a b r : Int32} (h : r = xleast a b) : (r.toInt = 0 ∧ a.toInt = 0 ∧ b.toInt = 0) ∨ (r.toInt ≠ 0 ∧ (a.toInt ≠ 0 ∨ b.toInt ≠ 0)) := by
  unfold xleast at h
  by_cases ea : a = 0
  · rw [if_pos (Or.inl ea), ea, Int32.zero_add] at h
    rw [h]
    by_cases eb : b = 0
    · exact Or.inl ⟨tz_.mp eb, tz_.mp ea, tz_.mp eb⟩
    · exact Or.inr ⟨fun q => eb (tz_.mpr q), Or.inr (fun q => eb (tz_.mpr q))⟩
  · have na : a.toInt ≠ 0 := fun q => ea (tz_.mpr q)
    by_cases eb : b = 0
    · rw [if_pos (Or.inr eb), eb, Int32.add_zero] at h
      rw [h]; exact Or.inr ⟨na, Or.inl na⟩
    · have nb : b.toInt ≠ 0 := fun q => eb (tz_.mpr q)
      rw [if_neg (fun q => q.elim ea eb)] at h
      refine Or.inr ⟨?_, Or.inl na⟩
      by_cases c : b < a
      · rw [if_pos c] at h; rw [h]; exact nb
      · rw [if_neg c] at h; rw [h]; exact na
theorem tc_ {n c r : Int32} (h : r = xcr n c) : (r.toInt = 0 ∧ 0 ≤ c.toInt ∧ c.toInt ≤ 39 ∧ c.toInt < n.toInt) ∨ (r.toInt ≠ 0 ∧ ¬ (0 ≤ c.toInt ∧ c.toInt ≤ 39 ∧ c.toInt < n.toInt)) := by
  have z : (0 : Int32).toInt = 0 := by decide +kernel
  have z39 : (39 : Int32).toInt = 39 := by decide +kernel
  unfold xcr at h
  by_cases e : c < 0 ∨ 39 < c
  · rw [if_pos e] at h
    refine Or.inr ⟨by rw [h]; decide +kernel, fun q => ?_⟩
    rcases e with e | e
    · have := Int32.lt_iff_toInt_lt.mp e; omega
    · have := Int32.lt_iff_toInt_lt.mp e; omega
  · rw [if_neg e] at h
    have e1 := Int32.le_iff_toInt_le.mp (Int32.not_lt.mp (fun q => e (Or.inl q)))
    have e2 := Int32.le_iff_toInt_le.mp (Int32.not_lt.mp (fun q => e (Or.inr q)))
    by_cases f : c < n
    · rw [if_pos f] at h
      have := Int32.lt_iff_toInt_lt.mp f
      exact Or.inl ⟨by rw [h]; decide +kernel, by omega, by omega, this⟩
    · rw [if_neg f] at h
      have := Int32.le_iff_toInt_le.mp (Int32.not_lt.mp f)
      exact Or.inr ⟨by rw [h]; decide +kernel, fun q => by omega⟩
theorem tp_ {n c r : Int32} (h : r = xpr n c) : (r.toInt = 0 ∧ 0 ≤ c.toInt ∧ c.toInt ≤ 7 ∧ 0 < n.toInt) ∨ (r.toInt ≠ 0 ∧ ¬ (0 ≤ c.toInt ∧ c.toInt ≤ 7 ∧ 0 < n.toInt)) := by
  have z : (0 : Int32).toInt = 0 := by decide +kernel
  have z7 : (7 : Int32).toInt = 7 := by decide +kernel
  unfold xpr at h
  by_cases e : c < 0 ∨ 7 < c
  · rw [if_pos e] at h
    refine Or.inr ⟨by rw [h]; decide +kernel, fun q => ?_⟩
    rcases e with e | e
    · have := Int32.lt_iff_toInt_lt.mp e; omega
    · have := Int32.lt_iff_toInt_lt.mp e; omega
  · rw [if_neg e] at h
    have e1 := Int32.le_iff_toInt_le.mp (Int32.not_lt.mp (fun q => e (Or.inl q)))
    have e2 := Int32.le_iff_toInt_le.mp (Int32.not_lt.mp (fun q => e (Or.inr q)))
    by_cases f : 0 < n
    · rw [if_pos f] at h
      have := Int32.lt_iff_toInt_lt.mp f
      exact Or.inl ⟨by rw [h]; decide +kernel, by omega, by omega, by omega⟩
    · rw [if_neg f] at h
      have := Int32.le_iff_toInt_le.mp (Int32.not_lt.mp f)
      exact Or.inr ⟨by rw [h]; decide +kernel, fun q => by omega⟩
theorem tr_ {p r : Int32} (h : r = xref p) : (p.toInt = 0 ∧ r.toInt = 0) ∨ (p.toInt ≠ 0 ∧ r.toInt = 1) := by
  unfold xref at h
  by_cases e : p = 0
  · rw [if_pos e] at h; exact Or.inl ⟨tz_.mp e, by rw [h]; decide +kernel⟩
  · rw [if_neg e] at h; exact Or.inr ⟨fun q => e (tz_.mpr q), by rw [h]; decide +kernel⟩
theorem yj_self {d : yD} {a k : Nat} {v : Int64} : (yj d a k v).2.1 a k = v := by
  show va_up d.2.1 a (va_up (d.2.1 a) k v) a k = v
  rw [va_up_self, va_up_self]
theorem yj_ne {d : yD} {a b k j : Nat} {v : Int64} (h : j ≠ k) : (yj d a k v).2.1 b j = d.2.1 b j := by
  show va_up d.2.1 a (va_up (d.2.1 a) k v) b j = d.2.1 b j
  by_cases e : b = a
  · subst e; rw [va_up_self, va_up_ne _ _ h]
  · rw [va_up_ne _ _ e]
theorem yi_ne {d : yD} {a b k j : Nat} {v : Int32} (h : j ≠ k) : (yi d a k v).1 b j = d.1 b j := by
  show va_up d.1 a (va_up (d.1 a) k v) b j = d.1 b j
  by_cases e : b = a
  · subst e; rw [va_up_self, va_up_ne _ _ h]
  · rw [va_up_ne _ _ e]
/-- nothing of a: ints and longs -/
theorem yi_o {d : yD} {a b k : Nat} {v : Int32} (h : b ≠ a) : (yi d a k v).1 b = d.1 b ∧ (yi d a k v).2.1 b = d.2.1 b := ⟨va_up_ne _ _ h, rfl⟩
theorem yj_o {d : yD} {a b k : Nat} {v : Int64} (h : b ≠ a) : (yj d a k v).1 b = d.1 b ∧ (yj d a k v).2.1 b = d.2.1 b := ⟨rfl, va_up_ne _ _ h⟩
theorem yAg.o {S : yS} {M : List Nat} {d u : yD} (h : yAg S M d u) {a : Nat} (ha : S.2.1 a ∉ M) : u.1 a = d.1 a ∧ u.2.1 a = d.2.1 a := ⟨(h a ha).1, (h a ha).2.1⟩
theorem o2 {α β : Type} {x y z : α} {x' y' z' : β} (h : y = x ∧ y' = x') (h2 : z = y ∧ z' = y') : z = x ∧ z' = x' := ⟨h2.1.trans h.1, h2.2.trans h.2⟩
theorem yf42 {f g : Nat → Int32} {f' g' : Nat → Int64} (h : f = g ∧ f' = g') : f 2 = g 2 ∧ f 3 = g 3 ∧ f' 8 = g' 8 := ⟨congrFun h.1 2, congrFun h.1 3, congrFun h.2 8⟩
theorem o3 {α β γ : Type} {x y z : α} {x' y' z' : β} {x2 y2 z2 : γ} (h : y = x ∧ y' = x' ∧ y2 = x2) (h2 : z = y ∧ z' = y' ∧ z2 = y2) : z = x ∧ z' = x' ∧ z2 = x2 := ⟨h2.1.trans h.1, h2.2.1.trans h.2.1, h2.2.2.trans h.2.2⟩
