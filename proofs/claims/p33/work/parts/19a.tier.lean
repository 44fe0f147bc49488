/-! the reference's ports as numbers -/
def yOI (S : yS) (d : yD) (m p : Nat) : Int := if d.2.2.2.2 (S.2.2.1 m 11) (12 * p) = 1 then 1 else 0
theorem yOI_of {S : yS} {d : yD} {m : Nat} {p i : Int32} {z : Int64} (h0 : 0 ≤ p.toInt) (h7 : p.toInt ≤ 7) (ei : i.toInt = 12 * p.toInt) (ez : z = d.2.2.2.2 (S.2.2.1 m 11) i.toNatClampNeg) : (yOI S d m p.toInt.toNat = 1 ∧ z.toInt = 1) ∨ (yOI S d m p.toInt.toNat = 0 ∧ z.toInt ≠ 1) := by
  have e : i.toNatClampNeg = 12 * p.toInt.toNat := by
    show i.toInt.toNat = _
    omega
  rw [e] at ez
  unfold yOI
  rw [← ez]
  by_cases h : z = 1
  · exact Or.inl ⟨if_pos h, by rw [h]; decide +kernel⟩
  · exact Or.inr ⟨if_neg h, fun q => h (Int64.toInt_inj.mp (by rw [q]; decide +kernel))⟩
/-- the numbers of ports that matter here stand, but at those of E -/
def zPf (S : yS) (d u : yD) (m : Nat) (E : Nat → Prop) : Prop := ∀ i, (i % 12 = 0 ∨ i % 12 = 2 ∨ i % 12 = 3) → ¬ E i → u.2.2.2.2 (S.2.2.1 m 11) i = d.2.2.2.2 (S.2.2.1 m 11) i
theorem zPf.eq {S : yS} {d u : yD} {m : Nat} {E : Nat → Prop} (h : u.2.2.2.2 (S.2.2.1 m 11) = d.2.2.2.2 (S.2.2.1 m 11)) : zPf S d u m E := fun i _ _ => by rw [h]
theorem zPf.tr {S : yS} {d d1 u : yD} {m : Nat} {E : Nat → Prop} (h : zPf S d d1 m E) (h2 : zPf S d1 u m E) : zPf S d u m E := fun i a b => (h2 i a b).trans (h i a b)
theorem zPf.mono {S : yS} {d u : yD} {m : Nat} {E E' : Nat → Prop} (h : zPf S d u m E) (he : ∀ i, E i → E' i) : zPf S d u m E' := fun i a b => h i a (fun q => b (he i q))
/-- one number is written -/
theorem zPf.up {S : yS} {d u : yD} {m k : Nat} {v : Int64} {E : Nat → Prop} (e : u = ye d (S.2.2.1 m 11) k v) (hk : (k % 12 = 0 ∨ k % 12 = 2 ∨ k % 12 = 3) → E k) : zPf S d u m E := fun i a b => by
  rw [e]
  show va_up d.2.2.2.2 (S.2.2.1 m 11) (vp_updL (d.2.2.2.2 (S.2.2.1 m 11)) k v) (S.2.2.1 m 11) i = _
  rw [va_up_self]
  show (if i = k then v else _) = _
  by_cases h : i = k
  · subst h; exact absurd (hk a) b
  · rw [if_neg h]
theorem ye_self {d : yD} {a k : Nat} {v : Int64} : (ye d a k v).2.2.2.2 a k = v := by
  show va_up d.2.2.2.2 a (vp_updL (d.2.2.2.2 a) k v) a k = v
  rw [va_up_self]
  show (if k = k then v else _) = v
  rw [if_pos rfl]
/-- in the midst of a port's numbers set to 0: all that lie ahead of k are -/
def zPz (S : yS) (d0 d : yD) (m p : Nat) (k : Int32) : Prop := 0 ≤ k.toInt ∧ k.toInt ≤ 12 ∧ (∀ j : Nat, (j : Int) < k.toInt → d.2.2.2.2 (S.2.2.1 m 11) (12 * p + j) = 0) ∧ ∀ i : Nat, (i < 12 * p ∨ 12 * p + 12 ≤ i) → d.2.2.2.2 (S.2.2.1 m 11) i = d0.2.2.2.2 (S.2.2.1 m 11) i
theorem zPz.ini {S : yS} {d0 : yD} {m p : Nat} : zPz S d0 d0 m p 0 := ⟨by decide, by decide, fun j h => absurd h (by rw [show (0 : Int32).toInt = 0 by decide +kernel]; omega), fun _ _ => rfl⟩
theorem zPz.step {S : yS} {d0 d u : yD} {m p : Nat} {k i : Int32} (h : zPz S d0 d m p k) (hc : ¬ 12 ≤ k) (ei : i.toInt = 12 * (p : Int) + k.toInt) (e : u = ye d (S.2.2.1 m 11) i.toNatClampNeg 0) : zPz S d0 u m p (k + 1) := by
  have z12 : (12 : Int32).toInt = 12 := by decide +kernel
  obtain ⟨h0, h12, hA, hB⟩ := h
  have k12 := Int32.lt_iff_toInt_lt.mp (Int32.not_le.mp hc)
  rw [z12] at k12
  have ek : (k + 1).toInt = k.toInt + 1 := tadd rfl rfl (by decide +kernel : (1 : Int32).toInt = 1) (by omega) (by omega)
  have hi : i.toNatClampNeg = 12 * p + k.toInt.toNat := by
    show i.toInt.toNat = _
    omega
  have hu : ∀ j, u.2.2.2.2 (S.2.2.1 m 11) j = if j = 12 * p + k.toInt.toNat then 0 else d.2.2.2.2 (S.2.2.1 m 11) j := fun j => by
    rw [e, hi]
    show va_up d.2.2.2.2 (S.2.2.1 m 11) _ (S.2.2.1 m 11) j = _
    rw [va_up_self]; rfl
  refine ⟨by omega, by omega, fun j hj => ?_, fun j hj => ?_⟩
  · rw [hu]
    by_cases q : 12 * p + j = 12 * p + k.toInt.toNat
    · rw [if_pos q]
    · rw [if_neg q]; exact hA j (by omega)
  · rw [hu, if_neg (by omega)]; exact hB j hj
/-- a copy of the ports, so far -/
def zCp (f g : Nat → Int64) (k : Int32) : Prop := ∀ j : Nat, (j : Int) < k.toInt → f j = g j
theorem zCp.ini {f g : Nat → Int64} : zCp f g 0 := fun j h => absurd h (by rw [show (0 : Int32).toInt = 0 by decide +kernel]; omega)
theorem zCp.step {f f' g : Nat → Int64} {k n : Int32} (h : zCp f g k) (h0 : 0 ≤ k.toInt) (hc : ¬ n ≤ k) (e : f' = vp_updL f k.toNatClampNeg (g k.toNatClampNeg)) : zCp f' g (k + 1) := fun j hj => by
  have b : n.toInt < 2 ^ 31 := n.toInt_lt
  have c := Int32.lt_iff_toInt_lt.mp (Int32.not_le.mp hc)
  have ek : (k + 1).toInt = k.toInt + 1 := tadd rfl rfl (by decide +kernel : (1 : Int32).toInt = 1) (by omega) (by omega)
  have hk : k.toNatClampNeg = k.toInt.toNat := rfl
  rw [e]
  show (if j = k.toNatClampNeg then g k.toNatClampNeg else f j) = g j
  by_cases q : j = k.toNatClampNeg
  · rw [if_pos q, q]
  · rw [if_neg q]; exact h j (by omega)
/-- a port opened anew: what stands behind its writes -/
theorem zPort {S : yS} {d0 dz d1 d2 d3 d4 d5 : yD} {m p : Nat} {k i1 i2 i3 i4 i5 : Int32} {v1 v2 v3 v4 v5 : Int64} (hz : zPz S d0 dz m p k) (hk : 12 ≤ k) (e1 : d1 = ye dz (S.2.2.1 m 11) i1.toNatClampNeg v1) (e2 : d2 = ye d1 (S.2.2.1 m 11) i2.toNatClampNeg v2) (e3 : d3 = ye d2 (S.2.2.1 m 11) i3.toNatClampNeg v3) (e4 : d4 = ye d3 (S.2.2.1 m 11) i4.toNatClampNeg v4) (e5 : d5 = ye d4 (S.2.2.1 m 11) i5.toNatClampNeg v5)
    (q1 : i1.toInt = 12 * (p : Int)) (q2 : i2.toInt = 12 * (p : Int) + 1) (q3 : i3.toInt = 12 * (p : Int) + 2) (q4 : i4.toInt = 12 * (p : Int) + 5) (q5 : i5.toInt = 12 * (p : Int) + 10) : d5.2.2.2.2 (S.2.2.1 m 11) (12 * p) = v1 ∧ d5.2.2.2.2 (S.2.2.1 m 11) (12 * p + 2) = v3 ∧ d5.2.2.2.2 (S.2.2.1 m 11) (12 * p + 3) = 0 ∧ zPf S d0 d5 m (fun i => i / 12 = p) := by
  have z12 : (12 : Int32).toInt = 12 := by decide +kernel
  have k12 := Int32.le_iff_toInt_le.mp hk
  rw [z12] at k12
  obtain ⟨h0, h12, hA, hB⟩ := hz
  have c : ∀ (i : Int32), i.toNatClampNeg = i.toInt.toNat := fun _ => rfl
  have r : ∀ (d u : yD) (i : Int32) (v : Int64), u = ye d (S.2.2.1 m 11) i.toNatClampNeg v → ∀ j, u.2.2.2.2 (S.2.2.1 m 11) j = if j = i.toInt.toNat then v else d.2.2.2.2 (S.2.2.1 m 11) j := fun d u i v e j => by
    rw [e]
    show va_up d.2.2.2.2 (S.2.2.1 m 11) _ (S.2.2.1 m 11) j = _
    rw [va_up_self]; rfl
  have a : ∀ j, d5.2.2.2.2 (S.2.2.1 m 11) j = if j = 12 * p + 10 then v5 else if j = 12 * p + 5 then v4 else if j = 12 * p + 2 then v3 else if j = 12 * p + 1 then v2 else if j = 12 * p then v1 else dz.2.2.2.2 (S.2.2.1 m 11) j := fun j => by
    rw [r _ _ _ _ e5, r _ _ _ _ e4, r _ _ _ _ e3, r _ _ _ _ e2, r _ _ _ _ e1, show i5.toInt.toNat = 12 * p + 10 by omega, show i4.toInt.toNat = 12 * p + 5 by omega, show i3.toInt.toNat = 12 * p + 2 by omega, show i2.toInt.toNat = 12 * p + 1 by omega, show i1.toInt.toNat = 12 * p by omega]
  refine ⟨?_, ?_, ?_, fun i hi hn => ?_⟩
  · rw [a, if_neg (by omega), if_neg (by omega), if_neg (by omega), if_neg (by omega), if_pos rfl]
  · rw [a, if_neg (by omega), if_neg (by omega), if_pos rfl]
  · rw [a, if_neg (by omega), if_neg (by omega), if_neg (by omega), if_neg (by omega), if_neg (by omega)]
    exact hA 3 (by omega)
  · have hn : ¬ i / 12 = p := hn
    rw [a, if_neg (by omega), if_neg (by omega), if_neg (by omega), if_neg (by omega), if_neg (by omega)]
    exact hB i (by omega)
