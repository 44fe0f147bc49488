/-! ports by their numbers -/
theorem yPA_in {S : yS} {b : Nat} {p : Int32} (hSh : ySh S) (hb : b ∈ S.1) (hkb : S.2.1 b = 0) (h0 : 0 ≤ p.toInt) (h7 : p.toInt ≤ 7) : S.2.2.2 (S.2.2.1 b 3) p.toNatClampNeg = some (yPA S b p) ∧ yPA S b p ∈ S.1 ∧ S.2.1 (yPA S b p) = 4 ∧ p.toNatClampNeg < 8 := by
  have z : (0 : Int32).toInt = 0 := by decide +kernel
  have z8 : (8 : Int32).toInt = 8 := by decide +kernel
  have h8 : p.toNatClampNeg < 8 := by
    show p.toInt.toNat < 8
    omega
  obtain ⟨q1, q2⟩ := ySh.f0_3 hSh b hb hkb
  obtain ⟨y, e, hy, hky⟩ := ySh.q25 hSh _ q1 q2 _ h8
  have g : yPA S b p = y := yPA_i (fun q => by have := Int32.lt_iff_toInt_lt.mp q; omega) (fun q => by have := Int32.le_iff_toInt_le.mp q; omega) e
  rw [g]
  exact ⟨e, hy, hky, h8⟩
theorem yPA_inj {S : yS} {b b2 : Nat} {p p2 : Int32} (hSh : ySh S) (hb : b ∈ S.1) (hkb : S.2.1 b = 0) (hb2 : b2 ∈ S.1) (hkb2 : S.2.1 b2 = 0) (h0 : 0 ≤ p.toInt) (h7 : p.toInt ≤ 7) (g0 : 0 ≤ p2.toInt) (g7 : p2.toInt ≤ 7) (e : yPA S b p = yPA S b2 p2) : b = b2 ∧ p = p2 := by
  obtain ⟨a1, a2, a3, a4⟩ := yPA_in hSh hb hkb h0 h7
  obtain ⟨c1, c2, c3, c4⟩ := yPA_in hSh hb2 hkb2 g0 g7
  obtain ⟨q1, q2⟩ := ySh.f0_3 hSh b hb hkb
  obtain ⟨r1, r2⟩ := ySh.f0_3 hSh b2 hb2 hkb2
  rw [e] at a1
  obtain ⟨s1, s2⟩ := ySh.jq hSh _ _ _ _ _ q1 r1 q2 r2 a4 c4 a1 c1
  have s2 : p.toInt.toNat = p2.toInt.toNat := s2
  exact ⟨ySh.j0_3 hSh _ _ hb hb2 hkb hkb2 s1, Int32.toInt_inj.mp (by omega)⟩
theorem yPA_ne {S : yS} {b b2 : Nat} {p : Int32} (hSh : ySh S) (hb : b ∈ S.1) (hkb : S.2.1 b = 0) (hb2 : b2 ∈ S.1) (hkb2 : S.2.1 b2 = 0) (hne : b2 ≠ b) : yPA S b2 p ≠ yPA S b p := by
  have z : (0 : Int32).toInt = 0 := by decide +kernel
  have z7 : (7 : Int32).toInt = 7 := by decide +kernel
  intro e
  by_cases h : 0 ≤ p.toInt ∧ p.toInt ≤ 7
  · exact hne (yPA_inj hSh hb2 hkb2 hb hkb h.1 h.2 h.1 h.2 e).1
  · have h2 : p < 0 ∨ 7 < p := by
      rw [Int32.lt_iff_toInt_lt, Int32.lt_iff_toInt_lt, z, z7]; omega
    unfold yPA at e
    rw [if_pos h2, if_pos h2] at e
    exact hne (ySh.j0_4 hSh _ _ hb2 hb hkb2 hkb e)
/-- in the midst of the ports of a book taken over by another book -/
def zTI (S : yS) (d0 d : yD) (h0 h1 : Nat) (k : Int32) : Prop := 0 ≤ k.toInt ∧ (∀ p : Int32, 0 ≤ p.toInt → p.toInt ≤ 7 → p.toInt < k.toInt → d.1 (yPA S h0 p) 2 = d0.1 (yPA S h1 p) 2 ∧ d.1 (yPA S h0 p) 3 = d0.1 (yPA S h1 p) 3 ∧ d.2.1 (yPA S h0 p) 8 = d0.2.1 (yPA S h1 p) 8) ∧ (∀ a, S.2.1 a = 4 → (∀ p : Int32, 0 ≤ p.toInt → p.toInt ≤ 7 → a ≠ yPA S h0 p) → d.1 a = d0.1 a ∧ d.2.1 a = d0.2.1 a)
theorem zTI.ini {S : yS} {d0 : yD} {h0 h1 : Nat} : zTI S d0 d0 h0 h1 0 := ⟨by decide, fun p a _ c => absurd c (by rw [show (0 : Int32).toInt = 0 by decide +kernel]; omega), fun _ _ _ => ⟨rfl, rfl⟩⟩
theorem zTI.step {S : yS} {d0 d u : yD} {h0 h1 r1 r2 : Nat} {k : Int32} (h : zTI S d0 d h0 h1 k) (hSh : ySh S) (hm0 : h0 ∈ S.1) (hk0 : S.2.1 h0 = 0) (hm1 : h1 ∈ S.1) (hk1 : S.2.1 h1 = 0) (hne : h1 ≠ h0) (hc : ¬ 8 ≤ k) (e1 : r1 = yPA S h0 k) (e2 : r2 = yPA S h1 k) (hu : u.1 r1 2 = d.1 r2 2 ∧ u.1 r1 3 = d.1 r2 3 ∧ u.2.1 r1 8 = d.2.1 r2 8 ∧ ∀ a, S.2.1 a = 4 → a ≠ r1 → u.1 a = d.1 a ∧ u.2.1 a = d.2.1 a) : zTI S d0 u h0 h1 (k + 1) := by
  have z8 : (8 : Int32).toInt = 8 := by decide +kernel
  obtain ⟨hp, hA, hB⟩ := h
  have k8 := Int32.lt_iff_toInt_lt.mp (Int32.not_le.mp hc)
  rw [z8] at k8
  have ek : (k + 1).toInt = k.toInt + 1 := tadd rfl rfl (by decide +kernel : (1 : Int32).toInt = 1) (by omega) (by omega)
  obtain ⟨u1, u2, u3, u4⟩ := hu
  have q1 := yPA_in hSh hm1 hk1 hp (by omega)
  have qs := hB r2 (by rw [e2]; exact q1.2.2.1) (fun p a b => by
    rw [e2]; intro e
    exact hne (yPA_inj hSh hm1 hk1 hm0 hk0 hp (by omega) a b e).1)
  refine ⟨by omega, fun p a b c => ?_, fun a ha hn => ?_⟩
  · by_cases e : p = k
    · rw [e, ← e1, ← e2]
      exact ⟨u1.trans (congrFun qs.1 2), u2.trans (congrFun qs.1 3), u3.trans (congrFun qs.2 8)⟩
    · have e' : p.toInt ≠ k.toInt := fun q => e (Int32.toInt_inj.mp q)
      obtain ⟨g1, g2, g3⟩ := hA p a b (by omega)
      have q0 := yPA_in hSh hm0 hk0 a b
      obtain ⟨w1, w2⟩ := u4 _ q0.2.2.1 (by
        rw [e1]; intro q
        exact e (yPA_inj hSh hm0 hk0 hm0 hk0 a b hp (by omega) q).2)
      rw [w1, w2]; exact ⟨g1, g2, g3⟩
  · obtain ⟨w1, w2⟩ := u4 a ha (by rw [e1]; exact hn k hp (by omega))
    obtain ⟨g1, g2⟩ := hB a ha hn
    exact ⟨w1.trans g1, w2.trans g2⟩
theorem zTI.fin {S : yS} {d0 d u e : yD} {h0 h1 : Nat} {k : Int32} (h : zTI S d0 d h0 h1 k) (hSh : ySh S) (hm0 : h0 ∈ S.1) (hk0 : S.2.1 h0 = 0) (hm1 : h1 ∈ S.1) (hk1 : S.2.1 h1 = 0) (hc : 8 ≤ k) (ha : ∀ a, S.2.1 a = 4 → u.1 a = d.1 a ∧ u.2.1 a = d.2.1 a) (hb : ∀ a, S.2.1 a = 4 → d0.1 a = e.1 a ∧ d0.2.1 a = e.2.1 a) : (∀ p : Int32, 0 ≤ p.toInt → p.toInt ≤ 7 → u.1 (yPA S h0 p) 2 = e.1 (yPA S h1 p) 2 ∧ u.1 (yPA S h0 p) 3 = e.1 (yPA S h1 p) 3 ∧ u.2.1 (yPA S h0 p) 8 = e.2.1 (yPA S h1 p) 8) ∧ (∀ a, S.2.1 a = 4 → (∀ p : Int32, 0 ≤ p.toInt → p.toInt ≤ 7 → a ≠ yPA S h0 p) → u.1 a = e.1 a ∧ u.2.1 a = e.2.1 a) := by
  have z8 : (8 : Int32).toInt = 8 := by decide +kernel
  have k8 := Int32.le_iff_toInt_le.mp hc
  rw [z8] at k8
  obtain ⟨hp, hA, hB⟩ := h
  refine ⟨fun p a b => ?_, fun a ha4 hn => ?_⟩
  · obtain ⟨g1, g2, g3⟩ := hA p a b (by omega)
    have q0 := yPA_in hSh hm0 hk0 a b
    have q1 := yPA_in hSh hm1 hk1 a b
    obtain ⟨w1, w2⟩ := ha _ q0.2.2.1
    obtain ⟨x1, x2⟩ := hb _ q1.2.2.1
    rw [w1, w2, g1, g2, g3, x1, x2]
    exact ⟨rfl, rfl, rfl⟩
  · obtain ⟨w1, w2⟩ := ha a ha4
    obtain ⟨g1, g2⟩ := hB a ha4 hn
    obtain ⟨x1, x2⟩ := hb a ha4
    exact ⟨w1.trans (g1.trans x1), w2.trans (g2.trans x2)⟩
/-- ints and longs of all of a code stand -/
def zKp (S : yS) (c : Nat) (d u : yD) : Prop := ∀ a, S.2.1 a = c → u.1 a = d.1 a ∧ u.2.1 a = d.2.1 a
/-- what a book takes over of another one: its claim, its ports; nothing else of those kinds changes -/
def zTake (S : yS) (d u : yD) (h0 h1 : Nat) : Prop := (u.1 (S.2.2.1 h0 2) 2 = d.1 (S.2.2.1 h1 2) 2 ∧ u.1 (S.2.2.1 h0 2) 3 = d.1 (S.2.2.1 h1 2) 3 ∧ ∀ a, S.2.1 a = 1 → a ≠ S.2.2.1 h0 2 → u.1 a = d.1 a ∧ u.2.1 a = d.2.1 a) ∧ (∀ p : Int32, 0 ≤ p.toInt → p.toInt ≤ 7 → u.1 (yPA S h0 p) 2 = d.1 (yPA S h1 p) 2 ∧ u.1 (yPA S h0 p) 3 = d.1 (yPA S h1 p) 3 ∧ u.2.1 (yPA S h0 p) 8 = d.2.1 (yPA S h1 p) 8) ∧ (∀ a, S.2.1 a = 4 → (∀ p : Int32, 0 ≤ p.toInt → p.toInt ≤ 7 → a ≠ yPA S h0 p) → u.1 a = d.1 a ∧ u.2.1 a = d.2.1 a)
theorem zTake.mono {S : yS} {d d1 u1 u : yD} {h0 h1 : Nat} (h : zTake S d1 u1 h0 h1) (hSh : ySh S) (hm0 : h0 ∈ S.1) (hk0 : S.2.1 h0 = 0) (hm1 : h1 ∈ S.1) (hk1 : S.2.1 h1 = 0) (a1 : zKp S 1 d d1) (a4 : zKp S 4 d d1) (b1 : zKp S 1 u1 u) (b4 : zKp S 4 u1 u) : zTake S d u h0 h1 := by
  obtain ⟨⟨c1, c2, c3⟩, c4, c5⟩ := h
  have k0 := (ySh.f0_2 hSh h0 hm0 hk0).2
  have k1 := (ySh.f0_2 hSh h1 hm1 hk1).2
  refine ⟨⟨?_, ?_, fun a ha hn => ?_⟩, fun p p0 p7 => ?_, fun a ha hn => ?_⟩
  · rw [(b1 _ k0).1, c1, (a1 _ k1).1]
  · rw [(b1 _ k0).1, c2, (a1 _ k1).1]
  · obtain ⟨x, y⟩ := a1 a ha
    obtain ⟨z, w⟩ := c3 a ha hn
    obtain ⟨s, t⟩ := b1 a ha
    exact ⟨s.trans (z.trans x), t.trans (w.trans y)⟩
  · obtain ⟨g1, g2, g3⟩ := c4 p p0 p7
    obtain ⟨x, y⟩ := a4 _ (yPA_in hSh hm1 hk1 p0 p7).2.2.1
    obtain ⟨s, t⟩ := b4 _ (yPA_in hSh hm0 hk0 p0 p7).2.2.1
    rw [s, t, g1, g2, g3, x, y]
    exact ⟨rfl, rfl, rfl⟩
  · obtain ⟨x, y⟩ := a4 a ha
    obtain ⟨z, w⟩ := c5 a ha hn
    obtain ⟨s, t⟩ := b4 a ha
    exact ⟨s.trans (z.trans x), t.trans (w.trans y)⟩
