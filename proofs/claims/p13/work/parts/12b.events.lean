/-! the DAYS of ports, as a whole -/
/-- other ports' DAYS stand -/
def zKo (S : yS) (d u : yD) (a : Nat) : Prop := ∀ b, b ∈ S.1 → S.2.1 b = 4 → b ≠ a → u.2.2.2.1 (S.2.2.1 b 0) = d.2.2.2.1 (S.2.2.1 b 0)
/-- all EVENTS and DAYS stand -/
def zNe (S : yS) (d u : yD) : Prop := ∀ a, a ∈ S.1 → (S.2.1 a = 2 → u.1 a = d.1 a ∧ u.2.2.2.1 (S.2.2.1 a 0) = d.2.2.2.1 (S.2.2.1 a 0)) ∧ (S.2.1 a = 4 → u.2.2.2.1 (S.2.2.1 a 0) = d.2.2.2.1 (S.2.2.1 a 0))
theorem zKo.rf {S : yS} {d : yD} {a : Nat} : zKo S d d a := fun _ _ _ _ => rfl
theorem zKo.tr {S : yS} {d u v : yD} {a : Nat} (h : zKo S d u a) (h2 : zKo S u v a) : zKo S d v a := fun b x y z => (h2 b x y z).trans (h b x y z)
theorem zKo.ag {S : yS} {d u v : yD} {a : Nat} {M : List Nat} (h : zKo S d u a) (hSh : ySh S) (hg : yAg S M u v) (hM : 20 ∉ M) : zKo S d v a := fun b hb hk hn => Eq.trans (hg _ (by rw [(ySh.f4_0 hSh b hb hk).2]; exact hM)).2.2.2.1 (h b hb hk hn)
theorem zKo.k {S : yS} {d u v : yD} {a : Nat} {f : Nat → Int32} (h : zKo S d u a) (hSh : ySh S) (ha : a ∈ S.1) (hk : S.2.1 a = 4) (ev : v = ycs u (S.2.2.1 a 0) f) : zKo S d v a := fun b hb hkb hn => by
  rw [ev, ycs_ne (fun w => hn (ySh.j4_0 hSh b a hb ha hkb hk w))]
  exact h b hb hkb hn
theorem zNe.rf {S : yS} {d : yD} : zNe S d d := fun _ _ => ⟨fun _ => ⟨rfl, rfl⟩, fun _ => rfl⟩
theorem zNe.ag {S : yS} {d u v : yD} {M : List Nat} (h : zNe S d u) (hSh : ySh S) (hg : yAg S M u v) (hM : 2 ∉ M ∧ 16 ∉ M ∧ 20 ∉ M) : zNe S d v := fun a ha => ⟨fun hk => by
  have q := (h a ha).1 hk
  refine ⟨(hg a (by rw [hk]; exact hM.1)).1.trans q.1, Eq.trans (hg _ ?_).2.2.2.1 q.2⟩
  rw [(ySh.f2_0 hSh a ha hk).2]
  exact hM.2.1, fun hk => Eq.trans (hg _ (by rw [(ySh.f4_0 hSh a ha hk).2]; exact hM.2.2)).2.2.2.1 ((h a ha).2 hk)⟩
/-- an array filled so far -/
def zFl (d u : yD) (a : Nat) (v : Int32) (n : Nat) : Prop := ∃ f : Nat → Int32, u = ycs d a f ∧ ∀ k, k < n → f k = v
theorem ycs_ycs {d : yD} {a : Nat} {f g : Nat → Int32} : ycs (ycs d a f) a g = ycs d a g := by
  unfold ycs
  have h : va_up (va_up d.2.2.2.1 a f) a g = va_up d.2.2.2.1 a g := by
    funext b
    by_cases e : b = a
    · subst e; rw [va_up_self, va_up_self]
    · rw [va_up_ne _ _ e, va_up_ne _ _ e, va_up_ne _ _ e]
  show (d.1, d.2.1, d.2.2.1, va_up (va_up d.2.2.2.1 a f) a g, d.2.2.2.2) = _
  rw [h]
theorem zFl.ini {d : yD} {a : Nat} {v : Int32} : zFl d d a v (0 : Int32).toInt.toNat := ⟨d.2.2.2.1 a, ycs_self.symm, fun k h => absurd h (by rw [show (0 : Int32).toInt.toNat = 0 by decide +kernel]; exact Nat.not_lt_zero _)⟩
theorem zFl.step {d u w : yD} {a : Nat} {v i z n : Int32} (h : zFl d u a v i.toInt.toNat) (h0 : ¬ i < 0) (c : ¬ n ≤ i) (e : w = ycs u a (upd (u.2.2.2.1 a) i.toNatClampNeg v)) (ez : z = i + 1) : zFl d w a v z.toInt.toNat := by
  obtain ⟨f, ef, hf⟩ := h
  have z0 : (0 : Int32).toInt = 0 := by decide +kernel
  have b : n.toInt < 2 ^ 31 := n.toInt_lt
  have c1 := Int32.lt_iff_toInt_lt.mp (Int32.not_le.mp c)
  have c0 := Int32.le_iff_toInt_le.mp (Int32.not_lt.mp h0)
  have ez' : z.toInt = i.toInt + 1 := tadd ez rfl i_one (by omega) (by omega)
  refine ⟨upd f i.toNatClampNeg v, ?_, fun k hk => ?_⟩
  · rw [e, ef, ycs_ycs, ycs_at]
  · show (if k = i.toInt.toNat then v else f k) = v
    by_cases q : k = i.toInt.toNat
    · rw [if_pos q]
    · rw [if_neg q]; exact hf k (by omega)
theorem zFl.fin {d u : yD} {a : Nat} {v i n : Int32} {N : Nat} (h : zFl d u a v i.toInt.toNat) (c : n ≤ i) (en : n = nI N) (hN : N < 2 ^ 31) : zFl d u a v N := by
  obtain ⟨f, ef, hf⟩ := h
  have q : (nI N).toInt = N := nI_toInt hN
  have c1 := Int32.le_iff_toInt_le.mp c
  rw [en, q] at c1
  exact ⟨f, ef, fun k hk => hf k (by omega)⟩
theorem zFl.at {d u : yD} {a : Nat} {v : Int32} {N : Nat} (h : zFl d u a v N) {k : Nat} (hk : k < N) : u.2.2.2.1 a k = v := by
  obtain ⟨f, ef, hf⟩ := h
  rw [ef, ycs_at]; exact hf k hk
theorem zFl.o {S : yS} {d0 d u : yD} {a : Nat} {v : Int32} {N : Nat} (h : zFl d u (S.2.2.1 a 0) v N) (h2 : zKo S d0 d a) (hSh : ySh S) (ha : a ∈ S.1) (hk : S.2.1 a = 4) : zKo S d0 u a := by
  obtain ⟨f, ef, hf⟩ := h
  exact h2.k hSh ha hk ef
/-- in the midst of the ports taken over: their DAYS -/
def zTN (S : yS) (d0 d : yD) (h0 h1 : Nat) (k : Int32) : Prop := (∀ p : Int32, 0 ≤ p.toInt → p.toInt ≤ 7 → p.toInt < k.toInt → ∀ j, j < 90 → d.2.2.2.1 (S.2.2.1 (yPA S h0 p) 0) j = d0.2.2.2.1 (S.2.2.1 (yPA S h1 p) 0) j) ∧ ∀ a, a ∈ S.1 → S.2.1 a = 4 → (∀ p : Int32, 0 ≤ p.toInt → p.toInt ≤ 7 → a ≠ yPA S h0 p) → d.2.2.2.1 (S.2.2.1 a 0) = d0.2.2.2.1 (S.2.2.1 a 0)
theorem zTN.ini {S : yS} {d0 : yD} {h0 h1 : Nat} : zTN S d0 d0 h0 h1 0 := ⟨fun p a _ c => absurd c (by rw [show (0 : Int32).toInt = 0 by decide +kernel]; omega), fun _ _ _ _ => rfl⟩
theorem zTN.step {S : yS} {d0 d u : yD} {h0 h1 r1 r2 : Nat} {k : Int32} (h : zTN S d0 d h0 h1 k) (h0' : 0 ≤ k.toInt) (hSh : ySh S) (hm0 : h0 ∈ S.1) (hk0 : S.2.1 h0 = 0) (hm1 : h1 ∈ S.1) (hk1 : S.2.1 h1 = 0) (hne : h1 ≠ h0) (hc : ¬ 8 ≤ k) (e1 : r1 = yPA S h0 k) (e2 : r2 = yPA S h1 k) (hu : (∀ j, j < 90 → u.2.2.2.1 (S.2.2.1 r1 0) j = d.2.2.2.1 (S.2.2.1 r2 0) j) ∧ zKo S d u r1) : zTN S d0 u h0 h1 (k + 1) := by
  have z8 : (8 : Int32).toInt = 8 := by decide +kernel
  obtain ⟨hA, hB⟩ := h
  have k8 := Int32.lt_iff_toInt_lt.mp (Int32.not_le.mp hc)
  rw [z8] at k8
  have ek : (k + 1).toInt = k.toInt + 1 := tadd rfl rfl i_one (by omega) (by omega)
  obtain ⟨u1, u2⟩ := hu
  have q1 := yPA_in hSh hm1 hk1 h0' (by omega)
  refine ⟨fun p a b c j hj => ?_, fun a ha hka hn => ?_⟩
  · by_cases e : p = k
    · rw [e, ← e1, ← e2, u1 j hj]
      exact congrFun (hB r2 (by rw [e2]; exact q1.2.1) (by rw [e2]; exact q1.2.2.1) (fun x x0 x7 => by
        rw [e2]; intro w
        exact hne (yPA_inj hSh hm1 hk1 hm0 hk0 h0' (by omega) x0 x7 w).1)) j
    · have e' : p.toInt ≠ k.toInt := fun q => e (Int32.toInt_inj.mp q)
      have q0 := yPA_in hSh hm0 hk0 a b
      rw [u2 _ q0.2.1 q0.2.2.1 (fun w => by
        rw [e1] at w
        exact e (yPA_inj hSh hm0 hk0 hm0 hk0 a b h0' (by omega) w).2)]
      exact hA p a b (by omega) j hj
  · rw [u2 a ha hka (by rw [e1]; exact hn k h0' (by omega))]
    exact hB a ha hka hn
theorem zTN.fin {S : yS} {d0 d u e : yD} {h0 h1 : Nat} {k : Int32} {M M' : List Nat} (h : zTN S d0 d h0 h1 k) (hSh : ySh S) (hm0 : h0 ∈ S.1) (hk0 : S.2.1 h0 = 0) (hm1 : h1 ∈ S.1) (hk1 : S.2.1 h1 = 0) (hc : 8 ≤ k) (ha : yAg S M d u) (hM : 20 ∉ M) (hb : yAg S M' e d0) (hM' : 20 ∉ M') : (∀ p : Int32, 0 ≤ p.toInt → p.toInt ≤ 7 → ∀ j, j < 90 → u.2.2.2.1 (S.2.2.1 (yPA S h0 p) 0) j = e.2.2.2.1 (S.2.2.1 (yPA S h1 p) 0) j) ∧ ∀ a, a ∈ S.1 → S.2.1 a = 4 → (∀ p : Int32, 0 ≤ p.toInt → p.toInt ≤ 7 → a ≠ yPA S h0 p) → u.2.2.2.1 (S.2.2.1 a 0) = e.2.2.2.1 (S.2.2.1 a 0) := by
  have z8 : (8 : Int32).toInt = 8 := by decide +kernel
  have k8 := Int32.le_iff_toInt_le.mp hc
  rw [z8] at k8
  have ga : ∀ a, a ∈ S.1 → S.2.1 a = 4 → u.2.2.2.1 (S.2.2.1 a 0) = d.2.2.2.1 (S.2.2.1 a 0) := fun a x y => (ha _ (by rw [(ySh.f4_0 hSh a x y).2]; exact hM)).2.2.2.1
  have gb : ∀ a, a ∈ S.1 → S.2.1 a = 4 → d0.2.2.2.1 (S.2.2.1 a 0) = e.2.2.2.1 (S.2.2.1 a 0) := fun a x y => (hb _ (by rw [(ySh.f4_0 hSh a x y).2]; exact hM')).2.2.2.1
  refine ⟨fun p a b j hj => ?_, fun a x y hn => ?_⟩
  · have q0 := yPA_in hSh hm0 hk0 a b
    have q1 := yPA_in hSh hm1 hk1 a b
    rw [ga _ q0.2.1 q0.2.2.1, ← gb _ q1.2.1 q1.2.2.1]
    exact h.1 p a b (by omega) j hj
  · rw [ga a x y, ← gb a x y]
    exact h.2 a x y hn
/-- what a book takes over: the EVENTS, the DAYS -/
def zTe (S : yS) (d u : yD) (h0 h1 : Nat) : Prop := ((∀ E, zEc S d (S.2.2.1 h1 1) E → zEc S u (S.2.2.1 h0 1) E) ∧ zEo S d u (S.2.2.1 h0 1)) ∧ (∀ p : Int32, 0 ≤ p.toInt → p.toInt ≤ 7 → ∀ j, j < 90 → u.2.2.2.1 (S.2.2.1 (yPA S h0 p) 0) j = d.2.2.2.1 (S.2.2.1 (yPA S h1 p) 0) j) ∧ ∀ a, a ∈ S.1 → S.2.1 a = 4 → (∀ p : Int32, 0 ≤ p.toInt → p.toInt ≤ 7 → a ≠ yPA S h0 p) → u.2.2.2.1 (S.2.2.1 a 0) = d.2.2.2.1 (S.2.2.1 a 0)
theorem zTe.mono {S : yS} {d d1 u1 u : yD} {h0 h1 : Nat} {M M' : List Nat} (h : zTe S d1 u1 h0 h1) (hSh : ySh S) (hm0 : h0 ∈ S.1) (hk0 : S.2.1 h0 = 0) (hm1 : h1 ∈ S.1) (hk1 : S.2.1 h1 = 0) (ha : yAg S M d d1) (hM : 2 ∉ M ∧ 16 ∉ M ∧ 20 ∉ M) (hb : yAg S M' u1 u) (hM' : 2 ∉ M' ∧ 16 ∉ M' ∧ 20 ∉ M') : zTe S d u h0 h1 := by
  obtain ⟨⟨a1, a2⟩, a3, a4⟩ := h
  have e0 := ySh.f0_1 hSh h0 hm0 hk0
  have e1 := ySh.f0_1 hSh h1 hm1 hk1
  have ga : ∀ a, a ∈ S.1 → S.2.1 a = 4 → u.2.2.2.1 (S.2.2.1 a 0) = u1.2.2.2.1 (S.2.2.1 a 0) := fun a x y => (hb _ (by rw [(ySh.f4_0 hSh a x y).2]; exact hM'.2.2)).2.2.2.1
  have gb : ∀ a, a ∈ S.1 → S.2.1 a = 4 → d1.2.2.2.1 (S.2.2.1 a 0) = d.2.2.2.1 (S.2.2.1 a 0) := fun a x y => (ha _ (by rw [(ySh.f4_0 hSh a x y).2]; exact hM.2.2)).2.2.2.1
  refine ⟨⟨fun E hE => (a1 E (hE.ag hSh e1.1 e1.2 ha ⟨hM.1, hM.2.1⟩)).ag hSh e0.1 e0.2 hb ⟨hM'.1, hM'.2.1⟩, (zEo.tr (zEo.ag zEo.rf hSh ha ⟨hM.1, hM.2.1⟩) a2).ag hSh hb ⟨hM'.1, hM'.2.1⟩⟩, fun p x y j hj => ?_, fun a x y hn => ?_⟩
  · have q0 := yPA_in hSh hm0 hk0 x y
    have q1 := yPA_in hSh hm1 hk1 x y
    rw [ga _ q0.2.1 q0.2.2.1, a3 p x y j hj, gb _ q1.2.1 q1.2.2.1]
  · rw [ga a x y, a4 a x y hn, gb a x y]
