/-! the DAYS of ports, as a whole -/
/-- other ports' DAYS stand -/
def zKo (S : yS) (d u : yD) (a : Nat) : Prop := ∀ b, b ∈ S.1 → S.2.1 b = 4 → b ≠ a → u.2.2.2.1 (S.2.2.1 b 0) = d.2.2.2.1 (S.2.2.1 b 0)
/-- all EVENTS and DAYS stand -/
def zNe (S : yS) (d u : yD) : Prop := ∀ a, a ∈ S.1 → (S.2.1 a = 2 → u.1 a = d.1 a ∧ u.2.2.2.1 (S.2.2.1 a 0) = d.2.2.2.1 (S.2.2.1 a 0)) ∧ (S.2.1 a = 4 → u.2.2.2.1 (S.2.2.1 a 0) = d.2.2.2.1 (S.2.2.1 a 0))
theorem zKo.rf {S : yS} {d : yD} {a : Nat} : zKo S d d a := fun _ _ _ _ => rfl
theorem zKo.tr {S : yS} {d u v : yD} {a : Nat} (h : zKo S d u a) (h2 : zKo S u v a) : zKo S d v a := fun b x y z => (h2 b x y z).trans (h b x y z)
theorem zKo.ag {S : yS} {d u v : yD} {a : Nat} {M : List Nat} (h : zKo S d u a) (hSh : ySh S) (hg : yAg S M u v) (hM : 20 ∉ M) : zKo S d v a := fun b hb hk hn => Eq.trans (hg _ (by rw [(ySh.f4_0 hSh b hb hk).2]; exact hM)).2.2.2.1 (h b hb hk hn)
theorem zKo.k {S : yS} {d u v : yD} {a : Nat} {f : Nat → Int32} (h : zKo S d u a) (hSh : ySh S) (ha : a ∈ S.1) (hk : S.2.1 a = 4) (ev : v = ycs u (S.2.2.1 a 0) f) : zKo S d v a := fun b hb hkb hn => by
  rw [ev, ycs_ne (fun w => hn (ySh.j4_0 hSh b a hb ha hkb hk w))]
  exact h b hb hkb hn
theorem zNe.rf {S : yS} {d : yD} : zNe S d d := fun _ _ => ⟨fun _ => ⟨rfl, rfl⟩, fun _ => rfl⟩
theorem zNe.ag {S : yS} {d u v : yD} {M : List Nat} (h : zNe S d u) (hSh : ySh S) (hg : yAg S M u v) (hM : 2 ∉ M ∧ 16 ∉ M ∧ 20 ∉ M) : zNe S d v := fun a ha => ⟨fun hk => by
  have q := (h a ha).1 hk
  refine ⟨(hg a (by rw [hk]; exact hM.1)).1.trans q.1, Eq.trans (hg _ ?_).2.2.2.1 q.2⟩
  rw [(ySh.f2_0 hSh a ha hk).2]
  exact hM.2.1, fun hk => Eq.trans (hg _ (by rw [(ySh.f4_0 hSh a ha hk).2]; exact hM.2.2)).2.2.2.1 ((h a ha).2 hk)⟩
/-- an array filled so far -/
def zFl (d u : yD) (a : Nat) (v : Int32) (n : Nat) : Prop := ∃ f : Nat → Int32, u = ycs d a f ∧ ∀ k, k < n → f k = v
theorem ycs_ycs {d : yD} {a : Nat} {f g : Nat → Int32} : ycs (ycs d a f) a g = ycs d a g := by
  unfold ycs
  have h : va_up (va_up d.2.2.2.1 a f) a g = va_up d.2.2.2.1 a g := by
    funext b
    by_cases e : b = a
    · subst e; rw [va_up_self, va_up_self]
    · rw [va_up_ne _ _ e, va_up_ne _ _ e, va_up_ne _ _ e]
  show (d.1, d.2.1, d.2.2.1, va_up (va_up d.2.2.2.1 a f) a g, d.2.2.2.2) = _
  rw [h]
theorem zFl.ini {d : yD} {a : Nat} {v : Int32} : zFl d d a v (0 : Int32).toInt.toNat := ⟨d.2.2.2.1 a, ycs_self.symm, fun k h => absurd h (by rw [show (0 : Int32).toInt.toNat = 0 by decide +kernel]; exact Nat.not_lt_zero _)⟩
theorem zFl.step {d u w : yD} {a : Nat} {v i z n : Int32} (h : zFl d u a v i.toInt.toNat) (h0 : ¬ i < 0) (c : ¬ n ≤ i) (e : w = ycs u a (upd (u.2.2.2.1 a) i.toNatClampNeg v)) (ez : z = i + 1) : zFl d w a v z.toInt.toNat := by
  obtain ⟨f, ef, hf⟩ := h
  have z0 : (0 : Int32).toInt = 0 := by decide +kernel
  have b : n.toInt < 2 ^ 31 := n.toInt_lt
  have c1 := Int32.lt_iff_toInt_lt.mp (Int32.not_le.mp c)
  have c0 := Int32.le_iff_toInt_le.mp (Int32.not_lt.mp h0)
  have ez' : z.toInt = i.toInt + 1 := tadd ez rfl i_one (by omega) (by omega)
  refine ⟨upd f i.toNatClampNeg v, ?_, fun k hk => ?_⟩
  · rw [e, ef, ycs_ycs, ycs_at]
  · show (if k = i.toInt.toNat then v else f k) = v
    by_cases q : k = i.toInt.toNat
    · rw [if_pos q]
    · rw [if_neg q]; exact hf k (by omega)
theorem zFl.fin {d u : yD} {a : Nat} {v i n : Int32} {N : Nat} (h : zFl d u a v i.toInt.toNat) (c : n ≤ i) (en : n = nI N) (hN : N < 2 ^ 31) : zFl d u a v N := by
  obtain ⟨f, ef, hf⟩ := h
  have q : (nI N).toInt = N := nI_toInt hN
  have c1 := Int32.le_iff_toInt_le.mp c
  rw [en, q] at c1
  exact ⟨f, ef, fun k hk => hf k (by omega)⟩
theorem zFl.at {d u : yD} {a : Nat} {v : Int32} {N : Nat} (h : zFl d u a v N) {k : Nat} (hk : k < N) : u.2.2.2.1 a k = v := by
  obtain ⟨f, ef, hf⟩ := h
  rw [ef, ycs_at]; exact hf k hk
theorem zFl.o {S : yS} {d0 d u : yD} {a : Nat} {v : Int32} {N : Nat} (h : zFl d u (S.2.2.1 a 0) v N) (h2 : zKo S d0 d a) (hSh : ySh S) (ha : a ∈ S.1) (hk : S.2.1 a = 4) : zKo S d0 u a := by
  obtain ⟨f, ef, hf⟩ := h
  exact h2.k hSh ha hk ef
/-- in the midst of the ports taken over: their DAYS -/
def zTN (S : yS) (d0 d : yD) (h0 h1 : Nat) (k : Int32) : Prop := (∀ p : Int32, 0 ≤ p.toInt → p.toInt ≤ 7 → p.toInt < k.toInt → ∀ j, j < 90 → d.2.2.2.1 (S.2.2.1 (yPA S h0 p) 0) j = d0.2.2.2.1 (S.2.2.1 (yPA S h1 p) 0) j) ∧ ∀ a, a ∈ S.1 → S.2.1 a = 4 → (∀ p : Int32, 0 ≤ p.toInt → p.toInt ≤ 7 → a ≠ yPA S h0 p) → d.2.2.2.1 (S.2.2.1 a 0) = d0.2.2.2.1 (S.2.2.1 a 0)
theorem zTN.ini {S : yS} {d0 : yD} {h0 h1 : Nat} : zTN S d0 d0 h0 h1 0 := ⟨fun p a _ c => absurd c (by rw [show (0 : Int32).toInt = 0 by decide +kernel]; omega), fun _ _ _ _ => rfl⟩
theorem zTN.step {S : yS} {d0 d u : yD} {h0 h1 r1 r2 : Nat} {k : Int32} (h : zTN S d0 d h0 h1 k) (h0' : 0 ≤ k.toInt) (hSh : ySh S) (hm0 : h0 ∈ S.1) (hk0 : S.2.1 h0 = 0) (hm1 : h1 ∈ S.1) (hk1 : S.2.1 h1 = 0) (hne : h1 ≠ h0) (hc : ¬ 8 ≤ k) (e1 : r1 = yPA S h0 k) (e2 : r2 = yPA S h1 k) (hu : (∀ j, j < 90 → u.2.2.2.1 (S.2.2.1 r1 0) j = d.2.2.2.1 (S.2.2.1 r2 0) j) ∧ zKo S d u r1) : zTN S d0 u h0 h1 (k + 1) := by
  have z8 : (8 : Int32).toInt = 8 := by decide +kernel
  obtain ⟨hA, hB⟩ := h
  have k8 := Int32.lt_iff_toInt_lt.mp (Int32.not_le.mp hc)
  rw [z8] at k8
  have ek : (k + 1).toInt = k.toInt + 1 := tadd rfl rfl i_one (by omega) (by omega)
  obtain ⟨u1, u2⟩ := hu
  have q1 := yPA_in hSh hm1 hk1 h0' (by omega)
  refine ⟨fun p a b c j hj => ?_, fun a ha hka hn => ?_⟩
  · by_cases e : p = k
    · rw [e, ← e1, ← e2, u1 j hj]
      exact congrFun (hB r2 (by rw [e2]; exact q1.2.1) (by rw [e2]; exact q1.2.2.1) (fun x x0 x7 => by
        rw [e2]; intro w
        exact hne (yPA_inj hSh hm1 hk1 hm0 hk0 h0' (by omega) x0 x7 w).1)) j
    · have e' : p.toInt ≠ k.toInt := fun q => e (Int32.toInt_inj.mp q)
      have q0 := yPA_in hSh hm0 hk0 a b
      rw [u2 _ q0.2.1 q0.2.2.1 (fun w => by
        rw [e1] at w
        exact e (yPA_inj hSh hm0 hk0 hm0 hk0 a b h0' (by omega) w).2)]
      exact hA p a b (by omega) j hj
  · rw [u2 a ha hka (by rw [e1]; exact hn k h0' (by omega))]
    exact hB a ha hka hn
theorem zTN.fin {S : yS} {d0 d u e : yD} {h0 h1 : Nat} {k : Int32} {M M' : List Nat} (h : zTN S d0 d h0 h1 k) (hSh : ySh S) (hm0 : h0 ∈ S.1) (hk0 : S.2.1 h0 = 0) (hm1 : h1 ∈ S.1) (hk1 : S.2.1 h1 = 0) (hc : 8 ≤ k) (ha : yAg S M d u) (hM : 20 ∉ M) (hb : yAg S M' e d0) (hM' : 20 ∉ M') : (∀ p : Int32, 0 ≤ p.toInt → p.toInt ≤ 7 → ∀ j, j < 90 → u.2.2.2.1 (S.2.2.1 (yPA S h0 p) 0) j = e.2.2.2.1 (S.2.2.1 (yPA S h1 p) 0) j) ∧ ∀ a, a ∈ S.1 → S.2.1 a = 4 → (∀ p : Int32, 0 ≤ p.toInt → p.toInt ≤ 7 → a ≠ yPA S h0 p) → u.2.2.2.1 (S.2.2.1 a 0) = e.2.2.2.1 (S.2.2.1 a 0) := by
  have z8 : (8 : Int32).toInt = 8 := by decide +kernel
  have k8 := Int32.le_iff_toInt_le.mp hc
  rw [z8] at k8
  have ga : ∀ a, a ∈ S.1 → S.2.1 a = 4 → u.2.2.2.1 (S.2.2.1 a 0) = d.2.2.2.1 (S.2.2.1 a 0) := fun a x y => (ha _ (by rw [(ySh.f4_0 hSh a x y).2]; exact hM)).2.2.2.1
  have gb : ∀ a, a ∈ S.1 → S.2.1 a = 4 → d0.2.2.2.1 (S.2.2.1 a 0) = e.2.2.2.1 (S.2.2.1 a 0) := fun a x y => (hb _ (by rw [(ySh.f4_0 hSh a x y).2]; exact hM')).2.2.2.1
  refine ⟨fun p a b j hj => ?_, fun a x y hn => ?_⟩
  · have q0 := yPA_in hSh hm0 hk0 a b
    have q1 := yPA_in hSh hm1 hk1 a b
    rw [ga _ q0.2.1 q0.2.2.1, ← gb _ q1.2.1 q1.2.2.1]
    exact h.1 p a b (by omega) j hj
  · rw [ga a x y, ← gb a x y]
    exact h.2 a x y hn
/-- what a book takes over: the EVENTS, the DAYS -/
def zTe (S : yS) (d u : yD) (h0 h1 : Nat) : Prop := ((∀ E, zEc S d (S.2.2.1 h1 1) E → zEc S u (S.2.2.1 h0 1) E) ∧ zEo S d u (S.2.2.1 h0 1)) ∧ (∀ p : Int32, 0 ≤ p.toInt → p.toInt ≤ 7 → ∀ j, j < 90 → u.2.2.2.1 (S.2.2.1 (yPA S h0 p) 0) j = d.2.2.2.1 (S.2.2.1 (yPA S h1 p) 0) j) ∧ ∀ a, a ∈ S.1 → S.2.1 a = 4 → (∀ p : Int32, 0 ≤ p.toInt → p.toInt ≤ 7 → a ≠ yPA S h0 p) → u.2.2.2.1 (S.2.2.1 a 0) = d.2.2.2.1 (S.2.2.1 a 0)
theorem zTe.mono {S : yS} {d d1 u1 u : yD} {h0 h1 : Nat} {M M' : List Nat} (h : zTe S d1 u1 h0 h1) (hSh : ySh S) (hm0 : h0 ∈ S.1) (hk0 : S.2.1 h0 = 0) (hm1 : h1 ∈ S.1) (hk1 : S.2.1 h1 = 0) (ha : yAg S M d d1) (hM : 2 ∉ M ∧ 16 ∉ M ∧ 20 ∉ M) (hb : yAg S M' u1 u) (hM' : 2 ∉ M' ∧ 16 ∉ M' ∧ 20 ∉ M') : zTe S d u h0 h1 := by
  obtain ⟨⟨a1, a2⟩, a3, a4⟩ := h
  have e0 := ySh.f0_1 hSh h0 hm0 hk0
  have e1 := ySh.f0_1 hSh h1 hm1 hk1
  have ga : ∀ a, a ∈ S.1 → S.2.1 a = 4 → u.2.2.2.1 (S.2.2.1 a 0) = u1.2.2.2.1 (S.2.2.1 a 0) := fun a x y => (hb _ (by rw [(ySh.f4_0 hSh a x y).2]; exact hM'.2.2)).2.2.2.1
  have gb : ∀ a, a ∈ S.1 → S.2.1 a = 4 → d1.2.2.2.1 (S.2.2.1 a 0) = d.2.2.2.1 (S.2.2.1 a 0) := fun a x y => (ha _ (by rw [(ySh.f4_0 hSh a x y).2]; exact hM.2.2)).2.2.2.1
  refine ⟨⟨fun E hE => (a1 E (hE.ag hSh e1.1 e1.2 ha ⟨hM.1, hM.2.1⟩)).ag hSh e0.1 e0.2 hb ⟨hM'.1, hM'.2.1⟩, (zEo.tr (zEo.ag zEo.rf hSh ha ⟨hM.1, hM.2.1⟩) a2).ag hSh hb ⟨hM'.1, hM'.2.1⟩⟩, fun p x y j hj => ?_, fun a x y hn => ?_⟩
  · have q0 := yPA_in hSh hm0 hk0 x y
    have q1 := yPA_in hSh hm1 hk1 x y
    rw [ga _ q0.2.1 q0.2.2.1, a3 p x y j hj, gb _ q1.2.1 q1.2.2.1]
  · rw [ga a x y, a4 a x y hn, gb a x y]
/-! what a call does to the EVENTS, said of a longer road -/
theorem zRem.ag {S : yS} {d u v : yD} {e : Nat} {p m n r : Int32} {M : List Nat} (h : zRem S d u e p m n r) (hSh : ySh S) (he : e ∈ S.1) (hk : S.2.1 e = 2) (hg : yAg S M u v) (hM : 2 ∉ M ∧ 16 ∉ M) : zRem S d v e p m n r := fun E hE a b c x y => ⟨(h E hE a b c x y).1.ag hSh he hk hg hM, (h E hE a b c x y).2⟩
theorem zRem.pre {S : yS} {d d1 u : yD} {e : Nat} {p m n r : Int32} {M : List Nat} (h : zRem S d1 u e p m n r) (hSh : ySh S) (he : e ∈ S.1) (hk : S.2.1 e = 2) (hg : yAg S M d d1) (hM : 2 ∉ M ∧ 16 ∉ M) : zRem S d u e p m n r := fun E hE => h E (hE.ag hSh he hk hg hM)
theorem zAdd.ag {S : yS} {d u v : yD} {e : Nat} {p m n : Int32} {M : List Nat} (h : zAdd S d u e p m n) (hSh : ySh S) (he : e ∈ S.1) (hk : S.2.1 e = 2) (hg : yAg S M u v) (hM : 2 ∉ M ∧ 16 ∉ M) : zAdd S d v e p m n := fun E hE a b c x y z w => (h E hE a b c x y z w).ag hSh he hk hg hM
theorem zAdd.pre {S : yS} {d d1 u : yD} {e : Nat} {p m n : Int32} {M : List Nat} (h : zAdd S d1 u e p m n) (hSh : ySh S) (he : e ∈ S.1) (hk : S.2.1 e = 2) (hg : yAg S M d d1) (hM : 2 ∉ M ∧ 16 ∉ M) : zAdd S d u e p m n := fun E hE => h E (hE.ag hSh he hk hg hM)
theorem zCx.ag {S : yS} {d d1 : yD} {e : Nat} {q m p t n : Int32} {E : Nat → List Nat} {M : List Nat} (h : zCx S d e q m p t n E) (hSh : ySh S) (he : e ∈ S.1) (hk : S.2.1 e = 2) (hg : yAg S M d d1) (hM : 2 ∉ M ∧ 16 ∉ M) : zCx S d1 e q m p t n E := ⟨h.1.ag hSh he hk hg hM, h.2⟩
theorem zCpR.ag {S : yS} {d u v : yD} {e : Nat} {q m p t n : Int32} {M : List Nat} (h : zCpR S d u e q m p t n) (hSh : ySh S) (he : e ∈ S.1) (hk : S.2.1 e = 2) (hg : yAg S M u v) (hM : 2 ∉ M ∧ 16 ∉ M) : zCpR S d v e q m p t n := fun E hE => (h E hE).ag hSh he hk hg hM
theorem zCpR.pre {S : yS} {d d1 u : yD} {e : Nat} {q m p t n : Int32} {M : List Nat} (h : zCpR S d1 u e q m p t n) (hSh : ySh S) (he : e ∈ S.1) (hk : S.2.1 e = 2) (hg : yAg S M d d1) (hM : 2 ∉ M ∧ 16 ∉ M) : zCpR S d u e q m p t n := fun E hE => h E (hE.ag hSh he hk hg hM)
theorem zSt.pre {S : yS} {d d1 : yD} {e : Nat} {p m r : Int32} {M : List Nat} (h : zSt S d1 e p m r) (hSh : ySh S) (he : e ∈ S.1) (hk : S.2.1 e = 2) (hg : yAg S M d d1) (hM : 2 ∉ M ∧ 16 ∉ M) : zSt S d e p m r := fun E hE => h E (hE.ag hSh he hk hg hM)
theorem zCnt.pre {S : yS} {d d1 : yD} {e : Nat} {p m n r : Int32} {M : List Nat} (h : zCnt S d1 e p m n r) (hSh : ySh S) (he : e ∈ S.1) (hk : S.2.1 e = 2) (hg : yAg S M d d1) (hM : 2 ∉ M ∧ 16 ∉ M) : zCnt S d e p m n r := fun E hE => h E (hE.ag hSh he hk hg hM)
/-! days that fit -/
def zDN (E : Nat → List Nat) (a b j : Nat) : Int := ((zF E 0 zT).length : Int) - ((zF E a (1440 * j)).length : Int) + ((zF E b (1440 * j)).length : Int)
abbrev zy (p d : Int32) : Nat := 129600 * p.toInt.toNat + 1440 * d.toInt.toNat
def zDR (p d q e most : Int32) : Prop := (0 ≤ p.toInt ∧ p.toInt ≤ 7) ∧ (0 ≤ q.toInt ∧ q.toInt ≤ 7) ∧ 0 ≤ d.toInt ∧ 0 ≤ e.toInt ∧ 0 ≤ most.toInt ∧ d.toInt + most.toInt ≤ 90 ∧ e.toInt + most.toInt ≤ 90
def zDF (S : yS) (d : yD) (ev : Nat) (p dd q ee most r : Int32) : Prop := ∀ E, zEc S d ev E → zDR p dd q ee most → 0 ≤ r.toInt ∧ r.toInt ≤ most.toInt ∧ (∀ j : Nat, (j : Int) ≤ r.toInt → zDN E (zy p dd) (zy q ee) j ≤ 5000) ∧ (r.toInt < most.toInt → 5000 < zDN E (zy p dd) (zy q ee) (r.toInt.toNat + 1))
def zDFI (S : yS) (d : yD) (ev : Nat) (p dd q ee most many i : Int32) : Prop := ∀ E, zEc S d ev E → zDR p dd q ee most → 0 ≤ i.toInt ∧ i.toInt ≤ most.toInt ∧ many.toInt = zDN E (zy p dd) (zy q ee) i.toInt.toNat ∧ ∀ j : Nat, (j : Int) ≤ i.toInt → zDN E (zy p dd) (zy q ee) j ≤ 5000
theorem zDN.zero {E : Nat → List Nat} {a b : Nat} : zDN E a b 0 = ((zF E 0 zT).length : Int) := by
  show ((zF E 0 zT).length : Int) - (((zF E a 0).length : Nat) : Int) + (((zF E b 0).length : Nat) : Int) = _
  show ((zF E 0 zT).length : Int) - ((0 : Nat) : Int) + ((0 : Nat) : Int) = _
  omega
theorem zDN.succ {E : Nat → List Nat} {a b j : Nat} : zDN E a b (j + 1) = zDN E a b j - ((zF E (a + 1440 * j) 1440).length : Int) + ((zF E (b + 1440 * j) 1440).length : Int) := by
  unfold zDN
  rw [show 1440 * (j + 1) = 1440 * j + 1440 by omega, zF_add (E := E) (a := a) (n := 1440 * j) 1440, zF_add (E := E) (a := b) (n := 1440 * j) 1440, List.length_append, List.length_append]
  omega
theorem zDFI.ini {S : yS} {d : yD} {ev : Nat} {p dd q ee most many : Int32} (e : many = d.1 ev 2) : zDFI S d ev p dd q ee most many 0 := fun E hE hR => by
  have z0 : (0 : Int32).toInt = 0 := by decide +kernel
  have hn := hE.2.1.1
  have hl := hE.2.2
  obtain ⟨-, -, -, -, m0, -, -⟩ := hR
  rw [z0]
  refine ⟨by omega, m0, ?_, fun j hj => ?_⟩
  · show _ = zDN E _ _ 0
    rw [zDN.zero, e, hn]
  · obtain rfl : j = 0 := by omega
    rw [zDN.zero]; omega
theorem zDFI.nx {S : yS} {d : yD} {ev : Nat} {p dd q ee most many i z1 z2 r1 m1 z3 z4 r2 m2 : Int32} (h : zDFI S d ev p dd q ee most many i) (c : ¬ most ≤ i) (e1 : z1 = dd + i) (e2 : z2 = z1 * 1440) (h1 : zCnt S d ev p z2 1440 r1) (e5 : m1 = many - r1) (e3 : z3 = ee + i) (e4 : z4 = z3 * 1440) (h2 : zCnt S d ev q z4 1440 r2) (e6 : m2 = m1 + r2) {E : Nat → List Nat} (hE : zEc S d ev E) (hR : zDR p dd q ee most) : i.toInt < most.toInt ∧ (i + 1).toInt = i.toInt + 1 ∧ m2.toInt = zDN E (zy p dd) (zy q ee) (i.toInt.toNat + 1) := by
  have k1440 : (1440 : Int32).toInt = 1440 := by decide +kernel
  obtain ⟨a1, a2, a3, a4⟩ := h E hE hR
  obtain ⟨⟨p0, p7⟩, ⟨q0, q7⟩, d0, e0, m0, hd, he⟩ := hR
  have c1 := Int32.lt_iff_toInt_lt.mp (Int32.not_le.mp c)
  have hi : (i + 1).toInt = i.toInt + 1 := tadd rfl rfl i_one (by omega) (by omega)
  have z1' : z1.toInt = dd.toInt + i.toInt := tadd e1 rfl rfl (by omega) (by omega)
  have z2' : z2.toInt = z1.toInt * 1440 := tmul e2 rfl k1440 (by omega) (by omega)
  have z3' : z3.toInt = ee.toInt + i.toInt := tadd e3 rfl rfl (by omega) (by omega)
  have z4' : z4.toInt = z3.toInt * 1440 := tmul e4 rfl k1440 (by omega) (by omega)
  obtain ⟨b1, b1'⟩ := h1 E hE p0 p7 (by omega) (by omega) (by omega)
  obtain ⟨b2, b2'⟩ := h2 E hE q0 q7 (by omega) (by omega) (by omega)
  have x1 : zx p z2 = zy p dd + 1440 * i.toInt.toNat := by show 129600 * p.toInt.toNat + z2.toInt.toNat = 129600 * p.toInt.toNat + 1440 * dd.toInt.toNat + 1440 * i.toInt.toNat; omega
  have x2 : zx q z4 = zy q ee + 1440 * i.toInt.toNat := by show 129600 * q.toInt.toNat + z4.toInt.toNat = 129600 * q.toInt.toNat + 1440 * ee.toInt.toNat + 1440 * i.toInt.toNat; omega
  have hN := a4 i.toInt.toNat (by omega)
  have hn0 := hE.2.2
  have ms : zDN E (zy p dd) (zy q ee) (i.toInt.toNat + 1) = zDN E (zy p dd) (zy q ee) i.toInt.toNat - r1.toInt + r2.toInt := by
    rw [zDN.succ, ← x1, ← x2, b1, b2, show (1440 : Int32).toInt.toNat = 1440 by omega]
  have hlow : -5000 ≤ zDN E (zy p dd) (zy q ee) i.toInt.toNat - r1.toInt ∧ zDN E (zy p dd) (zy q ee) i.toInt.toNat - r1.toInt ≤ 5000 := by
    have l1 := zlen_add (E := E) (x := zy p dd) (n := 1440 * i.toInt.toNat)
    have l2 := zlen_add (E := E) (x := zy p dd + 1440 * i.toInt.toNat) (n := 1440)
    have l3 := zlen_le (E := E) (x := zy p dd + 1440 * i.toInt.toNat + 1440) (by have q := zT_eq; show 129600 * p.toInt.toNat + 1440 * dd.toInt.toNat + 1440 * i.toInt.toNat + 1440 ≤ _; omega)
    rw [x1, show (1440 : Int32).toInt.toNat = 1440 by omega] at b1
    have hu : zDN E (zy p dd) (zy q ee) i.toInt.toNat = ((zF E 0 zT).length : Int) - ((zF E (zy p dd) (1440 * i.toInt.toNat)).length : Int) + ((zF E (zy q ee) (1440 * i.toInt.toNat)).length : Int) := rfl
    omega
  have m1' : m1.toInt = many.toInt - r1.toInt := tsub e5 rfl rfl (by omega) (by omega)
  have m2' : m2.toInt = m1.toInt + r2.toInt := tadd e6 rfl rfl (by omega) (by omega)
  exact ⟨c1, hi, by omega⟩
theorem zDFI.step {S : yS} {d : yD} {ev : Nat} {p dd q ee most many i z1 z2 r1 m1 z3 z4 r2 m2 : Int32} (h : zDFI S d ev p dd q ee most many i) (c : ¬ most ≤ i) (e1 : z1 = dd + i) (e2 : z2 = z1 * 1440) (h1 : zCnt S d ev p z2 1440 r1) (e5 : m1 = many - r1) (e3 : z3 = ee + i) (e4 : z4 = z3 * 1440) (h2 : zCnt S d ev q z4 1440 r2) (e6 : m2 = m1 + r2) (c2 : m2 ≤ 5000) : zDFI S d ev p dd q ee most m2 (i + 1) := fun E hE hR => by
  obtain ⟨b1, b2, b3⟩ := h.nx c e1 e2 h1 e5 e3 e4 h2 e6 hE hR
  obtain ⟨a1, a2, a3, a4⟩ := h E hE hR
  have c5 : (5000 : Int32).toInt = 5000 := by decide +kernel
  have c3 := Int32.le_iff_toInt_le.mp c2
  refine ⟨by omega, by omega, ?_, fun j hj => ?_⟩
  · rw [b2, show (i.toInt + 1).toNat = i.toInt.toNat + 1 by omega]; exact b3
  · by_cases k : (j : Int) ≤ i.toInt
    · exact a4 j k
    · obtain rfl : j = i.toInt.toNat + 1 := by omega
      omega
theorem zDFI.out {S : yS} {d : yD} {ev : Nat} {p dd q ee most many i z1 z2 r1 m1 z3 z4 r2 m2 : Int32} (h : zDFI S d ev p dd q ee most many i) (c : ¬ most ≤ i) (e1 : z1 = dd + i) (e2 : z2 = z1 * 1440) (h1 : zCnt S d ev p z2 1440 r1) (e5 : m1 = many - r1) (e3 : z3 = ee + i) (e4 : z4 = z3 * 1440) (h2 : zCnt S d ev q z4 1440 r2) (e6 : m2 = m1 + r2) (c2 : ¬ m2 ≤ 5000) : zDF S d ev p dd q ee most i := fun E hE hR => by
  obtain ⟨b1, b2, b3⟩ := h.nx c e1 e2 h1 e5 e3 e4 h2 e6 hE hR
  obtain ⟨a1, a2, a3, a4⟩ := h E hE hR
  have c5 : (5000 : Int32).toInt = 5000 := by decide +kernel
  have c3 := Int32.lt_iff_toInt_lt.mp (Int32.not_le.mp c2)
  exact ⟨a1, a2, a4, fun _ => by omega⟩
theorem zDFI.fin {S : yS} {d : yD} {ev : Nat} {p dd q ee most many i : Int32} (h : zDFI S d ev p dd q ee most many i) (c : most ≤ i) : zDF S d ev p dd q ee most most := fun E hE hR => by
  obtain ⟨a1, a2, a3, a4⟩ := h E hE hR
  have c3 := Int32.le_iff_toInt_le.mp c
  exact ⟨by omega, by omega, fun j hj => a4 j (by omega), fun k => by omega⟩
/-- how many days there are to go, and of those that are asked for -/
def zRoom (a b p1 p3 : Int32) : Int32 := if b - p3 < a - p1 then b - p3 else a - p1
def zMost (a b p1 p3 n : Int32) : Int32 := if zRoom a b p1 p3 < n then zRoom a b p1 p3 else n
