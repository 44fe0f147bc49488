/-! THE RELATION for EVENTS and DAYS -/
def zEmA (P M K : Nat → Int32) (n : Int) (E : Nat → List Nat) : Prop := zK8 E ∧ n = ((zF E 0 zT).length : Int) ∧ ∀ (i x : Nat), (zF E 0 zT)[i]? = some x → zD P M K i x
def zK1 (a k g : Int32) : Prop := (0 ≤ k.toInt ∧ k.toInt ≤ 1440) ∧ ((g = 0 ∧ a = k) ∨ (g = 1 ∧ a = -1))
def zKN (S : yS) (d : yD) (b : Nat) (kn gn : Nat → Int32) : Prop := ∀ p : Int32, 0 ≤ p.toInt → p.toInt ≤ 7 → ∀ j : Nat, j < 90 → zK1 (d.2.2.2.1 (S.2.2.1 (yPA S b p) 0) j) (kn (90 * p.toInt.toNat + j)) (gn (90 * p.toInt.toNat + j))
def zEVb (S : yS) (d : yD) (b : Nat) (P M K kn gn : Nat → Int32) (n : Int) : Prop := (∃ E, zEc S d (S.2.2.1 b 1) E ∧ zEmA P M K n E) ∧ zKN S d b kn gn
def zEV (S : yS) (d : yD) (q m : Nat) : Prop := zEVb S d (S.2.2.1 q 0) (d.2.2.2.1 (S.2.2.1 m 15)) (d.2.2.2.1 (S.2.2.1 m 16)) (d.2.2.2.1 (S.2.2.1 m 17)) (d.2.2.2.1 (S.2.2.1 m 12)) (d.2.2.2.1 (S.2.2.1 m 13)) (d.1 m 1).toInt ∧ (d.1 q 4 = 1 → zEVb S d (S.2.2.1 q 1) (d.2.2.2.1 (S.2.2.1 m 33)) (d.2.2.2.1 (S.2.2.1 m 34)) (d.2.2.2.1 (S.2.2.1 m 35)) (d.2.2.2.1 (S.2.2.1 m 30)) (d.2.2.2.1 (S.2.2.1 m 31)) (d.2.2.2.1 (S.2.2.1 m 21) 1).toInt)
/-- a book's EVENTS and DAYS stand -/
def zBk (S : yS) (d u : yD) (b : Nat) : Prop := (u.1 (S.2.2.1 b 1) 2 = d.1 (S.2.2.1 b 1) 2 ∧ u.2.2.2.1 (S.2.2.1 (S.2.2.1 b 1) 0) = d.2.2.2.1 (S.2.2.1 (S.2.2.1 b 1) 0)) ∧ ∀ p : Int32, 0 ≤ p.toInt → p.toInt ≤ 7 → u.2.2.2.1 (S.2.2.1 (yPA S b p) 0) = d.2.2.2.1 (S.2.2.1 (yPA S b p) 0)
theorem zKN.cg {S : yS} {d u : yD} {b : Nat} {kn gn kn' gn' : Nat → Int32} (h : zKN S d b kn gn) (hu : ∀ p : Int32, 0 ≤ p.toInt → p.toInt ≤ 7 → u.2.2.2.1 (S.2.2.1 (yPA S b p) 0) = d.2.2.2.1 (S.2.2.1 (yPA S b p) 0)) (hk : ∀ i, i < 720 → kn' i = kn i) (hg : ∀ i, i < 720 → gn' i = gn i) : zKN S u b kn' gn' := fun p p0 p7 j hj => by
  rw [hu p p0 p7, hk _ (by omega), hg _ (by omega)]
  exact h p p0 p7 j hj
theorem zEVb.cg {S : yS} {d u : yD} {b : Nat} {P M K kn gn : Nat → Int32} {n : Int} (h : zEVb S d b P M K kn gn n) (hu : zBk S d u b) : zEVb S u b P M K kn gn n := by
  obtain ⟨⟨E, h1, h2⟩, h3⟩ := h
  exact ⟨⟨E, h1.cg hu.1.1 hu.1.2, h2⟩, h3.cg hu.2 (fun _ _ => rfl) (fun _ _ => rfl)⟩
section ZEV
variable {S : yS} {d u1 u2 : yD} {q m : Nat} {M M' F : List Nat}
theorem zbk0 (hSh : ySh S) (hq : q ∈ S.1) (hkq : S.2.1 q = 8) : ((S.2.2.1 q 0 ∈ S.1 ∧ S.2.1 (S.2.2.1 q 0) = 0) ∧ S.2.2.1 q 1 ∈ S.1 ∧ S.2.1 (S.2.2.1 q 1) = 0) ∧ (S.2.2.1 (S.2.2.1 q 0) 1 ∈ S.1 ∧ S.2.1 (S.2.2.1 (S.2.2.1 q 0) 1) = 2) ∧ S.2.2.1 (S.2.2.1 q 1) 1 ∈ S.1 ∧ S.2.1 (S.2.2.1 (S.2.2.1 q 1) 1) = 2 := by
  have a := ySh.f8_0 hSh q hq hkq
  have b := ySh.f8_1 hSh q hq hkq
  exact ⟨⟨a, b⟩, ySh.f0_1 hSh _ a.1 a.2, ySh.f0_1 hSh _ b.1 b.2⟩
theorem zBk.ne {b : Nat} (h : zNe S d u1) (hSh : ySh S) (hb : b ∈ S.1) (hkb : S.2.1 b = 0) : zBk S d u1 b := by
  have e := ySh.f0_1 hSh b hb hkb
  have w := (h _ e.1).1 e.2
  exact ⟨⟨congrFun w.1 2, w.2⟩, fun p p0 p7 => by
    have y := yPA_in hSh hb hkb p0 p7
    exact (h _ y.2.1).2 y.2.2.1⟩
theorem zBk.ag {b : Nat} (hSh : ySh S) (hb : b ∈ S.1) (hkb : S.2.1 b = 0) (hg : yAg S M d u1) (hM : 2 ∉ M ∧ 16 ∉ M ∧ 20 ∉ M) : zBk S d u1 b := zBk.ne (zNe.ag zNe.rf hSh hg hM) hSh hb hkb
theorem zBk.tr {b : Nat} (h : zBk S d u1 b) (g : zBk S u1 u2 b) : zBk S d u2 b := ⟨⟨g.1.1.trans h.1.1, g.1.2.trans h.1.2⟩, fun p p0 p7 => (g.2 p p0 p7).trans (h.2 p p0 p7)⟩
/-- the other book, where the first one's EVENTS change, and one port's DAYS -/
theorem zBk.o {b b2 : Nat} (hSh : ySh S) (hb : b ∈ S.1) (hkb : S.2.1 b = 0) (hb2 : b2 ∈ S.1) (hkb2 : S.2.1 b2 = 0) (hne : b2 ≠ b) (h : zEo S d u1 (S.2.2.1 b 1)) (hk : ∀ p : Int32, 0 ≤ p.toInt → p.toInt ≤ 7 → u1.2.2.2.1 (S.2.2.1 (yPA S b2 p) 0) = d.2.2.2.1 (S.2.2.1 (yPA S b2 p) 0)) : zBk S d u1 b2 := by
  have e := ySh.f0_1 hSh b hb hkb
  have e2 := ySh.f0_1 hSh b2 hb2 hkb2
  obtain ⟨x, y⟩ := h _ e2.1 e2.2 (fun w => hne (ySh.j0_1 hSh _ _ hb2 hb hkb2 hkb w))
  exact ⟨⟨congrFun x 2, y⟩, hk⟩
theorem zKo.o {b b2 : Nat} {p0 : Int32} (h : zKo S d u1 (yPA S b p0)) (hSh : ySh S) (hb : b ∈ S.1) (hkb : S.2.1 b = 0) (hb2 : b2 ∈ S.1) (hkb2 : S.2.1 b2 = 0) (hne : b2 ≠ b) (h0 : 0 ≤ p0.toInt) (h7 : p0.toInt ≤ 7) : ∀ p : Int32, 0 ≤ p.toInt → p.toInt ≤ 7 → u1.2.2.2.1 (S.2.2.1 (yPA S b2 p) 0) = d.2.2.2.1 (S.2.2.1 (yPA S b2 p) 0) := fun p p0' p7 => by
  have y := yPA_in hSh hb2 hkb2 p0' p7
  exact h _ y.2.1 y.2.2.1 (fun w => hne (yPA_inj hSh hb2 hkb2 hb hkb p0' p7 h0 h7 w).1)
theorem zTe.o {b b2 : Nat} (h : zTe S d u1 b b2) (hSh : ySh S) (hb : b ∈ S.1) (hkb : S.2.1 b = 0) (hb2 : b2 ∈ S.1) (hkb2 : S.2.1 b2 = 0) (hne : b2 ≠ b) : zBk S d u1 b2 := zBk.o hSh hb hkb hb2 hkb2 hne h.1.2 (fun p p0 p7 => by
  have y := yPA_in hSh hb2 hkb2 p0 p7
  exact h.2.2 _ y.2.1 y.2.2.1 (fun x x0 x7 w => hne (yPA_inj hSh hb2 hkb2 hb hkb p0 p7 x0 x7 w).1))
/-- what neither side's call may touch -/
abbrev zE1 (M : List Nat) : Prop := 9 ∉ M ∧ 42 ∉ M ∧ 43 ∉ M ∧ 45 ∉ M ∧ 46 ∉ M ∧ 47 ∉ M ∧ 51 ∉ M ∧ 60 ∉ M ∧ 61 ∉ M ∧ 63 ∉ M ∧ 64 ∉ M ∧ 65 ∉ M
abbrev zE2 (M : List Nat) : Prop := 2 ∉ M ∧ 8 ∉ M ∧ 16 ∉ M ∧ 20 ∉ M
abbrev zE3 (M : List Nat) : Prop := 51 ∉ M ∧ 60 ∉ M ∧ 61 ∉ M ∧ 63 ∉ M ∧ 64 ∉ M ∧ 65 ∉ M
theorem zkk (hSh : ySh S) (hm : m ∈ S.1) (hkm : S.2.1 m = 9) : (S.2.1 (S.2.2.1 m 12) = 42 ∧ S.2.1 (S.2.2.1 m 13) = 43) ∧ (S.2.1 (S.2.2.1 m 15) = 45 ∧ S.2.1 (S.2.2.1 m 16) = 46 ∧ S.2.1 (S.2.2.1 m 17) = 47) ∧ S.2.1 (S.2.2.1 m 21) = 51 ∧ (S.2.1 (S.2.2.1 m 30) = 60 ∧ S.2.1 (S.2.2.1 m 31) = 61) ∧ S.2.1 (S.2.2.1 m 33) = 63 ∧ S.2.1 (S.2.2.1 m 34) = 64 ∧ S.2.1 (S.2.2.1 m 35) = 65 := ⟨⟨(ySh.f9_12 hSh m hm hkm).2, (ySh.f9_13 hSh m hm hkm).2⟩, ⟨(ySh.f9_15 hSh m hm hkm).2, (ySh.f9_16 hSh m hm hkm).2, (ySh.f9_17 hSh m hm hkm).2⟩, (ySh.f9_21 hSh m hm hkm).2, ⟨(ySh.f9_30 hSh m hm hkm).2, (ySh.f9_31 hSh m hm hkm).2⟩, (ySh.f9_33 hSh m hm hkm).2, (ySh.f9_34 hSh m hm hkm).2, (ySh.f9_35 hSh m hm hkm).2⟩
/-- the reference's rows ahead of its own call are those at first -/
theorem zEV.now (h : zEV S d q m) (hSh : ySh S) (hm : m ∈ S.1) (hkm : S.2.1 m = 9) (hg1 : yAg S M d u1) (hM : zE1 M) : ∃ E, (zEc S d (S.2.2.1 (S.2.2.1 q 0) 1) E ∧ zEm S u1 m E) ∧ zKN S d (S.2.2.1 q 0) (u1.2.2.2.1 (S.2.2.1 m 12)) (u1.2.2.2.1 (S.2.2.1 m 13)) := by
  obtain ⟨⟨k2, k3⟩, ⟨k5, k6, k7⟩, -⟩ := zkk hSh hm hkm
  obtain ⟨⟨⟨E, a, b⟩, c⟩, -⟩ := h
  have b : zEm S d m E := b
  refine ⟨E, ⟨a, b.cg (congrFun (hg1 m (by rw [hkm]; exact hM.1)).1 1) (hg1 _ (by rw [k5]; exact hM.2.2.2.1)).2.2.2.1 (hg1 _ (by rw [k6]; exact hM.2.2.2.2.1)).2.2.2.1 (hg1 _ (by rw [k7]; exact hM.2.2.2.2.2.1)).2.2.2.1⟩, ?_⟩
  rw [(hg1 _ (by rw [k2]; exact hM.2.1)).2.2.2.1, (hg1 _ (by rw [k3]; exact hM.2.2.1)).2.2.2.1]
  exact c
/-- the kept book stands on both sides -/
theorem zEV.step (h : zEV S d q m) (hSh : ySh S) (hq : q ∈ S.1) (hkq : S.2.1 q = 8) (hm : m ∈ S.1) (hkm : S.2.1 m = 9) (hg1 : yAg S M d u1) (hM : zE1 M) (hg2 : yAg S M' u1 u2) (hM' : zE2 M' ∧ zE3 M') (himg : u1.1 q 4 = d.1 q 4) (hB : zBk S d u1 (S.2.2.1 q 1)) {E : Nat → List Nat} (hE : zEc S u1 (S.2.2.1 (S.2.2.1 q 0) 1) E) (hE2 : zEm S u2 m E) (hK : zKN S u1 (S.2.2.1 q 0) (u2.2.2.2.1 (S.2.2.1 m 12)) (u2.2.2.2.1 (S.2.2.1 m 13))) : zEV S u2 q m := by
  obtain ⟨-, -, k21, ⟨k30, k31⟩, k33, k34, k35⟩ := zkk hSh hm hkm
  obtain ⟨⟨⟨b0, kb0⟩, b1, kb1⟩, ⟨v0, kv0⟩, v1, kv1⟩ := zbk0 hSh hq hkq
  have g0 := zBk.ag (b := S.2.2.1 q 0) hSh b0 kb0 hg2 ⟨hM'.1.1, hM'.1.2.2⟩
  have g1 := hB.tr (zBk.ag (b := S.2.2.1 q 1) hSh b1 kb1 hg2 ⟨hM'.1.1, hM'.1.2.2⟩)
  refine ⟨⟨⟨E, hE.cg g0.1.1 g0.1.2, hE2⟩, hK.cg g0.2 (fun _ _ => rfl) (fun _ _ => rfl)⟩, fun hi => ?_⟩
  have f8 : u2.1 q = u1.1 q := (hg2 q (by rw [hkq]; exact hM'.1.2.1)).1
  have r := (h.2 (by rw [← himg, ← f8]; exact hi)).cg g1
  have a := fun (s : Nat) (c : Nat) (hc : S.2.1 (S.2.2.1 m s) = c) (hn : c ∉ M) (hn' : c ∉ M') => ((hg2 (S.2.2.1 m s) (by rw [hc]; exact hn')).2.2.2.1).trans (hg1 (S.2.2.1 m s) (by rw [hc]; exact hn)).2.2.2.1
  rw [a 33 63 k33 hM.2.2.2.2.2.2.2.2.2.1 hM'.2.2.2.2.1, a 34 64 k34 hM.2.2.2.2.2.2.2.2.2.2.1 hM'.2.2.2.2.2.1, a 35 65 k35 hM.2.2.2.2.2.2.2.2.2.2.2 hM'.2.2.2.2.2.2, a 30 60 k30 hM.2.2.2.2.2.2.2.1 hM'.2.2.1, a 31 61 k31 hM.2.2.2.2.2.2.2.2.1 hM'.2.2.2.1, a 21 51 k21 hM.2.2.2.2.2.2.1 hM'.2.1]
  exact r
/-- nothing happens to them -/
theorem zEV.ne (h : zEV S d q m) (hSh : ySh S) (hq : q ∈ S.1) (hkq : S.2.1 q = 8) (hm : m ∈ S.1) (hkm : S.2.1 m = 9) (hg1 : yAg S M d u1) (hM : zE1 M) (hg2 : yAg S M' u1 u2) (hM' : zE2 M' ∧ zE3 M') (himg : u1.1 q 4 = d.1 q 4) (h1 : zNe S d u1) (h2 : zMe S u1 u2 m) : zEV S u2 q m := by
  obtain ⟨⟨⟨b0, kb0⟩, b1, kb1⟩, -⟩ := zbk0 hSh hq hkq
  obtain ⟨E, ⟨a, b⟩, c⟩ := h.now hSh hm hkm hg1 hM
  have g0 := zBk.ne (b := S.2.2.1 q 0) h1 hSh b0 kb0
  refine h.step hSh hq hkq hm hkm hg1 hM hg2 hM' himg (zBk.ne h1 hSh b1 kb1) (a.cg g0.1.1 g0.1.2) (b.cg h2.1 h2.2.1 h2.2.2.1 h2.2.2.2.1) ?_
  rw [h2.2.2.2.2.1, h2.2.2.2.2.2]
  exact c.cg g0.2 (fun _ _ => rfl) (fun _ _ => rfl)
theorem zEV.gen (h : zEV S d q m) (hSh : ySh S) (hq : q ∈ S.1) (hkq : S.2.1 q = 8) (hm : m ∈ S.1) (hkm : S.2.1 m = 9) (hg1 : yAg S M d u1) (hM : zE1 M) (hN : 2 ∉ M ∧ 16 ∉ M ∧ 20 ∉ M) (hg2 : yAg S M' u1 u2) (hM' : zE2 M' ∧ zE3 M') (hN' : 45 ∉ M' ∧ 46 ∉ M' ∧ 47 ∉ M' ∧ 42 ∉ M' ∧ 43 ∉ M') (himg : u1.1 q 4 = d.1 q 4) (hf : yK F u1 u2 m) (hF : 1 ∉ F) : zEV S u2 q m := h.ne hSh hq hkq hm hkm hg1 hM hg2 hM' himg (zNe.ag zNe.rf hSh hg1 hN) (zMe.ag zMe.rf hSh hm hkm hg2 hf hN' hF)
/-- a port's DAYS, by its number -/
theorem zKN.at {b : Nat} {kn gn : Nat → Int32} (h : zKN S d b kn gn) {p j : Int32} (p0 : 0 ≤ p.toInt) (p7 : p.toInt ≤ 7) (j0 : 0 ≤ j.toInt) (j89 : j.toInt ≤ 89) : zK1 (xat 90 (d.2.2.2.1 (S.2.2.1 (yPA S b p) 0)) j) (kn (zDi p j)) (gn (zDi p j)) := by
  rw [xat_in (by decide) j0 (by omega)]
  exact h p p0 p7 j.toInt.toNat (by omega)
/-- knows() on both sides -/
theorem zKN.I {e : yD} {b : Nat} (h : zKN S d b (e.2.2.2.1 (S.2.2.1 m 12)) (e.2.2.2.1 (S.2.2.1 m 13))) {p mm : Int32} (p0 : 0 ≤ p.toInt) (p7 : p.toInt ≤ 7) (m0 : 0 ≤ mm.toInt) (m1 : mm.toInt ≤ 129599) : zKI S d (yPA S b p) mm = yKI S e m p mm := by
  have k1440 : (1440 : Int32).toInt = 1440 := by decide +kernel
  have k90 : (90 : Int32).toInt = 90 := by decide +kernel
  have z0 : (0 : Int32).toInt = 0 := by decide +kernel
  have hd : (mm / 1440).toInt = mm.toInt / 1440 := tdiv' rfl rfl k1440 (by omega) (by omega)
  have hr : (mm - mm / 1440 * 1440).toInt = mm.toInt % 1440 := trem rfl rfl k1440 (by omega) (by omega)
  have h9 : (90 * p).toInt = 90 * p.toInt := tmul rfl k90 rfl (by omega) (by omega)
  have hi : (90 * p + mm / 1440).toInt = (90 * p).toInt + (mm / 1440).toInt := tadd rfl rfl rfl (by omega) (by omega)
  have hx : (90 * p + mm / 1440).toNatClampNeg = zDi p (mm / 1440) := (show (90 * p + mm / 1440).toInt.toNat = 90 * p.toInt.toNat + (mm / 1440).toInt.toNat by omega)
  obtain ⟨⟨a0, a1⟩, c⟩ := h.at (j := mm / 1440) p0 p7 (by omega) (by omega)
  unfold zKI yKI
  rw [hx]
  rcases c with ⟨c1, c2⟩ | ⟨c1, c2⟩
  · rw [c2, c1]
    by_cases w : mm - mm / 1440 * 1440 < e.2.2.2.1 (S.2.2.1 m 12) (zDi p (mm / 1440))
    · rw [if_pos w, if_pos ⟨w, rfl⟩]
    · rw [if_neg w, if_neg (fun q => w q.1)]
  · rw [c2, c1, if_neg (fun w => by
      have w := Int32.lt_iff_toInt_lt.mp w
      rw [hr, show (-1 : Int32).toInt = -1 by decide +kernel] at w
      omega), if_neg (fun w => absurd w.2 (by decide))]
theorem zEc.len {e : Nat} {E : Nat → List Nat} (h : zEc S d e E) (h2 : zEm S u1 m E) : (d.1 e 2).toInt = (u1.1 m 1).toInt ∧ (u1.1 m 1).toInt ≤ 5000 := by
  have a := h.2.1.1
  have b := h2.2.1
  have c := h.2.2
  exact ⟨by omega, by omega⟩
theorem zKag {b : Nat} (hSh : ySh S) (hb : b ∈ S.1) (hkb : S.2.1 b = 0) (hg : yAg S M d u1) (hM : 20 ∉ M) : ∀ p : Int32, 0 ≤ p.toInt → p.toInt ≤ 7 → u1.2.2.2.1 (S.2.2.1 (yPA S b p) 0) = d.2.2.2.1 (S.2.2.1 (yPA S b p) 0) := fun p p0 p7 => by
  have y := yPA_in hSh hb hkb p0 p7
  exact (hg _ (by rw [(ySh.f4_0 hSh _ y.2.1 y.2.2.1).2]; exact hM)).2.2.2.1
/-- one day of one port is written -/
theorem zKN.up {b : Nat} {kn gn kn' gn' : Nat → Int32} (h : zKN S d b kn gn) (hSh : ySh S) (hb : b ∈ S.1) (hkb : S.2.1 b = 0) {p0 j0 v k' g' : Int32} (h0 : 0 ≤ p0.toInt) (h7 : p0.toInt ≤ 7) (j00 : 0 ≤ j0.toInt) (j89 : j0.toInt ≤ 89) (hu : u1.2.2.2.1 (S.2.2.1 (yPA S b p0) 0) = xput 90 (d.2.2.2.1 (S.2.2.1 (yPA S b p0) 0)) j0 v) (ho : zKo S d u1 (yPA S b p0)) (hk : kn' = upd kn (zDi p0 j0) k') (hg : gn' = upd gn (zDi p0 j0) g') (hz : zK1 v k' g') : zKN S u1 b kn' gn' := fun p p0' p7 j hj => by
  have r := h p p0' p7 j hj
  rw [hk, hg, zupd, zupd]
  by_cases e : p = p0
  · subst e
    rw [hu, xput_in (by decide) j00 (by omega), zupd]
    by_cases c : j = j0.toInt.toNat
    · rw [if_pos c, if_pos (show 90 * p.toInt.toNat + j = 90 * p.toInt.toNat + j0.toInt.toNat by omega), if_pos (show 90 * p.toInt.toNat + j = 90 * p.toInt.toNat + j0.toInt.toNat by omega)]
      exact hz
    · rw [if_neg c, if_neg (show ¬ 90 * p.toInt.toNat + j = 90 * p.toInt.toNat + j0.toInt.toNat by omega), if_neg (show ¬ 90 * p.toInt.toNat + j = 90 * p.toInt.toNat + j0.toInt.toNat by omega)]
      exact r
  · have e' : p.toInt ≠ p0.toInt := fun w => e (Int32.toInt_inj.mp w)
    have y := yPA_in hSh hb hkb p0' p7
    rw [ho _ y.2.1 y.2.2.1 (fun w => e (yPA_inj hSh hb hkb hb hkb p0' p7 h0 h7 w).2), if_neg (show ¬ 90 * p.toInt.toNat + j = 90 * p0.toInt.toNat + j0.toInt.toNat by omega), if_neg (show ¬ 90 * p.toInt.toNat + j = 90 * p0.toInt.toNat + j0.toInt.toNat by omega)]
    exact r
/-- a port's DAYS made anew -/
theorem zKN.anew {b : Nat} {e u' : yD} (h : zKN S d b (e.2.2.2.1 (S.2.2.1 m 12)) (e.2.2.2.1 (S.2.2.1 m 13))) (hSh : ySh S) (hb : b ∈ S.1) (hkb : S.2.1 b = 0) {p0 : Int32} (h0 : 0 ≤ p0.toInt) (h7 : p0.toInt ≤ 7) (hu : ∀ j, j < 90 → u1.2.2.2.1 (S.2.2.1 (yPA S b p0) 0) j = 1440) (ho : zKo S d u1 (yPA S b p0)) (hr : zDayR S e u' m p0.toInt.toNat) : zKN S u1 b (u'.2.2.2.1 (S.2.2.1 m 12)) (u'.2.2.2.1 (S.2.2.1 m 13)) := fun p p0' p7 j hj => by
  by_cases c : p = p0
  · subst c
    rw [hu j hj, (hr.1 j hj).1, (hr.1 j hj).2]
    exact ⟨by decide +kernel, Or.inl ⟨rfl, rfl⟩⟩
  · have e' : p.toInt ≠ p0.toInt := fun w => c (Int32.toInt_inj.mp w)
    have y := yPA_in hSh hb hkb p0' p7
    have w := hr.2 (90 * p.toInt.toNat + j) (by omega)
    rw [ho _ y.2.1 y.2.2.1 (fun w => c (yPA_inj hSh hb hkb hb hkb p0' p7 h0 h7 w).2), w.1, w.2]
    exact h p p0' p7 j hj
theorem nbz {g : Int32} (h : g = 0 ∨ g = 1) : vp_nar .boolean g = g := by rcases h with rfl | rfl <;> decide +kernel
theorem zK1.nar {a k g : Int32} (h : zK1 a k g) : zK1 a (vp_nar .short k) (vp_nar .boolean g) := by
  obtain ⟨h1, h2⟩ := h
  rw [(nbs h1.1 h1.2).2, nbz (h2.imp (fun w => w.1) (fun w => w.1))]
  exact ⟨h1, h2⟩
/-- DAYS copied -/
theorem zKN.cp {b : Nat} {e u' : yD} (h : zKN S d b (e.2.2.2.1 (S.2.2.1 m 12)) (e.2.2.2.1 (S.2.2.1 m 13))) (hSh : ySh S) (hb : b ∈ S.1) (hkb : S.2.1 b = 0) {p0 p1 p2 p3 r : Int32} (h0 : 0 ≤ p0.toInt) (h7 : p0.toInt ≤ 7) (g0 : 0 ≤ p2.toInt) (g7 : p2.toInt ≤ 7) (d0 : 0 ≤ p1.toInt) (e0 : 0 ≤ p3.toInt) (r0 : 0 ≤ r.toInt) (hr1 : p1.toInt + r.toInt ≤ 90) (hr3 : p3.toInt + r.toInt ≤ 90) (hu : u1.2.2.2.1 (S.2.2.1 (yPA S b p0) 0) = xsl 90 90 (d.2.2.2.1 (S.2.2.1 (yPA S b p2) 0)) (d.2.2.2.1 (S.2.2.1 (yPA S b p0) 0)) p3 p1 r) (ho : zKo S d u1 (yPA S b p0)) (hc : zKC S e u' m p0 p1 p2 p3 r.toInt.toNat) : zKN S u1 b (u'.2.2.2.1 (S.2.2.1 m 12)) (u'.2.2.2.1 (S.2.2.1 m 13)) := fun p p0' p7 j hj => by
  obtain ⟨w1, w2⟩ := hc (90 * p.toInt.toNat + j)
  rw [w1, w2]
  by_cases c : p = p0
  · subst c
    rw [hu, xsl_k (by decide) (by decide) e0 d0 r0 hr3 hr1]
    by_cases k : p1.toInt.toNat ≤ j ∧ j < p1.toInt.toNat + r.toInt.toNat
    · have k2 : zDi p p1 ≤ 90 * p.toInt.toNat + j ∧ 90 * p.toInt.toNat + j < zDi p p1 + r.toInt.toNat := (show 90 * p.toInt.toNat + p1.toInt.toNat ≤ 90 * p.toInt.toNat + j ∧ 90 * p.toInt.toNat + j < 90 * p.toInt.toNat + p1.toInt.toNat + r.toInt.toNat by omega)
      have q := (h p2 g0 g7 (p3.toInt.toNat + (j - p1.toInt.toNat)) (by omega)).nar.nar
      rw [if_pos k, if_pos k2, if_pos k2, show zDi p2 p3 + (90 * p.toInt.toNat + j - zDi p p1) = 90 * p2.toInt.toNat + (p3.toInt.toNat + (j - p1.toInt.toNat)) from (show 90 * p2.toInt.toNat + p3.toInt.toNat + (90 * p.toInt.toNat + j - (90 * p.toInt.toNat + p1.toInt.toNat)) = _ by omega)]
      exact q
    · have k2 : ¬ (zDi p p1 ≤ 90 * p.toInt.toNat + j ∧ 90 * p.toInt.toNat + j < zDi p p1 + r.toInt.toNat) := (show ¬ (90 * p.toInt.toNat + p1.toInt.toNat ≤ 90 * p.toInt.toNat + j ∧ 90 * p.toInt.toNat + j < 90 * p.toInt.toNat + p1.toInt.toNat + r.toInt.toNat) by omega)
      rw [if_neg k, if_neg k2, if_neg k2]
      exact h p p0' p7 j hj
  · have e' : p.toInt ≠ p0.toInt := fun w => c (Int32.toInt_inj.mp w)
    have y := yPA_in hSh hb hkb p0' p7
    have k2 : ¬ (zDi p0 p1 ≤ 90 * p.toInt.toNat + j ∧ 90 * p.toInt.toNat + j < zDi p0 p1 + r.toInt.toNat) := (show ¬ (90 * p0.toInt.toNat + p1.toInt.toNat ≤ 90 * p.toInt.toNat + j ∧ 90 * p.toInt.toNat + j < 90 * p0.toInt.toNat + p1.toInt.toNat + r.toInt.toNat) by omega)
    rw [ho _ y.2.1 y.2.2.1 (fun w => c (yPA_inj hSh hb hkb hb hkb p0' p7 h0 h7 w).2), if_neg k2, if_neg k2]
    exact h p p0' p7 j hj
/-- kept, or brought back -/
theorem zEmA.nar {P M K P' M' K' : Nat → Int32} {n n' : Int} {E : Nat → List Nat} (h : zEmA P M K n E) (hl : n ≤ 5000) (hn : n' = n) (hP : ∀ j : Nat, j < 5000 → P' j = vp_nar .byte (P j)) (hM : ∀ j : Nat, j < 5000 → M' j = id (M j)) (hK : ∀ j : Nat, j < 5000 → K' j = vp_nar .byte (K j)) : zEmA P' M' K' n' E := by
  obtain ⟨a, b, c⟩ := h
  refine ⟨a, hn.trans b, fun i x hx => ?_⟩
  have hi := zlt hx
  have q := c i x hx
  have g := q.n (zFi a hx)
  unfold zD
  rw [hP i (by omega), hM i (by omega), hK i (by omega), (nb g.2.1 (by omega)).2, (nb g.2.2.2.2.2.1 (by omega)).2]
  exact q
theorem zKN.nar {b b2 : Nat} {kn gn kn' gn' : Nat → Int32} (h : zKN S d b kn gn) (hu : ∀ p : Int32, 0 ≤ p.toInt → p.toInt ≤ 7 → ∀ j, j < 90 → u1.2.2.2.1 (S.2.2.1 (yPA S b2 p) 0) j = d.2.2.2.1 (S.2.2.1 (yPA S b p) 0) j) (hk : ∀ j : Nat, j < 720 → kn' j = vp_nar .short (kn j)) (hg : ∀ j : Nat, j < 720 → gn' j = vp_nar .boolean (gn j)) : zKN S u1 b2 kn' gn' := fun p p0 p7 j hj => by
  rw [hu p p0 p7 j hj, hk _ (by omega), hg _ (by omega)]
  exact (h p p0 p7 j hj).nar
theorem zEV.image (h : zEV S d q m) (hSh : ySh S) (hq : q ∈ S.1) (hkq : S.2.1 q = 8) (hm : m ∈ S.1) (hkm : S.2.1 m = 9) (hnk : S.2.2.1 q 0 ≠ S.2.2.1 q 1) (hg1 : yAg S M d u1) (hM : zE1 M) (hg2 : yAg S M' u1 u2) (hM' : zE2 M') (hN' : 45 ∉ M' ∧ 46 ∉ M' ∧ 47 ∉ M' ∧ 42 ∉ M' ∧ 43 ∉ M') (hf : yK F u1 u2 m) (hF : 1 ∉ F) (x1 : zTe S d u1 (S.2.2.1 q 1) (S.2.2.1 q 0)) (x2 : u2.2.2.2.1 (S.2.2.1 m 21) 1 = u1.1 m 1 ∧ zKeepD (u2.2.2.2.1 (S.2.2.1 m 33)) (u2.2.2.2.1 (S.2.2.1 m 34)) (u2.2.2.2.1 (S.2.2.1 m 35)) (u2.2.2.2.1 (S.2.2.1 m 30)) (u2.2.2.2.1 (S.2.2.1 m 31)) (u1.2.2.2.1 (S.2.2.1 m 15)) (u1.2.2.2.1 (S.2.2.1 m 16)) (u1.2.2.2.1 (S.2.2.1 m 17)) (u1.2.2.2.1 (S.2.2.1 m 12)) (u1.2.2.2.1 (S.2.2.1 m 13))) : zEV S u2 q m := by
  obtain ⟨⟨⟨b0, kb0⟩, b1, kb1⟩, -⟩ := zbk0 hSh hq hkq
  obtain ⟨E, ⟨a, b⟩, c⟩ := h.now hSh hm hkm hg1 hM
  have g0 := x1.o hSh b1 kb1 b0 kb0 hnk
  have h0 := zBk.ag (b := S.2.2.1 q 0) hSh b0 kb0 hg2 ⟨hM'.1, hM'.2.2⟩
  have h1 := zBk.ag (b := S.2.2.1 q 1) hSh b1 kb1 hg2 ⟨hM'.1, hM'.2.2⟩
  have me := zMe.ag zMe.rf hSh hm hkm hg2 hf hN' hF
  have gt := g0.tr h0
  have hl := (zEc.len a b).2
  obtain ⟨x2, y5, y6, y7, y2, y3⟩ := x2
  have b' : zEmA (u1.2.2.2.1 (S.2.2.1 m 15)) (u1.2.2.2.1 (S.2.2.1 m 16)) (u1.2.2.2.1 (S.2.2.1 m 17)) (u1.1 m 1).toInt E := b
  refine ⟨⟨⟨E, a.cg gt.1.1 gt.1.2, b.cg me.1 me.2.1 me.2.2.1 me.2.2.2.1⟩, ?_⟩, fun _ => ⟨⟨E, (x1.1.1 E a).cg h1.1.1 h1.1.2, b'.nar hl (by rw [x2]) y5 y6 y7⟩, (c.nar x1.2.1 y2 y3).cg h1.2 (fun _ _ => rfl) (fun _ _ => rfl)⟩⟩
  rw [me.2.2.2.2.1, me.2.2.2.2.2]
  exact c.cg gt.2 (fun _ _ => rfl) (fun _ _ => rfl)
theorem zEV.back (h : zEV S d q m) (hPo : yPo S d) (hi0 : d.1 q 4 = d.1 m 20) (hSh : ySh S) (hq : q ∈ S.1) (hkq : S.2.1 q = 8) (hm : m ∈ S.1) (hkm : S.2.1 m = 9) (hMI : yMI S d m) (hnk : S.2.2.1 q 0 ≠ S.2.2.1 q 1) (hg1 : yAg S M d u1) (hM : zE1 M) (hg2 : yAg S M' u1 u2) (hM' : zE2 M' ∧ zE3 M') (himg : u1.1 q 4 = d.1 q 4) (x1 : (d.1 q 4 = 0 ∧ zNe S d u1) ∨ (¬ d.1 q 4 = 0 ∧ zTe S d u1 (S.2.2.1 q 0) (S.2.2.1 q 1))) (x2 : (u1.1 m 20 = 0 ∧ zMe S u1 u2 m) ∨ (¬ u1.1 m 20 = 0 ∧ u2.1 m 1 = u1.2.2.2.1 (S.2.2.1 m 21) 1 ∧ zKeepD (u2.2.2.2.1 (S.2.2.1 m 15)) (u2.2.2.2.1 (S.2.2.1 m 16)) (u2.2.2.2.1 (S.2.2.1 m 17)) (u2.2.2.2.1 (S.2.2.1 m 12)) (u2.2.2.2.1 (S.2.2.1 m 13)) (u1.2.2.2.1 (S.2.2.1 m 33)) (u1.2.2.2.1 (S.2.2.1 m 34)) (u1.2.2.2.1 (S.2.2.1 m 35)) (u1.2.2.2.1 (S.2.2.1 m 30)) (u1.2.2.2.1 (S.2.2.1 m 31)))) : zEV S u2 q m := by
  have em : u1.1 m = d.1 m := (hg1 m (by rw [hkm]; exact hM.1)).1
  obtain ⟨⟨⟨b0, kb0⟩, b1, kb1⟩, -⟩ := zbk0 hSh hq hkq
  obtain ⟨-, -, k21, ⟨k30, k31⟩, k33, k34, k35⟩ := zkk hSh hm hkm
  rcases x1 with ⟨i, n1⟩ | ⟨i, t⟩
  · rcases x2 with ⟨-, n2⟩ | ⟨j, -⟩
    · exact h.ne hSh hq hkq hm hkm hg1 hM hg2 hM' himg n1 n2
    · exact absurd (by rw [em, ← hi0]; exact i) j
  · rcases x2 with ⟨j, -⟩ | ⟨-, x2, y5, y6, y7, y2, y3⟩
    · exact absurd (by rw [hi0, ← em]; exact j) i
    · have hb := (hPo.b hq hkq (k := 4) rfl).resolve_left i
      obtain ⟨⟨E, a, b⟩, c⟩ := h.2 hb
      have hkp := (hMI.kp_).2.1
      have hl : (d.2.2.2.1 (S.2.2.1 m 21) 1).toInt ≤ 5000 := hkp.2
      have a33 : u1.2.2.2.1 (S.2.2.1 m 33) = d.2.2.2.1 (S.2.2.1 m 33) := (hg1 _ (by rw [k33]; exact hM.2.2.2.2.2.2.2.2.2.1)).2.2.2.1
      have a34 : u1.2.2.2.1 (S.2.2.1 m 34) = d.2.2.2.1 (S.2.2.1 m 34) := (hg1 _ (by rw [k34]; exact hM.2.2.2.2.2.2.2.2.2.2.1)).2.2.2.1
      have a35 : u1.2.2.2.1 (S.2.2.1 m 35) = d.2.2.2.1 (S.2.2.1 m 35) := (hg1 _ (by rw [k35]; exact hM.2.2.2.2.2.2.2.2.2.2.2)).2.2.2.1
      have a30 : u1.2.2.2.1 (S.2.2.1 m 30) = d.2.2.2.1 (S.2.2.1 m 30) := (hg1 _ (by rw [k30]; exact hM.2.2.2.2.2.2.2.1)).2.2.2.1
      have a31 : u1.2.2.2.1 (S.2.2.1 m 31) = d.2.2.2.1 (S.2.2.1 m 31) := (hg1 _ (by rw [k31]; exact hM.2.2.2.2.2.2.2.2.1)).2.2.2.1
      have a21 : u1.2.2.2.1 (S.2.2.1 m 21) = d.2.2.2.1 (S.2.2.1 m 21) := (hg1 _ (by rw [k21]; exact hM.2.2.2.2.2.2.1)).2.2.2.1
      rw [a33] at y5
      rw [a34] at y6
      rw [a35] at y7
      rw [a30] at y2
      rw [a31] at y3
      have b2 : zEmA (u2.2.2.2.1 (S.2.2.1 m 15)) (u2.2.2.2.1 (S.2.2.1 m 16)) (u2.2.2.2.1 (S.2.2.1 m 17)) (u2.1 m 1).toInt E := b.nar hl (by rw [x2, a21]) y5 y6 y7
      exact h.step hSh hq hkq hm hkm hg1 hM hg2 hM' himg (t.o hSh b0 kb0 b1 kb1 (Ne.symm hnk)) (t.1.1 E a) b2 (c.nar t.2.1 y2 y3)
theorem zEV.ini (h : zIni S d) (hSh : ySh S) (hq : q ∈ S.1) (hkq : S.2.1 q = 8) (hm : m ∈ S.1) (hkm : S.2.1 m = 9) : zEV S d q m := by
  obtain ⟨⟨⟨b0, kb0⟩, b1, kb1⟩, ⟨v0, kv0⟩, v1, kv1⟩ := zbk0 hSh hq hkq
  have hi : d.1 q 4 = 0 := h.i0 hq (by decide)
  have hE : zF (fun _ => []) 0 zT = [] := zF_nil _ (fun _ _ _ => rfl)
  have z : (0 : Int32).toInt = 0 := by decide +kernel
  obtain ⟨⟨k2, k3⟩, -⟩ := zkk hSh hm hkm
  refine ⟨⟨⟨fun _ => [], ⟨fun _ _ hj => absurd hj List.not_mem_nil, ⟨?_, fun i x hx => ?_⟩, ?_⟩, ⟨fun _ _ hj => absurd hj List.not_mem_nil, ?_, fun i x hx => ?_⟩⟩, fun p p0 p7 j hj => ?_⟩, fun e => absurd (hi.symm.trans e) (by decide +kernel)⟩
  · rw [hE, h.i0 v0 (by decide), z]; rfl
  · rw [hE] at hx; exact absurd hx (by simp)
  · rw [hE]; exact Nat.zero_le _
  · rw [hE, h.i0 hm (by decide), z]; rfl
  · rw [hE] at hx; exact absurd hx (by simp)
  · have y := yPA_in hSh b0 kb0 p0 p7
    have e4 := ySh.f4_0 hSh _ y.2.1 y.2.2.1
    rw [h.2.2.2.1 _ e4.1 (by rw [e4.2]; decide), h.2.2.2.1 _ (ySh.f9_12 hSh m hm hkm).1 (by rw [k2]; decide), h.2.2.2.1 _ (ySh.f9_13 hSh m hm hkm).1 (by rw [k3]; decide)]
    exact ⟨by decide +kernel, Or.inl ⟨rfl, rfl⟩⟩
end ZEV
