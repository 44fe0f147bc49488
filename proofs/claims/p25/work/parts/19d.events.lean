/-! the reference's DAYS -/
def yKI (S : yS) (d : yD) (m : Nat) (p mm : Int32) : Int := if mm - mm / 1440 * 1440 < d.2.2.2.1 (S.2.2.1 m 12) (90 * p + mm / 1440).toNatClampNeg ∧ d.2.2.2.1 (S.2.2.1 m 13) (90 * p + mm / 1440).toNatClampNeg = 0 then 1 else 0
theorem yKI.t {S : yS} {d : yD} {m : Nat} {p mm z a b i k a2 b2 i2 g : Int32} (ez : z = mm - mm / 1440 * 1440) (e1 : a = 90 * p) (e2 : b = mm / 1440) (e3 : i = a + b) (ek : k = d.2.2.2.1 (S.2.2.1 m 12) i.toNatClampNeg) (c : ¬ k ≤ z) (f1 : a2 = 90 * p) (f2 : b2 = mm / 1440) (f3 : i2 = a2 + b2) (eg : g = d.2.2.2.1 (S.2.2.1 m 13) i2.toNatClampNeg) (cg : g = 0) : (1 : Int32).toInt = yKI S d m p mm := by
  unfold yKI
  rw [if_pos ⟨by rw [← ez, ← e2, ← e1, ← e3, ← ek]; exact Int32.not_le.mp c, by rw [← f2, ← f1, ← f3, ← eg]; exact cg⟩]
  decide +kernel
theorem yKI.f1 {S : yS} {d : yD} {m : Nat} {p mm z a b i k : Int32} (ez : z = mm - mm / 1440 * 1440) (e1 : a = 90 * p) (e2 : b = mm / 1440) (e3 : i = a + b) (ek : k = d.2.2.2.1 (S.2.2.1 m 12) i.toNatClampNeg) (c : k ≤ z) : (0 : Int32).toInt = yKI S d m p mm := by
  unfold yKI
  rw [if_neg (fun w => by
    have w := w.1
    rw [← ez, ← e2, ← e1, ← e3, ← ek] at w
    exact Int32.not_lt.mpr c w)]
  decide +kernel
theorem yKI.f2 {S : yS} {d : yD} {m : Nat} {p mm a2 b2 i2 g : Int32} (f1 : a2 = 90 * p) (f2 : b2 = mm / 1440) (f3 : i2 = a2 + b2) (eg : g = d.2.2.2.1 (S.2.2.1 m 13) i2.toNatClampNeg) (cg : ¬ g = 0) : (0 : Int32).toInt = yKI S d m p mm := by
  unfold yKI
  rw [if_neg (fun w => by
    have w := w.2
    rw [← f2, ← f1, ← f3, ← eg] at w
    exact cg w)]
  decide +kernel
theorem yKI.cg {S : yS} {d u : yD} {m : Nat} {p mm : Int32} (h1 : u.2.2.2.1 (S.2.2.1 m 12) = d.2.2.2.1 (S.2.2.1 m 12)) (h2 : u.2.2.2.1 (S.2.2.1 m 13) = d.2.2.2.1 (S.2.2.1 m 13)) : yKI S u m p mm = yKI S d m p mm := by
  unfold yKI
  rw [h1, h2]
/-- EVENTS and DAYS stand -/
def zMe (S : yS) (d u : yD) (m : Nat) : Prop := u.1 m 1 = d.1 m 1 ∧ u.2.2.2.1 (S.2.2.1 m 15) = d.2.2.2.1 (S.2.2.1 m 15) ∧ u.2.2.2.1 (S.2.2.1 m 16) = d.2.2.2.1 (S.2.2.1 m 16) ∧ u.2.2.2.1 (S.2.2.1 m 17) = d.2.2.2.1 (S.2.2.1 m 17) ∧ u.2.2.2.1 (S.2.2.1 m 12) = d.2.2.2.1 (S.2.2.1 m 12) ∧ u.2.2.2.1 (S.2.2.1 m 13) = d.2.2.2.1 (S.2.2.1 m 13)
theorem zMe.rf {S : yS} {d : yD} {m : Nat} : zMe S d d m := ⟨rfl, rfl, rfl, rfl, rfl, rfl⟩
theorem zMe.tr {S : yS} {d u v : yD} {m : Nat} (h : zMe S d u m) (g : zMe S u v m) : zMe S d v m := ⟨g.1.trans h.1, g.2.1.trans h.2.1, g.2.2.1.trans h.2.2.1, g.2.2.2.1.trans h.2.2.2.1, g.2.2.2.2.1.trans h.2.2.2.2.1, g.2.2.2.2.2.trans h.2.2.2.2.2⟩
theorem zMe.ag {S : yS} {d u v : yD} {m : Nat} {M F : List Nat} (h : zMe S d u m) (hSh : ySh S) (hm : m ∈ S.1) (hk : S.2.1 m = 9) (hg : yAg S M u v) (hf : yK F u v m) (hM : 45 ∉ M ∧ 46 ∉ M ∧ 47 ∉ M ∧ 42 ∉ M ∧ 43 ∉ M) (hF : 1 ∉ F) : zMe S d v m := h.tr ⟨hf 1 hF, (hg _ (by rw [(ySh.f9_15 hSh m hm hk).2]; exact hM.1)).2.2.2.1, (hg _ (by rw [(ySh.f9_16 hSh m hm hk).2]; exact hM.2.1)).2.2.2.1, (hg _ (by rw [(ySh.f9_17 hSh m hm hk).2]; exact hM.2.2.1)).2.2.2.1, (hg _ (by rw [(ySh.f9_12 hSh m hm hk).2]; exact hM.2.2.2.1)).2.2.2.1, (hg _ (by rw [(ySh.f9_13 hSh m hm hk).2]; exact hM.2.2.2.2)).2.2.2.1⟩
theorem zEm.cg {S : yS} {d u : yD} {m : Nat} {E : Nat → List Nat} (h : zEm S d m E) (h0 : u.1 m 1 = d.1 m 1) (h1 : u.2.2.2.1 (S.2.2.1 m 15) = d.2.2.2.1 (S.2.2.1 m 15)) (h2 : u.2.2.2.1 (S.2.2.1 m 16) = d.2.2.2.1 (S.2.2.1 m 16)) (h3 : u.2.2.2.1 (S.2.2.1 m 17) = d.2.2.2.1 (S.2.2.1 m 17)) : zEm S u m E := by
  unfold zEm zDd
  rw [h0, h1, h2, h3]
  exact h
theorem zEm.ag {S : yS} {d u : yD} {m : Nat} {E : Nat → List Nat} {M F : List Nat} (h : zEm S d m E) (hSh : ySh S) (hm : m ∈ S.1) (hk : S.2.1 m = 9) (hg : yAg S M d u) (hf : yK F d u m) (hM : 45 ∉ M ∧ 46 ∉ M ∧ 47 ∉ M) (hF : 1 ∉ F) : zEm S u m E := h.cg (hf 1 hF) (hg _ (by rw [(ySh.f9_15 hSh m hm hk).2]; exact hM.1)).2.2.2.1 (hg _ (by rw [(ySh.f9_16 hSh m hm hk).2]; exact hM.2.1)).2.2.2.1 (hg _ (by rw [(ySh.f9_17 hSh m hm hk).2]; exact hM.2.2)).2.2.2.1
theorem zClV.ag {S : yS} {d u v : yD} {m : Nat} {p f t r : Int32} {M F : List Nat} (h : zClV S d u m p f t r) (hSh : ySh S) (hm : m ∈ S.1) (hk : S.2.1 m = 9) (hg : yAg S M u v) (hf : yK F u v m) (hM : 45 ∉ M ∧ 46 ∉ M ∧ 47 ∉ M) (hF : 1 ∉ F) : zClV S d v m p f t r := fun E hE a b c x y => ⟨(h E hE a b c x y).1.ag hSh hm hk hg hf hM hF, (h E hE a b c x y).2⟩
theorem zClV.pre {S : yS} {d d1 u : yD} {m : Nat} {p f t r : Int32} {M F : List Nat} (h : zClV S d1 u m p f t r) (hSh : ySh S) (hm : m ∈ S.1) (hk : S.2.1 m = 9) (hg : yAg S M d d1) (hf : yK F d d1 m) (hM : 45 ∉ M ∧ 46 ∉ M ∧ 47 ∉ M) (hF : 1 ∉ F) : zClV S d u m p f t r := fun E hE => h E (hE.ag hSh hm hk hg hf hM hF)
theorem zInV.pre {S : yS} {d d1 u : yD} {m : Nat} {p mm kd : Int32} {M F : List Nat} (h : zInV S d1 u m p mm kd) (hSh : ySh S) (hm : m ∈ S.1) (hk : S.2.1 m = 9) (hg : yAg S M d d1) (hf : yK F d d1 m) (hM : 45 ∉ M ∧ 46 ∉ M ∧ 47 ∉ M) (hF : 1 ∉ F) : zInV S d u m p mm kd := fun E hE => h E (hE.ag hSh hm hk hg hf hM hF)
theorem zInV.ag {S : yS} {d u v : yD} {m : Nat} {p mm kd : Int32} {M F : List Nat} (h : zInV S d u m p mm kd) (hSh : ySh S) (hm : m ∈ S.1) (hk : S.2.1 m = 9) (hg : yAg S M u v) (hf : yK F u v m) (hM : 45 ∉ M ∧ 46 ∉ M ∧ 47 ∉ M) (hF : 1 ∉ F) : zInV S d v m p mm kd := fun E hE a b c x y z w => (h E hE a b c x y z w).ag hSh hm hk hg hf hM hF
/-! state() -/
def zIn (a b x : Nat) : Bool := decide (a ≤ x / 8 ∧ x / 8 < b)
theorem zF_in {E : Nat → List Nat} (h8 : zK8 E) {a n : Nat} (h : a + n ≤ zT) : (zF E 0 zT).filter (zIn a (a + n)) = zF E a n := by
  have f1 : (zF E 0 a).filter (zIn a (a + n)) = [] := zf_no (fun x hx w => by have w := of_decide_eq_true w; have q := zF_mem h8 _ hx; omega)
  have f2 : (zF E a n).filter (zIn a (a + n)) = zF E a n := zf_all (fun x hx => decide_eq_true (by have q := zF_mem h8 _ hx; omega))
  have f3 : (zF E (a + n) (zT - (a + n))).filter (zIn a (a + n)) = [] := zf_no (fun x hx w => by have w := of_decide_eq_true w; have q := zF_mem h8 _ hx; omega)
  rw [zF_cut3 h, List.filter_append, List.filter_append, f1, f2, f3, List.nil_append, List.append_nil]
def zSv (S : yS) (d : yD) (m : Nat) (p mm s k : Int32) : Prop := ∀ E, zEm S d m E → 0 ≤ p.toInt → p.toInt ≤ 7 → 0 ≤ mm.toInt → mm.toInt ≤ 129599 → 0 ≤ k.toInt ∧ k.toInt ≤ ((zF E 0 zT).length : Int) ∧ s.toInt = zLS (((zF E 0 zT).take k.toInt.toNat).filter (zIn (129600 * p.toInt.toNat) (129600 * p.toInt.toNat + (mm.toInt.toNat + 1))))
theorem zSv.ini {S : yS} {d : yD} {m : Nat} {p mm : Int32} : zSv S d m p mm 0 0 := fun E hE _ _ _ _ => by
  have z0 : (0 : Int32).toInt = 0 := by decide +kernel
  rw [z0]
  exact ⟨Int.le_refl _, by omega, rfl⟩
theorem zSv.core {S : yS} {d : yD} {m : Nat} {p mm s s2 k z0 : Int32} (h : zSv S d m p mm s k) (hI : yMI S d m) (e0 : z0 = d.1 m 1) (c0 : ¬ z0 ≤ k) (hs : ∀ x : Nat, x < 8294400 → zDd S d m k.toInt.toNat x → 0 ≤ p.toInt → p.toInt ≤ 7 → 0 ≤ mm.toInt → mm.toInt ≤ 129599 → s2.toInt = if (129600 * p.toInt.toNat ≤ x / 8 ∧ x / 8 < 129600 * p.toInt.toNat + (mm.toInt.toNat + 1)) ∧ 3 ≤ x % 8 ∧ x % 8 ≤ 6 then ((x % 8 : Nat) : Int) - 2 else s.toInt) : zSv S d m p mm s2 (k + 1) := fun E hE p0 p7 m0 m1 => by
  obtain ⟨a1, a2, a3⟩ := h E hE p0 p7 m0 m1
  have b := hI.c.2.1
  have c := Int32.lt_iff_toInt_lt.mp (Int32.not_le.mp c0)
  rw [e0] at c
  have hn := hE.2.1
  have hj : k.toInt.toNat < (zF E 0 zT).length := by omega
  obtain ⟨x, hx, hx8⟩ : ∃ x, (zF E 0 zT)[k.toInt.toNat]? = some x ∧ x < 8294400 := ⟨_, List.getElem?_eq_getElem hj, zFx hE.1 (List.getElem_mem hj)⟩
  have hk : (k + 1).toInt = k.toInt + 1 := tadd rfl rfl i_one (by omega) (by omega)
  refine ⟨by omega, by omega, ?_⟩
  rw [hs x hx8 (hE.2.2 _ x hx) p0 p7 m0 m1, show (k + 1).toInt.toNat = k.toInt.toNat + 1 by omega, ztake hx, List.filter_append]
  by_cases w : 129600 * p.toInt.toNat ≤ x / 8 ∧ x / 8 < 129600 * p.toInt.toNat + (mm.toInt.toNat + 1)
  · rw [List.filter_cons_of_pos (show zIn _ _ x = true from decide_eq_true w), List.filter_nil, zLS_snoc, a3]
    by_cases w2 : 3 ≤ x % 8 ∧ x % 8 ≤ 6
    · rw [if_pos ⟨w, w2⟩, if_pos w2]
    · rw [if_neg (fun q => w2 q.2), if_neg w2]
  · rw [List.filter_cons_of_neg (show ¬ zIn (129600 * p.toInt.toNat) (129600 * p.toInt.toNat + (mm.toInt.toNat + 1)) x = true from fun q => w (of_decide_eq_true q)), List.filter_nil, List.append_nil, a3, if_neg (fun q => w q.1)]
/-- not one that tells -/
theorem zSv.no {S : yS} {d : yD} {m : Nat} {p mm s k z0 : Int32} (h : zSv S d m p mm s k) (hI : yMI S d m) (e0 : z0 = d.1 m 1) (c0 : ¬ z0 ≤ k) (hn : (d.2.2.2.1 (S.2.2.1 m 15) k.toNatClampNeg).toInt ≠ p.toInt ∨ mm.toInt < (d.2.2.2.1 (S.2.2.1 m 16) k.toNatClampNeg).toInt ∨ (d.2.2.2.1 (S.2.2.1 m 17) k.toNatClampNeg).toInt < 3 ∨ 6 < (d.2.2.2.1 (S.2.2.1 m 17) k.toNatClampNeg).toInt) : zSv S d m p mm s (k + 1) := h.core hI e0 c0 (fun x hx8 hd p0 p7 m0 m1 => by
  have q := hd.n hx8
  have hn : (d.2.2.2.1 (S.2.2.1 m 15) k.toInt.toNat).toInt ≠ p.toInt ∨ mm.toInt < (d.2.2.2.1 (S.2.2.1 m 16) k.toInt.toNat).toInt ∨ (d.2.2.2.1 (S.2.2.1 m 17) k.toInt.toNat).toInt < 3 ∨ 6 < (d.2.2.2.1 (S.2.2.1 m 17) k.toInt.toNat).toInt := hn
  rw [if_neg]
  rintro ⟨⟨w1, w2⟩, w3, w4⟩
  omega)
theorem zSv.yes {S : yS} {d : yD} {m : Nat} {p mm s k z0 s2 y : Int32} (h : zSv S d m p mm s k) (hI : yMI S d m) (e0 : z0 = d.1 m 1) (c0 : ¬ z0 ≤ k) (h1 : (d.2.2.2.1 (S.2.2.1 m 15) k.toNatClampNeg).toInt = p.toInt) (h2 : (d.2.2.2.1 (S.2.2.1 m 16) k.toNatClampNeg).toInt ≤ mm.toInt) (h3 : 3 ≤ (d.2.2.2.1 (S.2.2.1 m 17) k.toNatClampNeg).toInt ∧ (d.2.2.2.1 (S.2.2.1 m 17) k.toNatClampNeg).toInt ≤ 6) (ey : y = d.2.2.2.1 (S.2.2.1 m 17) k.toNatClampNeg) (es : s2 = y - 2) : zSv S d m p mm s2 (k + 1) := h.core hI e0 c0 (fun x hx8 hd p0 p7 m0 m1 => by
  have q := hd.n hx8
  have y' : y.toInt = (d.2.2.2.1 (S.2.2.1 m 17) k.toInt.toNat).toInt := by rw [ey]; rfl
  have h1 : (d.2.2.2.1 (S.2.2.1 m 15) k.toInt.toNat).toInt = p.toInt := h1
  have h2 : (d.2.2.2.1 (S.2.2.1 m 16) k.toInt.toNat).toInt ≤ mm.toInt := h2
  have h3 : 3 ≤ (d.2.2.2.1 (S.2.2.1 m 17) k.toInt.toNat).toInt ∧ (d.2.2.2.1 (S.2.2.1 m 17) k.toInt.toNat).toInt ≤ 6 := h3
  have s' : s2.toInt = y.toInt - 2 := tsub es rfl (by decide +kernel : (2 : Int32).toInt = 2) (by omega) (by omega)
  have hk := hd.2.2
  rw [if_pos ⟨⟨by omega, by omega⟩, by omega, by omega⟩]
  omega)
def zSm (S : yS) (d : yD) (m : Nat) (p mm r : Int32) : Prop := ∀ E, zEm S d m E → 0 ≤ p.toInt → p.toInt ≤ 7 → 0 ≤ mm.toInt → mm.toInt ≤ 129599 → r.toInt = zLS (zF E (129600 * p.toInt.toNat) (mm.toInt.toNat + 1))
theorem zSv.fin {S : yS} {d : yD} {m : Nat} {p mm s k z0 : Int32} (h : zSv S d m p mm s k) (e0 : z0 = d.1 m 1) (c0 : z0 ≤ k) : zSm S d m p mm s := fun E hE p0 p7 m0 m1 => by
  obtain ⟨a1, a2, a3⟩ := h E hE p0 p7 m0 m1
  have c := Int32.le_iff_toInt_le.mp c0
  rw [e0, hE.2.1] at c
  rw [List.take_of_length_le (by omega), zF_in hE.1 (by have z := zT_eq; omega)] at a3
  exact a3
theorem zSm.pre {S : yS} {d d1 : yD} {m : Nat} {p mm r : Int32} {M F : List Nat} (h : zSm S d1 m p mm r) (hSh : ySh S) (hm : m ∈ S.1) (hk : S.2.1 m = 9) (hg : yAg S M d d1) (hf : yK F d d1 m) (hM : 45 ∉ M ∧ 46 ∉ M ∧ 47 ∉ M) (hF : 1 ∉ F) : zSm S d m p mm r := fun E hE => h E (hE.ag hSh hm hk hg hf hM hF)
/-! day(), tear(), port(): the minutes known -/
abbrev zDi (p k : Int32) : Nat := 90 * p.toInt.toNat + k.toInt.toNat
theorem nbs_ : ∀ k, k < 1441 → vp_nar .short (nI k).toInt16.toInt32 = nI k ∧ vp_nar .short (nI k) = nI k := by decide +kernel
theorem nbs {x : Int32} (h0 : 0 ≤ x.toInt) (h1 : x.toInt ≤ 1440) : vp_nar .short x.toInt16.toInt32 = x ∧ vp_nar .short x = x := by
  have e : x = nI x.toInt.toNat := Int32.toInt_inj.mp (by rw [nI_toInt (by omega)]; omega)
  have q := nbs_ x.toInt.toNat (by omega)
  rw [← e] at q
  exact q
theorem zn23 {S : yS} {m : Nat} (hSh : ySh S) (hm : m ∈ S.1) (hk : S.2.1 m = 9) : S.2.2.1 m 12 ≠ S.2.2.1 m 13 := fun e => by
  have c5 := (ySh.f9_12 hSh m hm hk).2
  rw [e, (ySh.f9_13 hSh m hm hk).2] at c5
  cases c5
/-- in the midst of a port's DAYS made anew -/
def zPk (S : yS) (d0 d : yD) (m p : Nat) (k : Int32) : Prop := (0 ≤ k.toInt ∧ k.toInt ≤ 90) ∧ (∀ j : Nat, (j : Int) < k.toInt → d.2.2.2.1 (S.2.2.1 m 12) (90 * p + j) = 1440 ∧ d.2.2.2.1 (S.2.2.1 m 13) (90 * p + j) = 0) ∧ ∀ i : Nat, (i < 90 * p ∨ 90 * p + 90 ≤ i) → d.2.2.2.1 (S.2.2.1 m 12) i = d0.2.2.2.1 (S.2.2.1 m 12) i ∧ d.2.2.2.1 (S.2.2.1 m 13) i = d0.2.2.2.1 (S.2.2.1 m 13) i
theorem zPk.ini {S : yS} {d0 : yD} {m p : Nat} : zPk S d0 d0 m p 0 := ⟨by decide, fun j h => absurd h (by rw [show (0 : Int32).toInt = 0 by decide +kernel]; omega), fun _ _ => ⟨rfl, rfl⟩⟩
theorem zPk.step {S : yS} {d0 d d1 d2 d3 : yD} {m p : Nat} {k i1 i2 x : Int32} {f : Nat → Int32} (h : zPk S d0 d m p k) (hSh : ySh S) (hm : m ∈ S.1) (hk : S.2.1 m = 9) (hc : ¬ 90 ≤ k) (q1 : i1.toInt = 90 * (p : Int) + k.toInt) (q2 : i2.toInt = 90 * (p : Int) + k.toInt) (e1 : d1 = ycs d (S.2.2.1 m 12) (upd (d.2.2.2.1 (S.2.2.1 m 12)) i1.toNatClampNeg (vp_nar .short 1440))) (e2 : d2 = ycs d1 (S.2.2.1 m 13) (upd (d1.2.2.2.1 (S.2.2.1 m 13)) i2.toNatClampNeg (vp_nar .boolean 0))) (e3 : d3 = ycs d2 (S.2.2.1 m 14) f) : zPk S d0 d3 m p (k + 1) := by
  have z90 : (90 : Int32).toInt = 90 := by decide +kernel
  have n23 := zn23 hSh hm hk
  have n24 : S.2.2.1 m 12 ≠ S.2.2.1 m 14 := fun e => by
    have c5 := (ySh.f9_12 hSh m hm hk).2
    rw [e, (ySh.f9_14 hSh m hm hk).2] at c5
    cases c5
  have n34 : S.2.2.1 m 13 ≠ S.2.2.1 m 14 := fun e => by
    have c5 := (ySh.f9_13 hSh m hm hk).2
    rw [e, (ySh.f9_14 hSh m hm hk).2] at c5
    cases c5
  obtain ⟨⟨a1, a2⟩, a3, a4⟩ := h
  have c := Int32.lt_iff_toInt_lt.mp (Int32.not_le.mp hc)
  have ek : (k + 1).toInt = k.toInt + 1 := tadd rfl rfl i_one (by omega) (by omega)
  have r1 : i1.toNatClampNeg = 90 * p + k.toInt.toNat := (show i1.toInt.toNat = _ by omega)
  have r2 : i2.toNatClampNeg = 90 * p + k.toInt.toNat := (show i2.toInt.toNat = _ by omega)
  have w1 : d3.2.2.2.1 (S.2.2.1 m 12) = upd (d.2.2.2.1 (S.2.2.1 m 12)) (90 * p + k.toInt.toNat) 1440 := by rw [e3, ycs_ne n24, e2, ycs_ne n23, e1, ycs_at, r1, show vp_nar .short (1440 : Int32) = 1440 by decide +kernel]
  have w2 : d3.2.2.2.1 (S.2.2.1 m 13) = upd (d.2.2.2.1 (S.2.2.1 m 13)) (90 * p + k.toInt.toNat) 0 := by rw [e3, ycs_ne n34, e2, ycs_at, e1, ycs_ne (Ne.symm n23), r2, show vp_nar .boolean (0 : Int32) = 0 by decide +kernel]
  rw [show (zPk S d0 d3 m p (k + 1)) = ((0 ≤ (k + 1).toInt ∧ (k + 1).toInt ≤ 90) ∧ (∀ j : Nat, (j : Int) < (k + 1).toInt → d3.2.2.2.1 (S.2.2.1 m 12) (90 * p + j) = 1440 ∧ d3.2.2.2.1 (S.2.2.1 m 13) (90 * p + j) = 0) ∧ ∀ i : Nat, (i < 90 * p ∨ 90 * p + 90 ≤ i) → d3.2.2.2.1 (S.2.2.1 m 12) i = d0.2.2.2.1 (S.2.2.1 m 12) i ∧ d3.2.2.2.1 (S.2.2.1 m 13) i = d0.2.2.2.1 (S.2.2.1 m 13) i) from rfl, w1, w2]
  refine ⟨⟨by omega, by omega⟩, fun j hj => ?_, fun i hi => ?_⟩
  · rw [zupd, zupd]
    by_cases e : j = k.toInt.toNat
    · rw [if_pos (by omega), if_pos (by omega)]; exact ⟨rfl, rfl⟩
    · rw [if_neg (by omega), if_neg (by omega)]; exact a3 j (by omega)
  · rw [zupd, zupd, if_neg (by omega), if_neg (by omega)]; exact a4 i hi
def zDayR (S : yS) (d u : yD) (m p : Nat) : Prop := (∀ j : Nat, j < 90 → u.2.2.2.1 (S.2.2.1 m 12) (90 * p + j) = 1440 ∧ u.2.2.2.1 (S.2.2.1 m 13) (90 * p + j) = 0) ∧ ∀ i : Nat, (i < 90 * p ∨ 90 * p + 90 ≤ i) → u.2.2.2.1 (S.2.2.1 m 12) i = d.2.2.2.1 (S.2.2.1 m 12) i ∧ u.2.2.2.1 (S.2.2.1 m 13) i = d.2.2.2.1 (S.2.2.1 m 13) i
theorem zPk.fin {S : yS} {d e0 d1 u : yD} {m p : Nat} {k : Int32} (h : zPk S e0 d1 m p k) (hc : 90 ≤ k) (g1 : u.2.2.2.1 (S.2.2.1 m 12) = d1.2.2.2.1 (S.2.2.1 m 12)) (g2 : u.2.2.2.1 (S.2.2.1 m 13) = d1.2.2.2.1 (S.2.2.1 m 13)) (f1 : e0.2.2.2.1 (S.2.2.1 m 12) = d.2.2.2.1 (S.2.2.1 m 12)) (f2 : e0.2.2.2.1 (S.2.2.1 m 13) = d.2.2.2.1 (S.2.2.1 m 13)) : zDayR S d u m p := by
  have z90 : (90 : Int32).toInt = 90 := by decide +kernel
  have c := Int32.le_iff_toInt_le.mp hc
  obtain ⟨-, a3, a4⟩ := h
  unfold zDayR
  rw [g1, g2, ← f1, ← f2]
  exact ⟨fun j hj => a3 j (by omega), a4⟩
/-! rows kept in an image, and back -/
def zCn (N : Int32 → Int32) (f g : Nat → Int32) (k : Int32) : Prop := ∀ j : Nat, (j : Int) < k.toInt → f j = N (g j)
theorem zCn.ini {N : Int32 → Int32} {f g : Nat → Int32} : zCn N f g 0 := fun j h => absurd h (by rw [show (0 : Int32).toInt = 0 by decide +kernel]; omega)
theorem zCn.step {N : Int32 → Int32} {f f' g : Nat → Int32} {k n : Int32} (h : zCn N f g k) (h0 : 0 ≤ k.toInt) (hc : ¬ n ≤ k) (e : f' = upd f k.toNatClampNeg (N (g k.toNatClampNeg))) : zCn N f' g (k + 1) := fun j hj => by
  have b : n.toInt < 2 ^ 31 := n.toInt_lt
  have c := Int32.lt_iff_toInt_lt.mp (Int32.not_le.mp hc)
  have ek : (k + 1).toInt = k.toInt + 1 := tadd rfl rfl i_one (by omega) (by omega)
  have q : k.toNatClampNeg = k.toInt.toNat := rfl
  rw [e, zupd]
  by_cases w : j = k.toNatClampNeg
  · rw [if_pos w, w]
  · rw [if_neg w]; exact h j (by omega)
theorem zCn.fin {N : Int32 → Int32} {f g f' g' : Nat → Int32} {k n : Int32} {M : Nat} (h : zCn N f g k) (hc : n ≤ k) (en : n.toInt = (M : Int)) (e1 : f' = f) (e2 : g = g') : ∀ j : Nat, j < M → f' j = N (g' j) := fun j hj => by
  have c := Int32.le_iff_toInt_le.mp hc
  rw [e1, ← e2]; exact h j (by omega)
theorem xkp1 {f : Nat → Int32} {a b c e : Int32} : upd (upd (upd (upd f (0 : Int32).toNatClampNeg a) (1 : Int32).toNatClampNeg b) (2 : Int32).toNatClampNeg c) (3 : Int32).toNatClampNeg e 1 = b := by
  have h0 : (0 : Int32).toNatClampNeg = 0 := by decide +kernel
  have h1 : (1 : Int32).toNatClampNeg = 1 := by decide +kernel
  have h2 : (2 : Int32).toNatClampNeg = 2 := by decide +kernel
  have h3 : (3 : Int32).toNatClampNeg = 3 := by decide +kernel
  rw [h0, h1, h2, h3]
  rfl
/-- EVENTS and DAYS kept (a: of one set of rows, b: of the other one) -/
def zKeepD (f5 f6 f7 f2 f3 g5 g6 g7 g2 g3 : Nat → Int32) : Prop := (∀ j : Nat, j < 5000 → f5 j = vp_nar .byte (g5 j)) ∧ (∀ j : Nat, j < 5000 → f6 j = id (g6 j)) ∧ (∀ j : Nat, j < 5000 → f7 j = vp_nar .byte (g7 j)) ∧ (∀ j : Nat, j < 720 → f2 j = vp_nar .short (g2 j)) ∧ ∀ j : Nat, j < 720 → f3 j = vp_nar .boolean (g3 j)
