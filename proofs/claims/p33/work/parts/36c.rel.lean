/-! THE RELATION for rows of terms -/
def zCe (D F : Nat → Nat → Int32) (k : Nat) : Prop := (F 4 k = 0 ∧ D 0 k = 6) ∨ (F 4 k = 1 ∧ D 0 k = 5 ∧ D 2 k = F 10 k) ∨ (F 4 k = 2 ∧ D 0 k = F 5 k ∧ (0 ≤ (D 0 k).toInt ∧ (D 0 k).toInt ≤ 4) ∧ D 1 k = F 6 k ∧ (0 ≤ (D 1 k).toInt ∧ (D 1 k).toInt ≤ 4) ∧ D 2 k = F 7 k ∧ D 3 k = F 8 k ∧ D 4 k = F 9 k ∧ (0 ≤ (D 4 k).toInt ∧ (D 4 k).toInt ≤ 31) ∧ D 5 k = F 10 k)
def zRT (n : Nat) (D F : Nat → Nat → Int32) : Prop := ∀ k, k < 2400 → (k < 60 * n → zCe D F k) ∧ (60 * n ≤ k → D 0 k = 6)
theorem zCe.cg {D F D' F' : Nat → Nat → Int32} {k : Nat} (h : zCe D F k) (hD : ∀ i, i < 6 → D' i k = D i k) (hF : ∀ s, 4 ≤ s → s ≤ 10 → F' s k = F s k) : zCe D' F' k := by
  unfold zCe
  rw [hF 4 (by decide) (by decide), hF 5 (by decide) (by decide), hF 6 (by decide) (by decide), hF 7 (by decide) (by decide), hF 8 (by decide) (by decide), hF 9 (by decide) (by decide), hF 10 (by decide) (by decide), hD 0 (by decide), hD 1 (by decide), hD 2 (by decide), hD 3 (by decide), hD 4 (by decide), hD 5 (by decide)]
  exact h
theorem zRT.cg {n : Nat} {D F D' F' : Nat → Nat → Int32} (h : zRT n D F) (hD : ∀ i, i < 6 → ∀ k, k < 2400 → D' i k = D i k) (hF : ∀ s, 4 ≤ s → s ≤ 10 → ∀ k, k < 2400 → F' s k = F s k) : zRT n D' F' := fun k hk => ⟨fun a => ((h k hk).1 a).cg (fun i hi => hD i hi k hk) (fun s x y => hF s x y k hk), fun a => (hD 0 (by decide) k hk).trans ((h k hk).2 a)⟩
theorem zRT.up {n K : Nat} {D F D' F' : Nat → Nat → Int32} (h : zRT n D F) (hK : K < 60 * n) (hD : ∀ i, i < 6 → ∀ k, k < 2400 → k ≠ K → D' i k = D i k) (hF : ∀ s, 4 ≤ s → s ≤ 10 → ∀ k, k < 2400 → k ≠ K → F' s k = F s k) (hc : zCe D' F' K) : zRT n D' F' := fun k hk => by
  by_cases e : k = K
  · subst e
    exact ⟨fun _ => hc, fun a => absurd hK (by omega)⟩
  · exact ⟨fun a => ((h k hk).1 a).cg (fun i hi => hD i hi k hk e) (fun s x y => hF s x y k hk e), fun a => (hD 0 (by decide) k hk e).trans ((h k hk).2 a)⟩
theorem zRT.more {n : Nat} {D F F' : Nat → Nat → Int32} (h : zRT n D F) (h0 : ∀ j, j < 60 → F' 4 (60 * n + j) = 0) (hF : ∀ k, (k < 60 * n ∨ 60 * n + 60 ≤ k) → F' 4 k = F 4 k) (hG : ∀ s, 5 ≤ s → s ≤ 10 → F' s = F s) : zRT (n + 1) D F' := fun k hk => by
  refine ⟨fun a => ?_, fun a => (h k hk).2 (by omega)⟩
  by_cases e : k < 60 * n
  · refine ((h k hk).1 e).cg (fun _ _ => rfl) (fun s x y => ?_)
    by_cases s4 : s = 4
    · subst s4; exact hF k (Or.inl e)
    · rw [hG s (by omega) y]
  · have q := h0 (k - 60 * n) (by omega)
    rw [show 60 * n + (k - 60 * n) = k by omega] at q
    exact Or.inl ⟨q, (h k hk).2 (by omega)⟩
theorem zRT.nar {n : Nat} {D F D' F' : Nat → Nat → Int32} (h : zRT n D F) (hD : ∀ i, i < 6 → ∀ k, k < 2400 → D' i k = D i k) (hF : ∀ s, 4 ≤ s → s ≤ 10 → ∀ k, k < 2400 → F' s k = zNr s (F s k)) : zRT n D' F' := fun k hk => by
  refine ⟨fun a => ?_, fun a => (hD 0 (by decide) k hk).trans ((h k hk).2 a)⟩
  have f4 : F' 4 k = vp_nar .byte (F 4 k) := hF 4 (by decide) (by decide) k hk
  have f5 : F' 5 k = vp_nar .byte (F 5 k) := hF 5 (by decide) (by decide) k hk
  have f6 : F' 6 k = vp_nar .byte (F 6 k) := hF 6 (by decide) (by decide) k hk
  have f7 : F' 7 k = F 7 k := hF 7 (by decide) (by decide) k hk
  have f8 : F' 8 k = F 8 k := hF 8 (by decide) (by decide) k hk
  have f9 : F' 9 k = vp_nar .byte (F 9 k) := hF 9 (by decide) (by decide) k hk
  have f10 : F' 10 k = F 10 k := hF 10 (by decide) (by decide) k hk
  unfold zCe
  rw [f4, f5, f6, f7, f8, f9, f10, hD 0 (by decide) k hk, hD 1 (by decide) k hk, hD 2 (by decide) k hk, hD 3 (by decide) k hk, hD 4 (by decide) k hk, hD 5 (by decide) k hk]
  rcases (h k hk).1 a with ⟨x, y⟩ | ⟨x, y, z⟩ | ⟨x, k5, ⟨r0, r4⟩, k6, ⟨s0, s4⟩, k7, k8, k9, ⟨y0, y31⟩, k10⟩
  · exact Or.inl ⟨by rw [x]; decide +kernel, y⟩
  · exact Or.inr (Or.inl ⟨by rw [x]; decide +kernel, y, z⟩)
  · refine Or.inr (Or.inr ⟨by rw [x]; decide +kernel, ?_, ⟨r0, r4⟩, ?_, ⟨s0, s4⟩, k7, k8, ?_, ⟨y0, y31⟩, k10⟩)
    · rw [← k5, (nb r0 (by omega)).2]
    · rw [← k6, (nb s0 (by omega)).2]
    · rw [← k9, (nb y0 (by omega)).2]
theorem xK {c p : Int32} (c0 : 0 ≤ c.toInt) (c39 : c.toInt ≤ 39) (p0 : 0 ≤ p.toInt) (p59 : p.toInt ≤ 59) : (c * 60 + p).toInt = 60 * c.toInt + p.toInt := by
  have a : (c * 60).toInt = c.toInt * 60 := tmul rfl rfl (by decide +kernel : (60 : Int32).toInt = 60) (by omega) (by omega)
  have b : (c * 60 + p).toInt = c.toInt * 60 + p.toInt := tadd rfl a rfl (by omega) (by omega)
  omega
theorem xpK {c p v : Int32} {f : Nat → Int32} (c0 : 0 ≤ c.toInt) (c39 : c.toInt ≤ 39) (p0 : 0 ≤ p.toInt) (p59 : p.toInt ≤ 59) : xput 2402 f (c * 60 + p) v = upd f (60 * c.toInt.toNat + p.toInt.toNat) v := by
  have q := xK c0 c39 p0 p59
  have b2402 : (nI 2402).toInt = 2402 := nI_toInt (by decide)
  have z0 : (0 : Int32).toInt = 0 := by decide +kernel
  unfold xput
  rw [if_neg (fun w => by have := Int32.lt_iff_toInt_lt.mp w; omega), if_neg (fun w => by have := Int32.le_iff_toInt_le.mp w; omega), show (c * 60 + p).toNatClampNeg = 60 * c.toInt.toNat + p.toInt.toNat from (show (c * 60 + p).toInt.toNat = _ by omega)]
theorem xaK {c p : Int32} {f : Nat → Int32} (c0 : 0 ≤ c.toInt) (c39 : c.toInt ≤ 39) (p0 : 0 ≤ p.toInt) (p59 : p.toInt ≤ 59) : xat 2402 f (c * 60 + p) = f (60 * c.toInt.toNat + p.toInt.toNat) := by
  have q := xK c0 c39 p0 p59
  have b2402 : (nI 2402).toInt = 2402 := nI_toInt (by decide)
  have z0 : (0 : Int32).toInt = 0 := by decide +kernel
  unfold xat
  rw [if_neg (fun w => by have := Int32.lt_iff_toInt_lt.mp w; omega), if_neg (fun w => by have := Int32.le_iff_toInt_le.mp w; omega), show (c * 60 + p).toNatClampNeg = 60 * c.toInt.toNat + p.toInt.toNat from (show (c * 60 + p).toInt.toNat = _ by omega)]
/-- what a cell's kind tells on both sides -/
theorem zCe.kinds {D F : Nat → Nat → Int32} {k : Nat} (h : zCe D F k) : ((D 0 k).toInt = 6 ↔ (F 4 k).toInt = 0) ∧ ((D 0 k).toInt = 5 ↔ (F 4 k).toInt = 1) ∧ ((F 4 k).toInt ≠ 0 → (F 4 k).toInt ≠ 1 → D 0 k = F 5 k ∧ D 1 k = F 6 k ∧ D 2 k = F 7 k ∧ D 3 k = F 8 k ∧ D 4 k = F 9 k ∧ D 5 k = F 10 k) ∧ ((F 4 k).toInt = 1 → D 2 k = F 10 k) := by
  have i0 : (0 : Int32).toInt = 0 := by decide +kernel
  have i1 : (1 : Int32).toInt = 1 := by decide +kernel
  have i2 : (2 : Int32).toInt = 2 := by decide +kernel
  have i5 : (5 : Int32).toInt = 5 := by decide +kernel
  have i6 : (6 : Int32).toInt = 6 := by decide +kernel
  rcases h with ⟨x, y⟩ | ⟨x, y, z⟩ | ⟨x, k5, ⟨r0, r4⟩, k6, -, k7, k8, k9, -, k10⟩
  · rw [x, y, i0, i6]
    exact ⟨⟨fun _ => rfl, fun _ => rfl⟩, ⟨fun w => by omega, fun w => by omega⟩, fun w => absurd rfl w, fun w => by omega⟩
  · rw [x, y, i1, i5]
    exact ⟨⟨fun w => by omega, fun w => by omega⟩, ⟨fun _ => rfl, fun _ => rfl⟩, fun _ w => absurd rfl w, fun _ => z⟩
  · rw [x, i2]
    exact ⟨⟨fun w => by omega, fun w => by omega⟩, ⟨fun w => by omega, fun w => by omega⟩, fun _ _ => ⟨k5, k6, k7, k8, k9, k10⟩, fun w => by omega⟩
def yTd (S : yS) (d : yD) (t i : Nat) : Nat → Int32 := d.2.2.2.1 (S.2.2.1 t i)
def yTm (S : yS) (d : yD) (m s : Nat) : Nat → Int32 := d.2.2.2.1 (S.2.2.1 m s)
def yR3 (S : yS) (d : yD) (q m : Nat) : Prop := zRT (d.1 m 0).toInt.toNat (yTd S d (S.2.2.1 (S.2.2.1 q 0) 0)) (yTm S d m) ∧ (d.1 q 4 = 1 → zRT (d.2.2.2.1 (S.2.2.1 m 21) 0).toInt.toNat (yTd S d (S.2.2.1 (S.2.2.1 q 1) 0)) (fun s => yTm S d m (s + 18)))
def zI3 (S : yS) (d : yD) : Prop := ∀ a, a ∈ S.1 → S.2.1 a = 4 → 0 ≤ (d.1 a 3).toInt ∧ (d.1 a 3).toInt ≤ 39
section YR3
variable {S : yS} {d u1 u2 : yD} {q m : Nat} {M M' F : List Nat}
theorem yT2 (hSh : ySh S) (hq : q ∈ S.1) (hkq : S.2.1 q = 8) : (S.2.2.1 (S.2.2.1 q 0) 0 ∈ S.1 ∧ S.2.1 (S.2.2.1 (S.2.2.1 q 0) 0) = 6) ∧ (S.2.2.1 (S.2.2.1 q 1) 0 ∈ S.1 ∧ S.2.1 (S.2.2.1 (S.2.2.1 q 1) 0) = 6) := by
  have a := ySh.f8_0 hSh q hq hkq
  have b := ySh.f8_1 hSh q hq hkq
  exact ⟨ySh.f0_0 hSh _ a.1 a.2, ySh.f0_0 hSh _ b.1 b.2⟩
theorem yT2ne (hSh : ySh S) (hq : q ∈ S.1) (hkq : S.2.1 q = 8) (hnk : S.2.2.1 q 0 ≠ S.2.2.1 q 1) : S.2.2.1 (S.2.2.1 q 1) 0 ≠ S.2.2.1 (S.2.2.1 q 0) 0 := by
  have a := ySh.f8_0 hSh q hq hkq
  have b := ySh.f8_1 hSh q hq hkq
  exact fun e => hnk (ySh.j0_0 hSh _ _ b.1 a.1 b.2 a.2 e).symm
theorem yk18 {m : Nat} (hSh : ySh S) (hm : m ∈ S.1) (hk : S.2.1 m = 9) {s : Nat} (h4 : 4 ≤ s) (h10 : s ≤ 10) : S.2.1 (S.2.2.1 m (s + 18)) = 48 + s := by
  obtain rfl | rfl | rfl | rfl | rfl | rfl | rfl : s = 4 ∨ s = 5 ∨ s = 6 ∨ s = 7 ∨ s = 8 ∨ s = 9 ∨ s = 10 := by omega
  · exact (ySh.f9_22 hSh m hm hk).2
  · exact (ySh.f9_23 hSh m hm hk).2
  · exact (ySh.f9_24 hSh m hm hk).2
  · exact (ySh.f9_25 hSh m hm hk).2
  · exact (ySh.f9_26 hSh m hm hk).2
  · exact (ySh.f9_27 hSh m hm hk).2
  · exact (ySh.f9_28 hSh m hm hk).2
/-- what a call leaves alone: the desk's rows (10 .. 15), the reference's (34 .. 40), its image's (52 .. 58) -/
abbrev zNoD (M : List Nat) : Prop := 10 ∉ M ∧ 11 ∉ M ∧ 12 ∉ M ∧ 13 ∉ M ∧ 14 ∉ M ∧ 15 ∉ M
abbrev zNoR (M : List Nat) : Prop := 34 ∉ M ∧ 35 ∉ M ∧ 36 ∉ M ∧ 37 ∉ M ∧ 38 ∉ M ∧ 39 ∉ M ∧ 40 ∉ M
abbrev zNoK (M : List Nat) : Prop := 52 ∉ M ∧ 53 ∉ M ∧ 54 ∉ M ∧ 55 ∉ M ∧ 56 ∉ M ∧ 57 ∉ M ∧ 58 ∉ M
theorem zNoD.c (h : zNoD M) {i : Nat} (hi : i < 6) : 10 + i ∉ M := by
  obtain rfl | rfl | rfl | rfl | rfl | rfl : i = 0 ∨ i = 1 ∨ i = 2 ∨ i = 3 ∨ i = 4 ∨ i = 5 := by omega
  · exact h.1
  · exact h.2.1
  · exact h.2.2.1
  · exact h.2.2.2.1
  · exact h.2.2.2.2.1
  · exact h.2.2.2.2.2
theorem zNoR.c (h : zNoR M) {s : Nat} (a : 4 ≤ s) (b : s ≤ 10) : 30 + s ∉ M := by
  obtain rfl | rfl | rfl | rfl | rfl | rfl | rfl : s = 4 ∨ s = 5 ∨ s = 6 ∨ s = 7 ∨ s = 8 ∨ s = 9 ∨ s = 10 := by omega
  · exact h.1
  · exact h.2.1
  · exact h.2.2.1
  · exact h.2.2.2.1
  · exact h.2.2.2.2.1
  · exact h.2.2.2.2.2.1
  · exact h.2.2.2.2.2.2
theorem zNoK.c (h : zNoK M) {s : Nat} (a : 4 ≤ s) (b : s ≤ 10) : 48 + s ∉ M := by
  obtain rfl | rfl | rfl | rfl | rfl | rfl | rfl : s = 4 ∨ s = 5 ∨ s = 6 ∨ s = 7 ∨ s = 8 ∨ s = 9 ∨ s = 10 := by omega
  · exact h.1
  · exact h.2.1
  · exact h.2.2.1
  · exact h.2.2.2.1
  · exact h.2.2.2.2.1
  · exact h.2.2.2.2.2.1
  · exact h.2.2.2.2.2.2
/-- where rows change by the same steps on both sides -/
theorem yR3.up (h : yR3 S d q m) (hSh : ySh S) (hq : q ∈ S.1) (hkq : S.2.1 q = 8) (hm : m ∈ S.1) (hkm : S.2.1 m = 9) (hnk : S.2.2.1 q 0 ≠ S.2.2.1 q 1) (hg1 : yAg S M d u1) (hM : 9 ∉ M ∧ 51 ∉ M ∧ zNoR M ∧ zNoK M) (hg2 : yAg S M' u1 u2) (hM' : 8 ∉ M' ∧ 51 ∉ M' ∧ zNoD M' ∧ zNoK M') (himg : u1.1 q 4 = d.1 q 4)
    (hB : ∀ i, i < 6 → ∀ k, k < 2400 → u1.2.2.2.1 (S.2.2.1 (S.2.2.1 (S.2.2.1 q 1) 0) i) k = d.2.2.2.1 (S.2.2.1 (S.2.2.1 (S.2.2.1 q 1) 0) i) k) (hT : zRT (u2.1 m 0).toInt.toNat (yTd S u1 (S.2.2.1 (S.2.2.1 q 0) 0)) (yTm S u2 m)) : yR3 S u2 q m := by
  obtain ⟨⟨t0, k0⟩, t1, k1⟩ := yT2 hSh hq hkq
  have k21 := (ySh.f9_21 hSh m hm hkm).2
  have e21 : u2.2.2.2.1 (S.2.2.1 m 21) = d.2.2.2.1 (S.2.2.1 m 21) := ((hg2 _ (by rw [k21]; exact hM'.2.1)).2.2.2.1).trans (hg1 _ (by rw [k21]; exact hM.2.1)).2.2.2.1
  have f8 : u2.1 q = u1.1 q := (hg2 q (by rw [hkq]; exact hM'.1)).1
  refine ⟨hT.cg (fun i hi k _ => congrFun (hg2 _ (by rw [yk6 hSh t0 k0 hi]; exact hM'.2.2.1.c hi)).2.2.2.1 k) (fun _ _ _ _ _ => rfl), fun hi => ?_⟩
  rw [e21]
  refine (h.2 (by rw [← himg, ← f8]; exact hi)).cg (fun i hi k hk => ?_) (fun s a b k _ => ?_)
  · exact (congrFun (hg2 _ (by rw [yk6 hSh t1 k1 hi]; exact hM'.2.2.1.c hi)).2.2.2.1 k).trans (hB i hi k hk)
  · exact congrFun (((hg2 _ (by rw [yk18 hSh hm hkm a b]; exact hM'.2.2.2.c a b)).2.2.2.1).trans (hg1 _ (by rw [yk18 hSh hm hkm a b]; exact hM.2.2.2.c a b)).2.2.2.1) k
/-- where neither side touches rows -/
theorem yR3.gen (h : yR3 S d q m) (hSh : ySh S) (hq : q ∈ S.1) (hkq : S.2.1 q = 8) (hm : m ∈ S.1) (hkm : S.2.1 m = 9) (hnk : S.2.2.1 q 0 ≠ S.2.2.1 q 1) (hg1 : yAg S M d u1) (hM : 9 ∉ M ∧ 51 ∉ M ∧ zNoR M ∧ zNoK M) (hD : zNoD M) (hg2 : yAg S M' u1 u2) (hM' : 8 ∉ M' ∧ 51 ∉ M' ∧ zNoD M' ∧ zNoK M') (hR : zNoR M') (himg : u1.1 q 4 = d.1 q 4) (h0 : u2.1 m 0 = u1.1 m 0) : yR3 S u2 q m := by
  obtain ⟨⟨t0, k0⟩, t1, k1⟩ := yT2 hSh hq hkq
  have em : u1.1 m = d.1 m := (hg1 m (by rw [hkm]; exact hM.1)).1
  refine h.up hSh hq hkq hm hkm hnk hg1 hM hg2 hM' himg (fun i hi k _ => congrFun (hg1 _ (by rw [yk6 hSh t1 k1 hi]; exact hD.c hi)).2.2.2.1 k) ?_
  rw [h0, em]
  exact h.1.cg (fun i hi k _ => congrFun (hg1 _ (by rw [yk6 hSh t0 k0 hi]; exact hD.c hi)).2.2.2.1 k) (fun s a b k _ => congrFun (((hg2 _ (by rw [zk9 hSh hm hkm a b]; exact hR.c a b)).2.2.2.1).trans (hg1 _ (by rw [zk9 hSh hm hkm a b]; exact hM.2.2.1.c a b)).2.2.2.1) k)
/-- a row written on both sides -/
theorem yR3.row (h : yR3 S d q m) (hSh : ySh S) (hq : q ∈ S.1) (hkq : S.2.1 q = 8) (hm : m ∈ S.1) (hkm : S.2.1 m = 9) (hnk : S.2.2.1 q 0 ≠ S.2.2.1 q 1) (hg1 : yAg S M d u1) (hM : 9 ∉ M ∧ 51 ∉ M ∧ zNoR M ∧ zNoK M) (hg2 : yAg S M' u1 u2) (hM' : 8 ∉ M' ∧ 51 ∉ M' ∧ zNoD M' ∧ zNoK M') (himg : u1.1 q 4 = d.1 q 4) (h0 : u2.1 m 0 = u1.1 m 0) {K : Nat} {f g : Nat → Nat → Int32} (hK : K < 60 * (d.1 m 0).toInt.toNat)
    (hD : zTm S d u1 (S.2.2.1 (S.2.2.1 q 0) 0) f) (hF : zTr S u2 m g) (fD : ∀ i, i < 6 → ∀ k, k ≠ K → f i k = yTd S d (S.2.2.1 (S.2.2.1 q 0) 0) i k) (gF : ∀ s, 4 ≤ s → s ≤ 10 → ∀ k, k ≠ K → g s k = yTm S u1 m s k) (hc : zCe f g K) : yR3 S u2 q m := by
  obtain ⟨⟨t0, k0⟩, t1, k1⟩ := yT2 hSh hq hkq
  have em : u1.1 m = d.1 m := (hg1 m (by rw [hkm]; exact hM.1)).1
  refine h.up hSh hq hkq hm hkm hnk hg1 hM hg2 hM' himg (fun i hi k _ => congrFun (hD.2 _ t1 k1 (yT2ne hSh hq hkq hnk) i hi) k) ?_
  rw [h0, em]
  refine (h.1.up (D' := f) (F' := g) hK (fun i hi k _ hk => fD i hi k hk) (fun s a b k _ hk => (gF s a b k hk).trans (congrFun (hg1 _ (by rw [zk9 hSh hm hkm a b]; exact hM.2.2.1.c a b)).2.2.2.1 k)) hc).cg (fun i hi k _ => congrFun (hD.1 i hi) k) (fun s a b k _ => congrFun (hF s a b) k)
/-- the rows as they are before both sides' calls, told of the reference after the desk's -/
theorem yR3.now (h : yR3 S d q m) (hSh : ySh S) (hm : m ∈ S.1) (hkm : S.2.1 m = 9) (hg1 : yAg S M d u1) (hM : 9 ∉ M ∧ 51 ∉ M ∧ zNoR M ∧ zNoK M) : zRT (u1.1 m 0).toInt.toNat (yTd S d (S.2.2.1 (S.2.2.1 q 0) 0)) (yTm S u1 m) := by
  rw [(hg1 m (by rw [hkm]; exact hM.1)).1]
  exact h.1.cg (fun _ _ _ _ => rfl) (fun s a b k _ => congrFun (hg1 _ (by rw [zk9 hSh hm hkm a b]; exact hM.2.2.1.c a b)).2.2.2.1 k)
theorem zRT.ce {n c p : Int32} {D F : Nat → Nat → Int32} (h : zRT n.toInt.toNat D F) (hr : (0 ≤ c.toInt ∧ c.toInt ≤ 39 ∧ c.toInt < n.toInt) ∧ 0 ≤ p.toInt ∧ p.toInt ≤ 59) : zCe D F (60 * c.toInt.toNat + p.toInt.toNat) := (h _ (by omega)).1 (by omega)
/-- nothing written on either side -/
theorem yR3.same (h : yR3 S d q m) (hSh : ySh S) (hq : q ∈ S.1) (hkq : S.2.1 q = 8) (hm : m ∈ S.1) (hkm : S.2.1 m = 9) (hnk : S.2.2.1 q 0 ≠ S.2.2.1 q 1) (hg1 : yAg S M d u1) (hM : 9 ∉ M ∧ 51 ∉ M ∧ zNoR M ∧ zNoK M) (hg2 : yAg S M' u1 u2) (hM' : 8 ∉ M' ∧ 51 ∉ M' ∧ zNoD M' ∧ zNoK M') (himg : u1.1 q 4 = d.1 q 4) (h0 : u2.1 m 0 = u1.1 m 0)
    (hD : zTm S d u1 (S.2.2.1 (S.2.2.1 q 0) 0) (fun i => d.2.2.2.1 (S.2.2.1 (S.2.2.1 (S.2.2.1 q 0) 0) i))) (hF : zTr S u2 m (fun s => u1.2.2.2.1 (S.2.2.1 m s))) : yR3 S u2 q m := by
  obtain ⟨⟨t0, k0⟩, t1, k1⟩ := yT2 hSh hq hkq
  refine h.up hSh hq hkq hm hkm hnk hg1 hM hg2 hM' himg (fun i hi k _ => congrFun (hD.2 _ t1 k1 (yT2ne hSh hq hkq hnk) i hi) k) ?_
  rw [h0]
  exact (h.now hSh hm hkm hg1 hM).cg (fun i hi k _ => congrFun (hD.1 i hi) k) (fun s a b k _ => congrFun (hF s a b) k)
/-- an image -/
theorem yR3.image (h : yR3 S d q m) (hSh : ySh S) (hq : q ∈ S.1) (hkq : S.2.1 q = 8) (hm : m ∈ S.1) (hkm : S.2.1 m = 9) (hnk : S.2.2.1 q 0 ≠ S.2.2.1 q 1) (hg1 : yAg S M d u1) (hM : 9 ∉ M ∧ 51 ∉ M ∧ zNoR M ∧ zNoK M) (hg2 : yAg S M' u1 u2) (hM' : zNoD M' ∧ zNoR M') (tk : zTk S d u1 (S.2.2.1 (S.2.2.1 q 1) 0) (S.2.2.1 (S.2.2.1 q 0) 0)) (h0 : u2.1 m 0 = u1.1 m 0) (hk0 : u2.2.2.2.1 (S.2.2.1 m 21) 0 = u1.1 m 0)
    (hF : ∀ s, 4 ≤ s → s ≤ 10 → ∀ j : Nat, j < 2400 → u2.2.2.2.1 (S.2.2.1 m (s + 18)) j = zNr s (u1.2.2.2.1 (S.2.2.1 m s) j)) : yR3 S u2 q m := by
  obtain ⟨⟨t0, k0⟩, t1, k1⟩ := yT2 hSh hq hkq
  have hn := h.now hSh hm hkm hg1 hM
  have f : ∀ t, S.2.1 t = 6 → t ∈ S.1 → ∀ i, i < 6 → u2.2.2.2.1 (S.2.2.1 t i) = u1.2.2.2.1 (S.2.2.1 t i) := fun t a b i hi => (hg2 _ (by rw [yk6 hSh b a hi]; exact hM'.1.c hi)).2.2.2.1
  refine ⟨?_, fun _ => ?_⟩
  · rw [h0]
    exact hn.cg (fun i hi k _ => congrFun ((f _ k0 t0 i hi).trans (tk.2 _ t0 k0 (fun e => yT2ne hSh hq hkq hnk e.symm) i hi)) k) (fun s a b k _ => congrFun (hg2 _ (by rw [zk9 hSh hm hkm a b]; exact hM'.2.c a b)).2.2.2.1 k)
  · rw [hk0]
    exact hn.nar (fun i hi k hk => (congrFun (f _ k1 t1 i hi) k).trans (tk.1 i hi k (by omega))) (fun s a b k hk => hF s a b k hk)
/-- back -/
theorem yR3.back (h : yR3 S d q m) (hPo : yPo S d) (hSh : ySh S) (hq : q ∈ S.1) (hkq : S.2.1 q = 8) (hm : m ∈ S.1) (hkm : S.2.1 m = 9) (hnk : S.2.2.1 q 0 ≠ S.2.2.1 q 1) (hi0 : d.1 q 4 = d.1 m 20) (hg1 : yAg S M d u1) (hM : 9 ∉ M ∧ 51 ∉ M ∧ zNoR M ∧ zNoK M) (hg2 : yAg S M' u1 u2) (hM' : 8 ∉ M' ∧ 51 ∉ M' ∧ zNoD M' ∧ zNoK M') (himg : u1.1 q 4 = d.1 q 4)
    (x1 : (d.1 q 4 = 0 ∧ zRk S d u1) ∨ (¬ d.1 q 4 = 0 ∧ zTk S d u1 (S.2.2.1 (S.2.2.1 q 0) 0) (S.2.2.1 (S.2.2.1 q 1) 0)))
    (x2 : ((u1.1 m 20 = 0 ∧ u2.1 m 0 = u1.1 m 0) ∧ zTr S u2 m (fun s => u1.2.2.2.1 (S.2.2.1 m s))) ∨ ((¬ u1.1 m 20 = 0 ∧ u2.1 m 0 = u1.2.2.2.1 (S.2.2.1 m 21) 0) ∧ ∀ s, 4 ≤ s → s ≤ 10 → ∀ j : Nat, j < 2400 → u2.2.2.2.1 (S.2.2.1 m s) j = zNr s (u1.2.2.2.1 (S.2.2.1 m (s + 18)) j))) : yR3 S u2 q m := by
  obtain ⟨⟨t0, k0⟩, t1, k1⟩ := yT2 hSh hq hkq
  have em : u1.1 m = d.1 m := (hg1 m (by rw [hkm]; exact hM.1)).1
  have k21 := (ySh.f9_21 hSh m hm hkm).2
  have d21 : u1.2.2.2.1 (S.2.2.1 m 21) = d.2.2.2.1 (S.2.2.1 m 21) := (hg1 _ (by rw [k21]; exact hM.2.1)).2.2.2.1
  rcases x1 with ⟨i, rk⟩ | ⟨i, tk⟩
  · rcases x2 with ⟨⟨-, g0⟩, tr⟩ | ⟨⟨j, -⟩, -⟩
    · refine h.up hSh hq hkq hm hkm hnk hg1 hM hg2 hM' himg (fun i hi k _ => congrFun (rk _ t1 k1 i hi) k) ?_
      rw [g0]
      exact (h.now hSh hm hkm hg1 hM).cg (fun i hi k _ => congrFun (rk _ t0 k0 i hi) k) (fun s a b k _ => congrFun (tr s a b) k)
    · exact absurd (by rw [em, ← hi0]; exact i) j
  · rcases x2 with ⟨⟨j, -⟩, -⟩ | ⟨⟨-, g0⟩, rw_⟩
    · exact absurd (by rw [hi0, ← em]; exact j) i
    · have hb := (hPo.b hq hkq (k := 4) rfl).resolve_left i
      refine h.up hSh hq hkq hm hkm hnk hg1 hM hg2 hM' himg (fun i hi k _ => congrFun (tk.2 _ t1 k1 (yT2ne hSh hq hkq hnk) i hi) k) ?_
      rw [g0, d21]
      exact (h.2 hb).nar (fun i hi k hk => tk.1 i hi k (by omega)) (fun s a b k hk => (rw_ s a b k hk).trans (by
        rw [(hg1 _ (by rw [yk18 hSh hm hkm a b]; exact hM.2.2.2.c a b)).2.2.2.1]; rfl))
theorem yR3.ini (h : zIni S d) (hSh : ySh S) (hq : q ∈ S.1) (hkq : S.2.1 q = 8) (hm : m ∈ S.1) (hkm : S.2.1 m = 9) : yR3 S d q m := by
  obtain ⟨⟨t0, k0⟩, t1, k1⟩ := yT2 hSh hq hkq
  have hi : d.1 q 4 = 0 := h.i0 hq (by decide)
  refine ⟨?_, fun e => absurd (hi.symm.trans e) (by decide +kernel)⟩
  rw [h.i0 hm (j := 0) (by decide), show (0 : Int32).toInt.toNat = 0 by decide +kernel]
  exact fun k hk => ⟨fun a => absurd a (by omega), fun _ => h.2.2.2.2.1 _ (ySh.f6_0 hSh _ t0 k0).1 (ySh.f6_0 hSh _ t0 k0).2 k (by omega)⟩
/-- cells -/
theorem zCe.mk2 {D F : Nat → Nat → Int32} {k : Nat} {a b x y z w : Int32} (f4 : F 4 k = 2) (d0 : D 0 k = a) (f5 : F 5 k = a) (ha : 0 ≤ a.toInt ∧ a.toInt ≤ 4) (d1 : D 1 k = b) (f6 : F 6 k = b) (hb : 0 ≤ b.toInt ∧ b.toInt ≤ 4) (d2 : D 2 k = x) (f7 : F 7 k = x) (d3 : D 3 k = y) (f8 : F 8 k = y) (d4 : D 4 k = z) (f9 : F 9 k = z) (hz : 0 ≤ z.toInt ∧ z.toInt ≤ 31) (d5 : D 5 k = w) (f10 : F 10 k = w) : zCe D F k :=
  Or.inr (Or.inr ⟨f4, d0.trans f5.symm, by rw [d0]; exact ha, d1.trans f6.symm, by rw [d1]; exact hb, d2.trans f7.symm, d3.trans f8.symm, d4.trans f9.symm, by rw [d4]; exact hz, d5.trans f10.symm⟩)
theorem zCe.n01 {D F : Nat → Nat → Int32} {k : Nat} (h : zCe D F k) (n0 : (F 4 k).toInt ≠ 0) (n1 : (F 4 k).toInt ≠ 1) : F 4 k = 2 ∧ D 0 k = F 5 k ∧ (0 ≤ (D 0 k).toInt ∧ (D 0 k).toInt ≤ 4) ∧ D 1 k = F 6 k ∧ (0 ≤ (D 1 k).toInt ∧ (D 1 k).toInt ≤ 4) ∧ D 2 k = F 7 k ∧ D 3 k = F 8 k ∧ D 4 k = F 9 k ∧ (0 ≤ (D 4 k).toInt ∧ (D 4 k).toInt ≤ 31) ∧ D 5 k = F 10 k := by
  rcases h with ⟨x, -⟩ | ⟨x, -⟩ | x
  · exact absurd (by rw [x]; decide +kernel) n0
  · exact absurd (by rw [x]; decide +kernel) n1
  · exact x
theorem zCe.y {D F D' F' : Nat → Nat → Int32} {k : Nat} {z : Int32} (h : zCe D F k) (n0 : (F 4 k).toInt ≠ 0) (n1 : (F 4 k).toInt ≠ 1) (hz : 0 ≤ z.toInt ∧ z.toInt ≤ 31) (hD : ∀ i, i ≠ 4 → D' i k = D i k) (d4 : D' 4 k = z) (hF : ∀ s, s ≠ 9 → F' s k = F s k) (f9 : F' 9 k = z) : zCe D' F' k := by
  obtain ⟨x, k5, r, k6, s, k7, k8, k9, t, k10⟩ := h.n01 n0 n1
  exact .mk2 ((hF 4 (by decide)).trans x) ((hD 0 (by decide)).trans k5) (hF 5 (by decide)) (by rw [← k5]; exact r) ((hD 1 (by decide)).trans k6) (hF 6 (by decide)) (by rw [← k6]; exact s) ((hD 2 (by decide)).trans k7) (hF 7 (by decide)) ((hD 3 (by decide)).trans k8) (hF 8 (by decide)) d4 f9 hz ((hD 5 (by decide)).trans k10) (hF 10 (by decide))
theorem zCe.a {D F D' F' : Nat → Nat → Int32} {k : Nat} {z : Int32} (h : zCe D F k) (n0 : (F 4 k).toInt ≠ 0) (n1 : (F 4 k).toInt ≠ 1) (hD : ∀ i, i ≠ 5 → D' i k = D i k) (d5 : D' 5 k = z) (hF : ∀ s, s ≠ 10 → F' s k = F s k) (f10 : F' 10 k = z) : zCe D' F' k := by
  obtain ⟨x, k5, r, k6, s, k7, k8, k9, t, k10⟩ := h.n01 n0 n1
  exact .mk2 ((hF 4 (by decide)).trans x) ((hD 0 (by decide)).trans k5) (hF 5 (by decide)) (by rw [← k5]; exact r) ((hD 1 (by decide)).trans k6) (hF 6 (by decide)) (by rw [← k6]; exact s) ((hD 2 (by decide)).trans k7) (hF 7 (by decide)) ((hD 3 (by decide)).trans k8) (hF 8 (by decide)) ((hD 4 (by decide)).trans k9) (hF 9 (by decide)) (by rw [← k9]; exact t) d5 f10
theorem upE {f : Nat → Int32} {k : Nat} {v : Int32} : upd f k v k = v := if_pos rfl
theorem upN {f : Nat → Int32} {k j : Nat} {v : Int32} (h : j ≠ k) : upd f k v j = f j := if_neg h
theorem xpE {c p v : Int32} {f : Nat → Int32} (hr : (0 ≤ c.toInt ∧ c.toInt ≤ 39) ∧ 0 ≤ p.toInt ∧ p.toInt ≤ 59) : xput 2402 f (c * 60 + p) v (60 * c.toInt.toNat + p.toInt.toNat) = v := by
  rw [xpK hr.1.1 hr.1.2 hr.2.1 hr.2.2]; exact upE
theorem xpN {c p v : Int32} {f : Nat → Int32} {k : Nat} (hr : (0 ≤ c.toInt ∧ c.toInt ≤ 39) ∧ 0 ≤ p.toInt ∧ p.toInt ≤ 59) (hk : k ≠ 60 * c.toInt.toNat + p.toInt.toNat) : xput 2402 f (c * 60 + p) v k = f k := by
  rw [xpK hr.1.1 hr.1.2 hr.2.1 hr.2.2]; exact upN hk
theorem zI3.kp (h : zI3 S d) (h1 : ∀ a, S.2.1 a = 4 → u1.1 a 3 = d.1 a 3) (hg2 : yAg S M' u1 u2) (hM : 4 ∉ M') : zI3 S u2 := fun a ha hk => by
  rw [(hg2 a (by rw [hk]; exact hM)).1, h1 a hk]; exact h a ha hk
theorem zI3.take (h : zI3 S d) (hSh : ySh S) {b0 b1 : Nat} (hm0 : b0 ∈ S.1) (hk0 : S.2.1 b0 = 0) (hm1 : b1 ∈ S.1) (hk1 : S.2.1 b1 = 0) (ht : zTake S d u1 b0 b1) (hg2 : yAg S M' u1 u2) (hM : 4 ∉ M') : zI3 S u2 := fun a ha hk => by
  rw [(hg2 a (by rw [hk]; exact hM)).1]
  by_cases e : ∃ p : Int32, 0 ≤ p.toInt ∧ p.toInt ≤ 7 ∧ a = yPA S b0 p
  · obtain ⟨p, a0, a7, e⟩ := e
    have g := yPA_in hSh hm1 hk1 a0 a7
    rw [e, (ht.2.1 p a0 a7).2.1]; exact h _ g.2.1 g.2.2.1
  · rw [(ht.2.2 a hk (fun p x y w => e ⟨p, x, y, w⟩)).1]; exact h a ha hk
theorem zI3.pt (h : zI3 S d) {x : Nat} (h4 : ∀ a, S.2.1 a = 4 → a ≠ x → u1.1 a = d.1 a ∧ u1.2.1 a = d.2.1 a) (hx : 0 ≤ (u1.1 x 3).toInt ∧ (u1.1 x 3).toInt ≤ 39) (hg2 : yAg S M' u1 u2) (hM : 4 ∉ M') : zI3 S u2 := fun a ha hk => by
  rw [(hg2 a (by rw [hk]; exact hM)).1]
  by_cases e : a = x
  · rw [e]; exact hx
  · rw [(h4 a hk e).1]; exact h a ha hk
theorem zI3.ini (h : zIni S d) : zI3 S d := fun a ha hk => by
  rw [h.1 a ha 3, if_neg (by rw [hk]; decide)]; exact ⟨by decide +kernel, by decide +kernel⟩
end YR3
