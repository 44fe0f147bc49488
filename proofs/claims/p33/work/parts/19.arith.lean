/-! the reference's bounds -/
/-- bounds: of ports, of the image's numbers, of all of an array, of booleans, of the reference's own fields -/
def yBp (f : Nat → Int64) : Prop := ∀ p : Nat, p < 8 → (0 ≤ (f (12 * p + 1)).toInt ∧ (f (12 * p + 1)).toInt ≤ 39) ∧ (0 ≤ (f (12 * p + 2)).toInt ∧ (f (12 * p + 2)).toInt ≤ 90) ∧ (0 ≤ (f (12 * p + 6)).toInt ∧ (f (12 * p + 6)).toInt ≤ 100000)
def yBk (f : Nat → Int32) : Prop := (0 ≤ (f 0).toInt ∧ (f 0).toInt ≤ 40) ∧ (0 ≤ (f 1).toInt ∧ (f 1).toInt ≤ 5000) ∧ (0 ≤ (f 2).toInt ∧ (f 2).toInt ≤ 500) ∧ (-1 ≤ (f 3).toInt ∧ (f 3).toInt ≤ 7)
def yBr (lo hi : Int) (f : Nat → Int32) : Prop := ∀ k : Nat, lo ≤ (f k).toInt ∧ (f k).toInt ≤ hi
def yBz (f : Nat → Int32) : Prop := ∀ k : Nat, f k = 0 ∨ f k = 1
def yBf (f : Nat → Int32) : Prop := (0 ≤ (f 0).toInt ∧ (f 0).toInt ≤ 40) ∧ (0 ≤ (f 1).toInt ∧ (f 1).toInt ≤ 5000) ∧ (0 ≤ (f 2).toInt ∧ (f 2).toInt ≤ 500) ∧ (-1 ≤ (f 3).toInt ∧ (f 3).toInt ≤ 7) ∧ (0 ≤ (f 63).toInt ∧ (f 63).toInt ≤ 500)
/-- the reference's own bounds: what its calls keep -/
def yMI (S : yS) (d : yD) (m : Nat) : Prop := yBf (d.1 m) ∧ yBp (d.2.2.2.2 (S.2.2.1 m 11)) ∧ yBr 0 129599 (d.2.2.2.1 (S.2.2.1 m 16)) ∧ yBk (d.2.2.2.1 (S.2.2.1 m 21)) ∧ yBp (d.2.2.2.2 (S.2.2.1 m 29)) ∧ yBr 0 129599 (d.2.2.2.1 (S.2.2.1 m 34)) ∧ yBr 0 129599 (d.2.2.2.1 (S.2.2.1 m 40)) ∧ yBz (d.2.2.2.1 (S.2.2.1 m 14)) ∧ yBz (d.2.2.2.1 (S.2.2.1 m 32)) ∧ yBr (-1) 229599 (d.2.2.2.1 (S.2.2.1 m 44)) ∧ yBr 0 129600 (d.2.2.2.1 (S.2.2.1 m 45)) ∧ yBr 0 5000 (d.2.2.2.1 (S.2.2.1 m 48))
/-- the reference's int fields outside F stand -/
def yK (F : List Nat) (d u : yD) (m : Nat) : Prop := ∀ k, k ∉ F → u.1 m k = d.1 m k
theorem yK.rf {F : List Nat} {d : yD} {m : Nat} : yK F d d m := fun _ _ => rfl
theorem yK.tr {F F' : List Nat} {d d1 d2 : yD} {m : Nat} (h : yK F d d1 m) (h2 : yK F' d1 d2 m) (hf : ∀ x, x ∈ F' → x ∈ F) : yK F d d2 m := fun k hk => (h2 k (fun q => hk (hf k q))).trans (h k hk)
theorem yK.i {F : List Nat} {d d1 : yD} {m k : Nat} {v : Int32} (h : yK F d d1 m) (hk : k ∈ F) : yK F d (yi d1 m k v) m := fun j hj => (yi_at (fun e => hj (by rw [e]; exact hk))).trans (h j hj)
theorem yK.ag {F : List Nat} {S : yS} {M : List Nat} {d d1 d2 : yD} {m : Nat} (h : yK F d d1 m) (hg : yAg S M d1 d2) (h9 : S.2.1 m ∉ M) : yK F d d2 m := fun j hj => (congrFun (hg m h9).1 j).trans (h j hj)
theorem yMI.ag {S : yS} {d u : yD} {m : Nat} {M F : List Nat} (h : yMI S d m) (hSh : ySh S) (hm : m ∈ S.1) (hk : S.2.1 m = 9) (hg : yAg S M d u) (hf : yK F d u m)
    (hM : 41 ∉ M ∧ 46 ∉ M ∧ 51 ∉ M ∧ 59 ∉ M ∧ 64 ∉ M ∧ 70 ∉ M ∧ 44 ∉ M ∧ 62 ∉ M ∧ 74 ∉ M ∧ 75 ∉ M ∧ 78 ∉ M) (hF : 0 ∉ F ∧ 1 ∉ F ∧ 2 ∉ F ∧ 3 ∉ F ∧ 63 ∉ F) : yMI S u m := by
  obtain ⟨m0, m1, m2, m3, m4, m5, m6, m7, m8, m9, m10⟩ := hM
  obtain ⟨f0, f1, f2, f3, f4⟩ := hF
  have a0 := (hg (S.2.2.1 m 11) (by rw [(ySh.f9_11 hSh m hm hk).2]; exact m0)).2.2.2.2
  have a1 := (hg (S.2.2.1 m 16) (by rw [(ySh.f9_16 hSh m hm hk).2]; exact m1)).2.2.2.1
  have a2 := (hg (S.2.2.1 m 21) (by rw [(ySh.f9_21 hSh m hm hk).2]; exact m2)).2.2.2.1
  have a3 := (hg (S.2.2.1 m 29) (by rw [(ySh.f9_29 hSh m hm hk).2]; exact m3)).2.2.2.2
  have a4 := (hg (S.2.2.1 m 34) (by rw [(ySh.f9_34 hSh m hm hk).2]; exact m4)).2.2.2.1
  have a5 := (hg (S.2.2.1 m 40) (by rw [(ySh.f9_40 hSh m hm hk).2]; exact m5)).2.2.2.1
  have a6 := (hg (S.2.2.1 m 14) (by rw [(ySh.f9_14 hSh m hm hk).2]; exact m6)).2.2.2.1
  have a7 := (hg (S.2.2.1 m 32) (by rw [(ySh.f9_32 hSh m hm hk).2]; exact m7)).2.2.2.1
  have a8 := (hg (S.2.2.1 m 44) (by rw [(ySh.f9_44 hSh m hm hk).2]; exact m8)).2.2.2.1
  have a9 := (hg (S.2.2.1 m 45) (by rw [(ySh.f9_45 hSh m hm hk).2]; exact m9)).2.2.2.1
  have a10 := (hg (S.2.2.1 m 48) (by rw [(ySh.f9_48 hSh m hm hk).2]; exact m10)).2.2.2.1
  unfold yMI yBf at h ⊢
  rw [a0, a1, a2, a3, a4, a5, a6, a7, a8, a9, a10, hf 0 f0, hf 1 f1, hf 2 f2, hf 3 f3, hf 63 f4]
  exact h
theorem yMI.c {S : yS} {d : yD} {m : Nat} (h : yMI S d m) : (0 ≤ (d.1 m 0).toInt ∧ (d.1 m 0).toInt ≤ 40) ∧ (0 ≤ (d.1 m 1).toInt ∧ (d.1 m 1).toInt ≤ 5000) ∧ (0 ≤ (d.1 m 2).toInt ∧ (d.1 m 2).toInt ≤ 500) ∧ (-1 ≤ (d.1 m 3).toInt ∧ (d.1 m 3).toInt ≤ 7) ∧ (0 ≤ (d.1 m 63).toInt ∧ (d.1 m 63).toInt ≤ 500) := h.1
theorem yMI.bp_ {S : yS} {d : yD} {m : Nat} (h : yMI S d m) : yBp (d.2.2.2.2 (S.2.2.1 m 11)) := h.2.1
theorem yMI.em_ {S : yS} {d : yD} {m : Nat} (h : yMI S d m) : yBr 0 129599 (d.2.2.2.1 (S.2.2.1 m 16)) := h.2.2.1
theorem yMI.kp_ {S : yS} {d : yD} {m : Nat} (h : yMI S d m) : yBk (d.2.2.2.1 (S.2.2.1 m 21)) := h.2.2.2.1
theorem yMI.kb_ {S : yS} {d : yD} {m : Nat} (h : yMI S d m) : yBp (d.2.2.2.2 (S.2.2.1 m 29)) := h.2.2.2.2.1
theorem yMI.ke_ {S : yS} {d : yD} {m : Nat} (h : yMI S d m) : yBr 0 129599 (d.2.2.2.1 (S.2.2.1 m 34)) := h.2.2.2.2.2.1
theorem yMI.cm_ {S : yS} {d : yD} {m : Nat} (h : yMI S d m) : yBr 0 129599 (d.2.2.2.1 (S.2.2.1 m 40)) := h.2.2.2.2.2.2.1
theorem yMI.z_ {S : yS} {d : yD} {m : Nat} (h : yMI S d m) : yBz (d.2.2.2.1 (S.2.2.1 m 14)) := h.2.2.2.2.2.2.2.1
theorem yMI.kz_ {S : yS} {d : yD} {m : Nat} (h : yMI S d m) : yBz (d.2.2.2.1 (S.2.2.1 m 32)) := h.2.2.2.2.2.2.2.2.1
theorem yMI.fr_ {S : yS} {d : yD} {m : Nat} (h : yMI S d m) : yBr (-1) 229599 (d.2.2.2.1 (S.2.2.1 m 44)) := h.2.2.2.2.2.2.2.2.2.1
theorem yMI.to_ {S : yS} {d : yD} {m : Nat} (h : yMI S d m) : yBr 0 129600 (d.2.2.2.1 (S.2.2.1 m 45)) := h.2.2.2.2.2.2.2.2.2.2.1
theorem yMI.ne_ {S : yS} {d : yD} {m : Nat} (h : yMI S d m) : yBr 0 5000 (d.2.2.2.1 (S.2.2.1 m 48)) := h.2.2.2.2.2.2.2.2.2.2.2
theorem yMI.p {S : yS} {d : yD} {m : Nat} (h : yMI S d m) : yBp (d.2.2.2.2 (S.2.2.1 m 11)) := h.bp_
theorem yMI.e {S : yS} {d : yD} {m : Nat} (h : yMI S d m) (k : Nat) : 0 ≤ (d.2.2.2.1 (S.2.2.1 m 16) k).toInt ∧ (d.2.2.2.1 (S.2.2.1 m 16) k).toInt < 129600 := ⟨(h.em_ k).1, by have q := (h.em_ k).2; omega⟩
theorem yMI.z {S : yS} {d : yD} {m : Nat} (h : yMI S d m) : ∀ k : Nat, d.2.2.2.1 (S.2.2.1 m 14) k = 0 ∨ d.2.2.2.1 (S.2.2.1 m 14) k = 1 := h.z_
/-- a field is written -/
theorem yMI.fi {S : yS} {d : yD} {m k : Nat} {v : Int32} (h : yMI S d m) (hv : (k = 0 → 0 ≤ v.toInt ∧ v.toInt ≤ 40) ∧ (k = 1 → 0 ≤ v.toInt ∧ v.toInt ≤ 5000) ∧ (k = 2 → 0 ≤ v.toInt ∧ v.toInt ≤ 500) ∧ (k = 3 → -1 ≤ v.toInt ∧ v.toInt ≤ 7) ∧ (k = 63 → 0 ≤ v.toInt ∧ v.toInt ≤ 500)) : yMI S (yi d m k v) m := by
  obtain ⟨h0, h1, h2, h3, h4⟩ := h.1
  obtain ⟨v0, v1, v2, v3, v4⟩ := hv
  have q : ∀ j, (yi d m k v).1 m j = if j = k then v else d.1 m j := fun j => by
    show va_up d.1 m (va_up (d.1 m) k v) m j = _
    rw [va_up_self]; rfl
  refine ⟨⟨?_, ?_, ?_, ?_, ?_⟩, h.2⟩
  · rw [q 0]; by_cases e : 0 = k
    · rw [if_pos e]; exact v0 e.symm
    · rw [if_neg e]; exact h0
  · rw [q 1]; by_cases e : 1 = k
    · rw [if_pos e]; exact v1 e.symm
    · rw [if_neg e]; exact h1
  · rw [q 2]; by_cases e : 2 = k
    · rw [if_pos e]; exact v2 e.symm
    · rw [if_neg e]; exact h2
  · rw [q 3]; by_cases e : 3 = k
    · rw [if_pos e]; exact v3 e.symm
    · rw [if_neg e]; exact h3
  · rw [q 63]; by_cases e : 63 = k
    · rw [if_pos e]; exact v4 e.symm
    · rw [if_neg e]; exact h4
theorem yMI.i0 {S : yS} {d : yD} {m : Nat} {v : Int32} (h : yMI S d m) (hv : 0 ≤ v.toInt ∧ v.toInt ≤ 40) : yMI S (yi d m 0 v) m := h.fi ⟨fun _ => hv, (fun e => absurd e (by decide)), (fun e => absurd e (by decide)), (fun e => absurd e (by decide)), (fun e => absurd e (by decide))⟩
theorem yMI.i1 {S : yS} {d : yD} {m : Nat} {v : Int32} (h : yMI S d m) (hv : 0 ≤ v.toInt ∧ v.toInt ≤ 5000) : yMI S (yi d m 1 v) m := h.fi ⟨(fun e => absurd e (by decide)), fun _ => hv, (fun e => absurd e (by decide)), (fun e => absurd e (by decide)), (fun e => absurd e (by decide))⟩
theorem yMI.i2 {S : yS} {d : yD} {m : Nat} {v : Int32} (h : yMI S d m) (hv : 0 ≤ v.toInt ∧ v.toInt ≤ 500) : yMI S (yi d m 2 v) m := h.fi ⟨(fun e => absurd e (by decide)), (fun e => absurd e (by decide)), fun _ => hv, (fun e => absurd e (by decide)), (fun e => absurd e (by decide))⟩
theorem yMI.i3 {S : yS} {d : yD} {m : Nat} {v : Int32} (h : yMI S d m) (hv : -1 ≤ v.toInt ∧ v.toInt ≤ 7) : yMI S (yi d m 3 v) m := h.fi ⟨(fun e => absurd e (by decide)), (fun e => absurd e (by decide)), (fun e => absurd e (by decide)), fun _ => hv, (fun e => absurd e (by decide))⟩
theorem yMI.i63 {S : yS} {d : yD} {m : Nat} {v : Int32} (h : yMI S d m) (hv : 0 ≤ v.toInt ∧ v.toInt ≤ 500) : yMI S (yi d m 63 v) m := h.fi ⟨(fun e => absurd e (by decide)), (fun e => absurd e (by decide)), (fun e => absurd e (by decide)), (fun e => absurd e (by decide)), fun _ => hv⟩
/-- an array is written -/
theorem yMI.w11 {S : yS} {d : yD} {m : Nat} {f : Nat → Int64} (h : yMI S d m) (hSh : ySh S) (hm : m ∈ S.1) (hk : S.2.1 m = 9) (hv : yBp (f)) : yMI S (d.1, d.2.1, d.2.2.1, d.2.2.2.1, va_up d.2.2.2.2 (S.2.2.1 m 11) f) m := by
  have n29 : S.2.2.1 m 29 ≠ S.2.2.1 m 11 := fun e => by have q1 := (ySh.f9_29 hSh m hm hk).2; have q2 := (ySh.f9_11 hSh m hm hk).2; rw [e, q2] at q1; cases q1
  exact ⟨h.1, (show yBp (va_up d.2.2.2.2 (S.2.2.1 m 11) f (S.2.2.1 m 11)) from by rw [va_up_self]; exact hv), h.em_, h.kp_, (show yBp (va_up d.2.2.2.2 (S.2.2.1 m 11) f (S.2.2.1 m 29)) from by rw [va_up_ne _ _ n29]; exact h.kb_), h.ke_, h.cm_, h.z_, h.kz_, h.fr_, h.to_, h.ne_⟩
theorem yMI.w16 {S : yS} {d : yD} {m : Nat} {f : Nat → Int32} (h : yMI S d m) (hSh : ySh S) (hm : m ∈ S.1) (hk : S.2.1 m = 9) (hv : yBr 0 129599 (f)) : yMI S (ycs d (S.2.2.1 m 16) f) m := by
  have n21 : S.2.2.1 m 21 ≠ S.2.2.1 m 16 := fun e => by have q1 := (ySh.f9_21 hSh m hm hk).2; have q2 := (ySh.f9_16 hSh m hm hk).2; rw [e, q2] at q1; cases q1
  have n34 : S.2.2.1 m 34 ≠ S.2.2.1 m 16 := fun e => by have q1 := (ySh.f9_34 hSh m hm hk).2; have q2 := (ySh.f9_16 hSh m hm hk).2; rw [e, q2] at q1; cases q1
  have n40 : S.2.2.1 m 40 ≠ S.2.2.1 m 16 := fun e => by have q1 := (ySh.f9_40 hSh m hm hk).2; have q2 := (ySh.f9_16 hSh m hm hk).2; rw [e, q2] at q1; cases q1
  have n14 : S.2.2.1 m 14 ≠ S.2.2.1 m 16 := fun e => by have q1 := (ySh.f9_14 hSh m hm hk).2; have q2 := (ySh.f9_16 hSh m hm hk).2; rw [e, q2] at q1; cases q1
  have n32 : S.2.2.1 m 32 ≠ S.2.2.1 m 16 := fun e => by have q1 := (ySh.f9_32 hSh m hm hk).2; have q2 := (ySh.f9_16 hSh m hm hk).2; rw [e, q2] at q1; cases q1
  have n44 : S.2.2.1 m 44 ≠ S.2.2.1 m 16 := fun e => by have q1 := (ySh.f9_44 hSh m hm hk).2; have q2 := (ySh.f9_16 hSh m hm hk).2; rw [e, q2] at q1; cases q1
  have n45 : S.2.2.1 m 45 ≠ S.2.2.1 m 16 := fun e => by have q1 := (ySh.f9_45 hSh m hm hk).2; have q2 := (ySh.f9_16 hSh m hm hk).2; rw [e, q2] at q1; cases q1
  have n48 : S.2.2.1 m 48 ≠ S.2.2.1 m 16 := fun e => by have q1 := (ySh.f9_48 hSh m hm hk).2; have q2 := (ySh.f9_16 hSh m hm hk).2; rw [e, q2] at q1; cases q1
  exact ⟨h.1, h.bp_, (show yBr 0 129599 (va_up d.2.2.2.1 (S.2.2.1 m 16) f (S.2.2.1 m 16)) from by rw [va_up_self]; exact hv), (show yBk (va_up d.2.2.2.1 (S.2.2.1 m 16) f (S.2.2.1 m 21)) from by rw [va_up_ne _ _ n21]; exact h.kp_), h.kb_, (show yBr 0 129599 (va_up d.2.2.2.1 (S.2.2.1 m 16) f (S.2.2.1 m 34)) from by rw [va_up_ne _ _ n34]; exact h.ke_), (show yBr 0 129599 (va_up d.2.2.2.1 (S.2.2.1 m 16) f (S.2.2.1 m 40)) from by rw [va_up_ne _ _ n40]; exact h.cm_), (show yBz (va_up d.2.2.2.1 (S.2.2.1 m 16) f (S.2.2.1 m 14)) from by rw [va_up_ne _ _ n14]; exact h.z_), (show yBz (va_up d.2.2.2.1 (S.2.2.1 m 16) f (S.2.2.1 m 32)) from by rw [va_up_ne _ _ n32]; exact h.kz_), (show yBr (-1) 229599 (va_up d.2.2.2.1 (S.2.2.1 m 16) f (S.2.2.1 m 44)) from by rw [va_up_ne _ _ n44]; exact h.fr_), (show yBr 0 129600 (va_up d.2.2.2.1 (S.2.2.1 m 16) f (S.2.2.1 m 45)) from by rw [va_up_ne _ _ n45]; exact h.to_), (show yBr 0 5000 (va_up d.2.2.2.1 (S.2.2.1 m 16) f (S.2.2.1 m 48)) from by rw [va_up_ne _ _ n48]; exact h.ne_)⟩
theorem yMI.w21 {S : yS} {d : yD} {m : Nat} {f : Nat → Int32} (h : yMI S d m) (hSh : ySh S) (hm : m ∈ S.1) (hk : S.2.1 m = 9) (hv : yBk (f)) : yMI S (ycs d (S.2.2.1 m 21) f) m := by
  have n16 : S.2.2.1 m 16 ≠ S.2.2.1 m 21 := fun e => by have q1 := (ySh.f9_16 hSh m hm hk).2; have q2 := (ySh.f9_21 hSh m hm hk).2; rw [e, q2] at q1; cases q1
  have n34 : S.2.2.1 m 34 ≠ S.2.2.1 m 21 := fun e => by have q1 := (ySh.f9_34 hSh m hm hk).2; have q2 := (ySh.f9_21 hSh m hm hk).2; rw [e, q2] at q1; cases q1
  have n40 : S.2.2.1 m 40 ≠ S.2.2.1 m 21 := fun e => by have q1 := (ySh.f9_40 hSh m hm hk).2; have q2 := (ySh.f9_21 hSh m hm hk).2; rw [e, q2] at q1; cases q1
  have n14 : S.2.2.1 m 14 ≠ S.2.2.1 m 21 := fun e => by have q1 := (ySh.f9_14 hSh m hm hk).2; have q2 := (ySh.f9_21 hSh m hm hk).2; rw [e, q2] at q1; cases q1
  have n32 : S.2.2.1 m 32 ≠ S.2.2.1 m 21 := fun e => by have q1 := (ySh.f9_32 hSh m hm hk).2; have q2 := (ySh.f9_21 hSh m hm hk).2; rw [e, q2] at q1; cases q1
  have n44 : S.2.2.1 m 44 ≠ S.2.2.1 m 21 := fun e => by have q1 := (ySh.f9_44 hSh m hm hk).2; have q2 := (ySh.f9_21 hSh m hm hk).2; rw [e, q2] at q1; cases q1
  have n45 : S.2.2.1 m 45 ≠ S.2.2.1 m 21 := fun e => by have q1 := (ySh.f9_45 hSh m hm hk).2; have q2 := (ySh.f9_21 hSh m hm hk).2; rw [e, q2] at q1; cases q1
  have n48 : S.2.2.1 m 48 ≠ S.2.2.1 m 21 := fun e => by have q1 := (ySh.f9_48 hSh m hm hk).2; have q2 := (ySh.f9_21 hSh m hm hk).2; rw [e, q2] at q1; cases q1
  exact ⟨h.1, h.bp_, (show yBr 0 129599 (va_up d.2.2.2.1 (S.2.2.1 m 21) f (S.2.2.1 m 16)) from by rw [va_up_ne _ _ n16]; exact h.em_), (show yBk (va_up d.2.2.2.1 (S.2.2.1 m 21) f (S.2.2.1 m 21)) from by rw [va_up_self]; exact hv), h.kb_, (show yBr 0 129599 (va_up d.2.2.2.1 (S.2.2.1 m 21) f (S.2.2.1 m 34)) from by rw [va_up_ne _ _ n34]; exact h.ke_), (show yBr 0 129599 (va_up d.2.2.2.1 (S.2.2.1 m 21) f (S.2.2.1 m 40)) from by rw [va_up_ne _ _ n40]; exact h.cm_), (show yBz (va_up d.2.2.2.1 (S.2.2.1 m 21) f (S.2.2.1 m 14)) from by rw [va_up_ne _ _ n14]; exact h.z_), (show yBz (va_up d.2.2.2.1 (S.2.2.1 m 21) f (S.2.2.1 m 32)) from by rw [va_up_ne _ _ n32]; exact h.kz_), (show yBr (-1) 229599 (va_up d.2.2.2.1 (S.2.2.1 m 21) f (S.2.2.1 m 44)) from by rw [va_up_ne _ _ n44]; exact h.fr_), (show yBr 0 129600 (va_up d.2.2.2.1 (S.2.2.1 m 21) f (S.2.2.1 m 45)) from by rw [va_up_ne _ _ n45]; exact h.to_), (show yBr 0 5000 (va_up d.2.2.2.1 (S.2.2.1 m 21) f (S.2.2.1 m 48)) from by rw [va_up_ne _ _ n48]; exact h.ne_)⟩
theorem yMI.w29 {S : yS} {d : yD} {m : Nat} {f : Nat → Int64} (h : yMI S d m) (hSh : ySh S) (hm : m ∈ S.1) (hk : S.2.1 m = 9) (hv : yBp (f)) : yMI S (d.1, d.2.1, d.2.2.1, d.2.2.2.1, va_up d.2.2.2.2 (S.2.2.1 m 29) f) m := by
  have n11 : S.2.2.1 m 11 ≠ S.2.2.1 m 29 := fun e => by have q1 := (ySh.f9_11 hSh m hm hk).2; have q2 := (ySh.f9_29 hSh m hm hk).2; rw [e, q2] at q1; cases q1
  exact ⟨h.1, (show yBp (va_up d.2.2.2.2 (S.2.2.1 m 29) f (S.2.2.1 m 11)) from by rw [va_up_ne _ _ n11]; exact h.bp_), h.em_, h.kp_, (show yBp (va_up d.2.2.2.2 (S.2.2.1 m 29) f (S.2.2.1 m 29)) from by rw [va_up_self]; exact hv), h.ke_, h.cm_, h.z_, h.kz_, h.fr_, h.to_, h.ne_⟩
theorem yMI.w34 {S : yS} {d : yD} {m : Nat} {f : Nat → Int32} (h : yMI S d m) (hSh : ySh S) (hm : m ∈ S.1) (hk : S.2.1 m = 9) (hv : yBr 0 129599 (f)) : yMI S (ycs d (S.2.2.1 m 34) f) m := by
  have n16 : S.2.2.1 m 16 ≠ S.2.2.1 m 34 := fun e => by have q1 := (ySh.f9_16 hSh m hm hk).2; have q2 := (ySh.f9_34 hSh m hm hk).2; rw [e, q2] at q1; cases q1
  have n21 : S.2.2.1 m 21 ≠ S.2.2.1 m 34 := fun e => by have q1 := (ySh.f9_21 hSh m hm hk).2; have q2 := (ySh.f9_34 hSh m hm hk).2; rw [e, q2] at q1; cases q1
  have n40 : S.2.2.1 m 40 ≠ S.2.2.1 m 34 := fun e => by have q1 := (ySh.f9_40 hSh m hm hk).2; have q2 := (ySh.f9_34 hSh m hm hk).2; rw [e, q2] at q1; cases q1
  have n14 : S.2.2.1 m 14 ≠ S.2.2.1 m 34 := fun e => by have q1 := (ySh.f9_14 hSh m hm hk).2; have q2 := (ySh.f9_34 hSh m hm hk).2; rw [e, q2] at q1; cases q1
  have n32 : S.2.2.1 m 32 ≠ S.2.2.1 m 34 := fun e => by have q1 := (ySh.f9_32 hSh m hm hk).2; have q2 := (ySh.f9_34 hSh m hm hk).2; rw [e, q2] at q1; cases q1
  have n44 : S.2.2.1 m 44 ≠ S.2.2.1 m 34 := fun e => by have q1 := (ySh.f9_44 hSh m hm hk).2; have q2 := (ySh.f9_34 hSh m hm hk).2; rw [e, q2] at q1; cases q1
  have n45 : S.2.2.1 m 45 ≠ S.2.2.1 m 34 := fun e => by have q1 := (ySh.f9_45 hSh m hm hk).2; have q2 := (ySh.f9_34 hSh m hm hk).2; rw [e, q2] at q1; cases q1
  have n48 : S.2.2.1 m 48 ≠ S.2.2.1 m 34 := fun e => by have q1 := (ySh.f9_48 hSh m hm hk).2; have q2 := (ySh.f9_34 hSh m hm hk).2; rw [e, q2] at q1; cases q1
  exact ⟨h.1, h.bp_, (show yBr 0 129599 (va_up d.2.2.2.1 (S.2.2.1 m 34) f (S.2.2.1 m 16)) from by rw [va_up_ne _ _ n16]; exact h.em_), (show yBk (va_up d.2.2.2.1 (S.2.2.1 m 34) f (S.2.2.1 m 21)) from by rw [va_up_ne _ _ n21]; exact h.kp_), h.kb_, (show yBr 0 129599 (va_up d.2.2.2.1 (S.2.2.1 m 34) f (S.2.2.1 m 34)) from by rw [va_up_self]; exact hv), (show yBr 0 129599 (va_up d.2.2.2.1 (S.2.2.1 m 34) f (S.2.2.1 m 40)) from by rw [va_up_ne _ _ n40]; exact h.cm_), (show yBz (va_up d.2.2.2.1 (S.2.2.1 m 34) f (S.2.2.1 m 14)) from by rw [va_up_ne _ _ n14]; exact h.z_), (show yBz (va_up d.2.2.2.1 (S.2.2.1 m 34) f (S.2.2.1 m 32)) from by rw [va_up_ne _ _ n32]; exact h.kz_), (show yBr (-1) 229599 (va_up d.2.2.2.1 (S.2.2.1 m 34) f (S.2.2.1 m 44)) from by rw [va_up_ne _ _ n44]; exact h.fr_), (show yBr 0 129600 (va_up d.2.2.2.1 (S.2.2.1 m 34) f (S.2.2.1 m 45)) from by rw [va_up_ne _ _ n45]; exact h.to_), (show yBr 0 5000 (va_up d.2.2.2.1 (S.2.2.1 m 34) f (S.2.2.1 m 48)) from by rw [va_up_ne _ _ n48]; exact h.ne_)⟩
theorem yMI.w40 {S : yS} {d : yD} {m : Nat} {f : Nat → Int32} (h : yMI S d m) (hSh : ySh S) (hm : m ∈ S.1) (hk : S.2.1 m = 9) (hv : yBr 0 129599 (f)) : yMI S (ycs d (S.2.2.1 m 40) f) m := by
  have n16 : S.2.2.1 m 16 ≠ S.2.2.1 m 40 := fun e => by have q1 := (ySh.f9_16 hSh m hm hk).2; have q2 := (ySh.f9_40 hSh m hm hk).2; rw [e, q2] at q1; cases q1
  have n21 : S.2.2.1 m 21 ≠ S.2.2.1 m 40 := fun e => by have q1 := (ySh.f9_21 hSh m hm hk).2; have q2 := (ySh.f9_40 hSh m hm hk).2; rw [e, q2] at q1; cases q1
  have n34 : S.2.2.1 m 34 ≠ S.2.2.1 m 40 := fun e => by have q1 := (ySh.f9_34 hSh m hm hk).2; have q2 := (ySh.f9_40 hSh m hm hk).2; rw [e, q2] at q1; cases q1
  have n14 : S.2.2.1 m 14 ≠ S.2.2.1 m 40 := fun e => by have q1 := (ySh.f9_14 hSh m hm hk).2; have q2 := (ySh.f9_40 hSh m hm hk).2; rw [e, q2] at q1; cases q1
  have n32 : S.2.2.1 m 32 ≠ S.2.2.1 m 40 := fun e => by have q1 := (ySh.f9_32 hSh m hm hk).2; have q2 := (ySh.f9_40 hSh m hm hk).2; rw [e, q2] at q1; cases q1
  have n44 : S.2.2.1 m 44 ≠ S.2.2.1 m 40 := fun e => by have q1 := (ySh.f9_44 hSh m hm hk).2; have q2 := (ySh.f9_40 hSh m hm hk).2; rw [e, q2] at q1; cases q1
  have n45 : S.2.2.1 m 45 ≠ S.2.2.1 m 40 := fun e => by have q1 := (ySh.f9_45 hSh m hm hk).2; have q2 := (ySh.f9_40 hSh m hm hk).2; rw [e, q2] at q1; cases q1
  have n48 : S.2.2.1 m 48 ≠ S.2.2.1 m 40 := fun e => by have q1 := (ySh.f9_48 hSh m hm hk).2; have q2 := (ySh.f9_40 hSh m hm hk).2; rw [e, q2] at q1; cases q1
  exact ⟨h.1, h.bp_, (show yBr 0 129599 (va_up d.2.2.2.1 (S.2.2.1 m 40) f (S.2.2.1 m 16)) from by rw [va_up_ne _ _ n16]; exact h.em_), (show yBk (va_up d.2.2.2.1 (S.2.2.1 m 40) f (S.2.2.1 m 21)) from by rw [va_up_ne _ _ n21]; exact h.kp_), h.kb_, (show yBr 0 129599 (va_up d.2.2.2.1 (S.2.2.1 m 40) f (S.2.2.1 m 34)) from by rw [va_up_ne _ _ n34]; exact h.ke_), (show yBr 0 129599 (va_up d.2.2.2.1 (S.2.2.1 m 40) f (S.2.2.1 m 40)) from by rw [va_up_self]; exact hv), (show yBz (va_up d.2.2.2.1 (S.2.2.1 m 40) f (S.2.2.1 m 14)) from by rw [va_up_ne _ _ n14]; exact h.z_), (show yBz (va_up d.2.2.2.1 (S.2.2.1 m 40) f (S.2.2.1 m 32)) from by rw [va_up_ne _ _ n32]; exact h.kz_), (show yBr (-1) 229599 (va_up d.2.2.2.1 (S.2.2.1 m 40) f (S.2.2.1 m 44)) from by rw [va_up_ne _ _ n44]; exact h.fr_), (show yBr 0 129600 (va_up d.2.2.2.1 (S.2.2.1 m 40) f (S.2.2.1 m 45)) from by rw [va_up_ne _ _ n45]; exact h.to_), (show yBr 0 5000 (va_up d.2.2.2.1 (S.2.2.1 m 40) f (S.2.2.1 m 48)) from by rw [va_up_ne _ _ n48]; exact h.ne_)⟩
theorem yMI.w14 {S : yS} {d : yD} {m : Nat} {f : Nat → Int32} (h : yMI S d m) (hSh : ySh S) (hm : m ∈ S.1) (hk : S.2.1 m = 9) (hv : yBz (f)) : yMI S (ycs d (S.2.2.1 m 14) f) m := by
  have n16 : S.2.2.1 m 16 ≠ S.2.2.1 m 14 := fun e => by have q1 := (ySh.f9_16 hSh m hm hk).2; have q2 := (ySh.f9_14 hSh m hm hk).2; rw [e, q2] at q1; cases q1
  have n21 : S.2.2.1 m 21 ≠ S.2.2.1 m 14 := fun e => by have q1 := (ySh.f9_21 hSh m hm hk).2; have q2 := (ySh.f9_14 hSh m hm hk).2; rw [e, q2] at q1; cases q1
  have n34 : S.2.2.1 m 34 ≠ S.2.2.1 m 14 := fun e => by have q1 := (ySh.f9_34 hSh m hm hk).2; have q2 := (ySh.f9_14 hSh m hm hk).2; rw [e, q2] at q1; cases q1
  have n40 : S.2.2.1 m 40 ≠ S.2.2.1 m 14 := fun e => by have q1 := (ySh.f9_40 hSh m hm hk).2; have q2 := (ySh.f9_14 hSh m hm hk).2; rw [e, q2] at q1; cases q1
  have n32 : S.2.2.1 m 32 ≠ S.2.2.1 m 14 := fun e => by have q1 := (ySh.f9_32 hSh m hm hk).2; have q2 := (ySh.f9_14 hSh m hm hk).2; rw [e, q2] at q1; cases q1
  have n44 : S.2.2.1 m 44 ≠ S.2.2.1 m 14 := fun e => by have q1 := (ySh.f9_44 hSh m hm hk).2; have q2 := (ySh.f9_14 hSh m hm hk).2; rw [e, q2] at q1; cases q1
  have n45 : S.2.2.1 m 45 ≠ S.2.2.1 m 14 := fun e => by have q1 := (ySh.f9_45 hSh m hm hk).2; have q2 := (ySh.f9_14 hSh m hm hk).2; rw [e, q2] at q1; cases q1
  have n48 : S.2.2.1 m 48 ≠ S.2.2.1 m 14 := fun e => by have q1 := (ySh.f9_48 hSh m hm hk).2; have q2 := (ySh.f9_14 hSh m hm hk).2; rw [e, q2] at q1; cases q1
  exact ⟨h.1, h.bp_, (show yBr 0 129599 (va_up d.2.2.2.1 (S.2.2.1 m 14) f (S.2.2.1 m 16)) from by rw [va_up_ne _ _ n16]; exact h.em_), (show yBk (va_up d.2.2.2.1 (S.2.2.1 m 14) f (S.2.2.1 m 21)) from by rw [va_up_ne _ _ n21]; exact h.kp_), h.kb_, (show yBr 0 129599 (va_up d.2.2.2.1 (S.2.2.1 m 14) f (S.2.2.1 m 34)) from by rw [va_up_ne _ _ n34]; exact h.ke_), (show yBr 0 129599 (va_up d.2.2.2.1 (S.2.2.1 m 14) f (S.2.2.1 m 40)) from by rw [va_up_ne _ _ n40]; exact h.cm_), (show yBz (va_up d.2.2.2.1 (S.2.2.1 m 14) f (S.2.2.1 m 14)) from by rw [va_up_self]; exact hv), (show yBz (va_up d.2.2.2.1 (S.2.2.1 m 14) f (S.2.2.1 m 32)) from by rw [va_up_ne _ _ n32]; exact h.kz_), (show yBr (-1) 229599 (va_up d.2.2.2.1 (S.2.2.1 m 14) f (S.2.2.1 m 44)) from by rw [va_up_ne _ _ n44]; exact h.fr_), (show yBr 0 129600 (va_up d.2.2.2.1 (S.2.2.1 m 14) f (S.2.2.1 m 45)) from by rw [va_up_ne _ _ n45]; exact h.to_), (show yBr 0 5000 (va_up d.2.2.2.1 (S.2.2.1 m 14) f (S.2.2.1 m 48)) from by rw [va_up_ne _ _ n48]; exact h.ne_)⟩
theorem yMI.w32 {S : yS} {d : yD} {m : Nat} {f : Nat → Int32} (h : yMI S d m) (hSh : ySh S) (hm : m ∈ S.1) (hk : S.2.1 m = 9) (hv : yBz (f)) : yMI S (ycs d (S.2.2.1 m 32) f) m := by
  have n16 : S.2.2.1 m 16 ≠ S.2.2.1 m 32 := fun e => by have q1 := (ySh.f9_16 hSh m hm hk).2; have q2 := (ySh.f9_32 hSh m hm hk).2; rw [e, q2] at q1; cases q1
  have n21 : S.2.2.1 m 21 ≠ S.2.2.1 m 32 := fun e => by have q1 := (ySh.f9_21 hSh m hm hk).2; have q2 := (ySh.f9_32 hSh m hm hk).2; rw [e, q2] at q1; cases q1
  have n34 : S.2.2.1 m 34 ≠ S.2.2.1 m 32 := fun e => by have q1 := (ySh.f9_34 hSh m hm hk).2; have q2 := (ySh.f9_32 hSh m hm hk).2; rw [e, q2] at q1; cases q1
  have n40 : S.2.2.1 m 40 ≠ S.2.2.1 m 32 := fun e => by have q1 := (ySh.f9_40 hSh m hm hk).2; have q2 := (ySh.f9_32 hSh m hm hk).2; rw [e, q2] at q1; cases q1
  have n14 : S.2.2.1 m 14 ≠ S.2.2.1 m 32 := fun e => by have q1 := (ySh.f9_14 hSh m hm hk).2; have q2 := (ySh.f9_32 hSh m hm hk).2; rw [e, q2] at q1; cases q1
  have n44 : S.2.2.1 m 44 ≠ S.2.2.1 m 32 := fun e => by have q1 := (ySh.f9_44 hSh m hm hk).2; have q2 := (ySh.f9_32 hSh m hm hk).2; rw [e, q2] at q1; cases q1
  have n45 : S.2.2.1 m 45 ≠ S.2.2.1 m 32 := fun e => by have q1 := (ySh.f9_45 hSh m hm hk).2; have q2 := (ySh.f9_32 hSh m hm hk).2; rw [e, q2] at q1; cases q1
  have n48 : S.2.2.1 m 48 ≠ S.2.2.1 m 32 := fun e => by have q1 := (ySh.f9_48 hSh m hm hk).2; have q2 := (ySh.f9_32 hSh m hm hk).2; rw [e, q2] at q1; cases q1
  exact ⟨h.1, h.bp_, (show yBr 0 129599 (va_up d.2.2.2.1 (S.2.2.1 m 32) f (S.2.2.1 m 16)) from by rw [va_up_ne _ _ n16]; exact h.em_), (show yBk (va_up d.2.2.2.1 (S.2.2.1 m 32) f (S.2.2.1 m 21)) from by rw [va_up_ne _ _ n21]; exact h.kp_), h.kb_, (show yBr 0 129599 (va_up d.2.2.2.1 (S.2.2.1 m 32) f (S.2.2.1 m 34)) from by rw [va_up_ne _ _ n34]; exact h.ke_), (show yBr 0 129599 (va_up d.2.2.2.1 (S.2.2.1 m 32) f (S.2.2.1 m 40)) from by rw [va_up_ne _ _ n40]; exact h.cm_), (show yBz (va_up d.2.2.2.1 (S.2.2.1 m 32) f (S.2.2.1 m 14)) from by rw [va_up_ne _ _ n14]; exact h.z_), (show yBz (va_up d.2.2.2.1 (S.2.2.1 m 32) f (S.2.2.1 m 32)) from by rw [va_up_self]; exact hv), (show yBr (-1) 229599 (va_up d.2.2.2.1 (S.2.2.1 m 32) f (S.2.2.1 m 44)) from by rw [va_up_ne _ _ n44]; exact h.fr_), (show yBr 0 129600 (va_up d.2.2.2.1 (S.2.2.1 m 32) f (S.2.2.1 m 45)) from by rw [va_up_ne _ _ n45]; exact h.to_), (show yBr 0 5000 (va_up d.2.2.2.1 (S.2.2.1 m 32) f (S.2.2.1 m 48)) from by rw [va_up_ne _ _ n48]; exact h.ne_)⟩
theorem yMI.w44 {S : yS} {d : yD} {m : Nat} {f : Nat → Int32} (h : yMI S d m) (hSh : ySh S) (hm : m ∈ S.1) (hk : S.2.1 m = 9) (hv : yBr (-1) 229599 (f)) : yMI S (ycs d (S.2.2.1 m 44) f) m := by
  have n16 : S.2.2.1 m 16 ≠ S.2.2.1 m 44 := fun e => by have q1 := (ySh.f9_16 hSh m hm hk).2; have q2 := (ySh.f9_44 hSh m hm hk).2; rw [e, q2] at q1; cases q1
  have n21 : S.2.2.1 m 21 ≠ S.2.2.1 m 44 := fun e => by have q1 := (ySh.f9_21 hSh m hm hk).2; have q2 := (ySh.f9_44 hSh m hm hk).2; rw [e, q2] at q1; cases q1
  have n34 : S.2.2.1 m 34 ≠ S.2.2.1 m 44 := fun e => by have q1 := (ySh.f9_34 hSh m hm hk).2; have q2 := (ySh.f9_44 hSh m hm hk).2; rw [e, q2] at q1; cases q1
  have n40 : S.2.2.1 m 40 ≠ S.2.2.1 m 44 := fun e => by have q1 := (ySh.f9_40 hSh m hm hk).2; have q2 := (ySh.f9_44 hSh m hm hk).2; rw [e, q2] at q1; cases q1
  have n14 : S.2.2.1 m 14 ≠ S.2.2.1 m 44 := fun e => by have q1 := (ySh.f9_14 hSh m hm hk).2; have q2 := (ySh.f9_44 hSh m hm hk).2; rw [e, q2] at q1; cases q1
  have n32 : S.2.2.1 m 32 ≠ S.2.2.1 m 44 := fun e => by have q1 := (ySh.f9_32 hSh m hm hk).2; have q2 := (ySh.f9_44 hSh m hm hk).2; rw [e, q2] at q1; cases q1
  have n45 : S.2.2.1 m 45 ≠ S.2.2.1 m 44 := fun e => by have q1 := (ySh.f9_45 hSh m hm hk).2; have q2 := (ySh.f9_44 hSh m hm hk).2; rw [e, q2] at q1; cases q1
  have n48 : S.2.2.1 m 48 ≠ S.2.2.1 m 44 := fun e => by have q1 := (ySh.f9_48 hSh m hm hk).2; have q2 := (ySh.f9_44 hSh m hm hk).2; rw [e, q2] at q1; cases q1
  exact ⟨h.1, h.bp_, (show yBr 0 129599 (va_up d.2.2.2.1 (S.2.2.1 m 44) f (S.2.2.1 m 16)) from by rw [va_up_ne _ _ n16]; exact h.em_), (show yBk (va_up d.2.2.2.1 (S.2.2.1 m 44) f (S.2.2.1 m 21)) from by rw [va_up_ne _ _ n21]; exact h.kp_), h.kb_, (show yBr 0 129599 (va_up d.2.2.2.1 (S.2.2.1 m 44) f (S.2.2.1 m 34)) from by rw [va_up_ne _ _ n34]; exact h.ke_), (show yBr 0 129599 (va_up d.2.2.2.1 (S.2.2.1 m 44) f (S.2.2.1 m 40)) from by rw [va_up_ne _ _ n40]; exact h.cm_), (show yBz (va_up d.2.2.2.1 (S.2.2.1 m 44) f (S.2.2.1 m 14)) from by rw [va_up_ne _ _ n14]; exact h.z_), (show yBz (va_up d.2.2.2.1 (S.2.2.1 m 44) f (S.2.2.1 m 32)) from by rw [va_up_ne _ _ n32]; exact h.kz_), (show yBr (-1) 229599 (va_up d.2.2.2.1 (S.2.2.1 m 44) f (S.2.2.1 m 44)) from by rw [va_up_self]; exact hv), (show yBr 0 129600 (va_up d.2.2.2.1 (S.2.2.1 m 44) f (S.2.2.1 m 45)) from by rw [va_up_ne _ _ n45]; exact h.to_), (show yBr 0 5000 (va_up d.2.2.2.1 (S.2.2.1 m 44) f (S.2.2.1 m 48)) from by rw [va_up_ne _ _ n48]; exact h.ne_)⟩
theorem yMI.w45 {S : yS} {d : yD} {m : Nat} {f : Nat → Int32} (h : yMI S d m) (hSh : ySh S) (hm : m ∈ S.1) (hk : S.2.1 m = 9) (hv : yBr 0 129600 (f)) : yMI S (ycs d (S.2.2.1 m 45) f) m := by
  have n16 : S.2.2.1 m 16 ≠ S.2.2.1 m 45 := fun e => by have q1 := (ySh.f9_16 hSh m hm hk).2; have q2 := (ySh.f9_45 hSh m hm hk).2; rw [e, q2] at q1; cases q1
  have n21 : S.2.2.1 m 21 ≠ S.2.2.1 m 45 := fun e => by have q1 := (ySh.f9_21 hSh m hm hk).2; have q2 := (ySh.f9_45 hSh m hm hk).2; rw [e, q2] at q1; cases q1
  have n34 : S.2.2.1 m 34 ≠ S.2.2.1 m 45 := fun e => by have q1 := (ySh.f9_34 hSh m hm hk).2; have q2 := (ySh.f9_45 hSh m hm hk).2; rw [e, q2] at q1; cases q1
  have n40 : S.2.2.1 m 40 ≠ S.2.2.1 m 45 := fun e => by have q1 := (ySh.f9_40 hSh m hm hk).2; have q2 := (ySh.f9_45 hSh m hm hk).2; rw [e, q2] at q1; cases q1
  have n14 : S.2.2.1 m 14 ≠ S.2.2.1 m 45 := fun e => by have q1 := (ySh.f9_14 hSh m hm hk).2; have q2 := (ySh.f9_45 hSh m hm hk).2; rw [e, q2] at q1; cases q1
  have n32 : S.2.2.1 m 32 ≠ S.2.2.1 m 45 := fun e => by have q1 := (ySh.f9_32 hSh m hm hk).2; have q2 := (ySh.f9_45 hSh m hm hk).2; rw [e, q2] at q1; cases q1
  have n44 : S.2.2.1 m 44 ≠ S.2.2.1 m 45 := fun e => by have q1 := (ySh.f9_44 hSh m hm hk).2; have q2 := (ySh.f9_45 hSh m hm hk).2; rw [e, q2] at q1; cases q1
  have n48 : S.2.2.1 m 48 ≠ S.2.2.1 m 45 := fun e => by have q1 := (ySh.f9_48 hSh m hm hk).2; have q2 := (ySh.f9_45 hSh m hm hk).2; rw [e, q2] at q1; cases q1
  exact ⟨h.1, h.bp_, (show yBr 0 129599 (va_up d.2.2.2.1 (S.2.2.1 m 45) f (S.2.2.1 m 16)) from by rw [va_up_ne _ _ n16]; exact h.em_), (show yBk (va_up d.2.2.2.1 (S.2.2.1 m 45) f (S.2.2.1 m 21)) from by rw [va_up_ne _ _ n21]; exact h.kp_), h.kb_, (show yBr 0 129599 (va_up d.2.2.2.1 (S.2.2.1 m 45) f (S.2.2.1 m 34)) from by rw [va_up_ne _ _ n34]; exact h.ke_), (show yBr 0 129599 (va_up d.2.2.2.1 (S.2.2.1 m 45) f (S.2.2.1 m 40)) from by rw [va_up_ne _ _ n40]; exact h.cm_), (show yBz (va_up d.2.2.2.1 (S.2.2.1 m 45) f (S.2.2.1 m 14)) from by rw [va_up_ne _ _ n14]; exact h.z_), (show yBz (va_up d.2.2.2.1 (S.2.2.1 m 45) f (S.2.2.1 m 32)) from by rw [va_up_ne _ _ n32]; exact h.kz_), (show yBr (-1) 229599 (va_up d.2.2.2.1 (S.2.2.1 m 45) f (S.2.2.1 m 44)) from by rw [va_up_ne _ _ n44]; exact h.fr_), (show yBr 0 129600 (va_up d.2.2.2.1 (S.2.2.1 m 45) f (S.2.2.1 m 45)) from by rw [va_up_self]; exact hv), (show yBr 0 5000 (va_up d.2.2.2.1 (S.2.2.1 m 45) f (S.2.2.1 m 48)) from by rw [va_up_ne _ _ n48]; exact h.ne_)⟩
theorem yMI.w48 {S : yS} {d : yD} {m : Nat} {f : Nat → Int32} (h : yMI S d m) (hSh : ySh S) (hm : m ∈ S.1) (hk : S.2.1 m = 9) (hv : yBr 0 5000 (f)) : yMI S (ycs d (S.2.2.1 m 48) f) m := by
  have n16 : S.2.2.1 m 16 ≠ S.2.2.1 m 48 := fun e => by have q1 := (ySh.f9_16 hSh m hm hk).2; have q2 := (ySh.f9_48 hSh m hm hk).2; rw [e, q2] at q1; cases q1
  have n21 : S.2.2.1 m 21 ≠ S.2.2.1 m 48 := fun e => by have q1 := (ySh.f9_21 hSh m hm hk).2; have q2 := (ySh.f9_48 hSh m hm hk).2; rw [e, q2] at q1; cases q1
  have n34 : S.2.2.1 m 34 ≠ S.2.2.1 m 48 := fun e => by have q1 := (ySh.f9_34 hSh m hm hk).2; have q2 := (ySh.f9_48 hSh m hm hk).2; rw [e, q2] at q1; cases q1
  have n40 : S.2.2.1 m 40 ≠ S.2.2.1 m 48 := fun e => by have q1 := (ySh.f9_40 hSh m hm hk).2; have q2 := (ySh.f9_48 hSh m hm hk).2; rw [e, q2] at q1; cases q1
  have n14 : S.2.2.1 m 14 ≠ S.2.2.1 m 48 := fun e => by have q1 := (ySh.f9_14 hSh m hm hk).2; have q2 := (ySh.f9_48 hSh m hm hk).2; rw [e, q2] at q1; cases q1
  have n32 : S.2.2.1 m 32 ≠ S.2.2.1 m 48 := fun e => by have q1 := (ySh.f9_32 hSh m hm hk).2; have q2 := (ySh.f9_48 hSh m hm hk).2; rw [e, q2] at q1; cases q1
  have n44 : S.2.2.1 m 44 ≠ S.2.2.1 m 48 := fun e => by have q1 := (ySh.f9_44 hSh m hm hk).2; have q2 := (ySh.f9_48 hSh m hm hk).2; rw [e, q2] at q1; cases q1
  have n45 : S.2.2.1 m 45 ≠ S.2.2.1 m 48 := fun e => by have q1 := (ySh.f9_45 hSh m hm hk).2; have q2 := (ySh.f9_48 hSh m hm hk).2; rw [e, q2] at q1; cases q1
  exact ⟨h.1, h.bp_, (show yBr 0 129599 (va_up d.2.2.2.1 (S.2.2.1 m 48) f (S.2.2.1 m 16)) from by rw [va_up_ne _ _ n16]; exact h.em_), (show yBk (va_up d.2.2.2.1 (S.2.2.1 m 48) f (S.2.2.1 m 21)) from by rw [va_up_ne _ _ n21]; exact h.kp_), h.kb_, (show yBr 0 129599 (va_up d.2.2.2.1 (S.2.2.1 m 48) f (S.2.2.1 m 34)) from by rw [va_up_ne _ _ n34]; exact h.ke_), (show yBr 0 129599 (va_up d.2.2.2.1 (S.2.2.1 m 48) f (S.2.2.1 m 40)) from by rw [va_up_ne _ _ n40]; exact h.cm_), (show yBz (va_up d.2.2.2.1 (S.2.2.1 m 48) f (S.2.2.1 m 14)) from by rw [va_up_ne _ _ n14]; exact h.z_), (show yBz (va_up d.2.2.2.1 (S.2.2.1 m 48) f (S.2.2.1 m 32)) from by rw [va_up_ne _ _ n32]; exact h.kz_), (show yBr (-1) 229599 (va_up d.2.2.2.1 (S.2.2.1 m 48) f (S.2.2.1 m 44)) from by rw [va_up_ne _ _ n44]; exact h.fr_), (show yBr 0 129600 (va_up d.2.2.2.1 (S.2.2.1 m 48) f (S.2.2.1 m 45)) from by rw [va_up_ne _ _ n45]; exact h.to_), (show yBr 0 5000 (va_up d.2.2.2.1 (S.2.2.1 m 48) f (S.2.2.1 m 48)) from by rw [va_up_self]; exact hv)⟩
theorem yBr.up {lo hi : Int} {f : Nat → Int32} {k : Nat} {v : Int32} (h : yBr lo hi f) (hv : lo ≤ v.toInt ∧ v.toInt ≤ hi) : yBr lo hi (upd f k v) := fun j => by
  show lo ≤ (if j = k then v else f j).toInt ∧ (if j = k then v else f j).toInt ≤ hi
  by_cases e : j = k
  · rw [if_pos e]; exact hv
  · rw [if_neg e]; exact h j
theorem yBz.up {f : Nat → Int32} {k : Nat} {v : Int32} (h : yBz f) (hv : v = 0 ∨ v = 1) : yBz (upd f k (vp_nar .boolean v)) := fun j => by
  show (if j = k then vp_nar .boolean v else f j) = 0 ∨ (if j = k then vp_nar .boolean v else f j) = 1
  by_cases e : j = k
  · simp only [if_pos e]
    rcases hv with rfl | rfl
    · exact Or.inl rfl
    · exact Or.inr rfl
  · simp only [if_neg e]; exact h j
theorem yBp.up {f : Nat → Int64} {k : Nat} {v : Int64} (h : yBp f) (h1 : ∀ p, p < 8 → k = 12 * p + 1 → 0 ≤ v.toInt ∧ v.toInt ≤ 39) (h2 : ∀ p, p < 8 → k = 12 * p + 2 → 0 ≤ v.toInt ∧ v.toInt ≤ 90) (h6 : ∀ p, p < 8 → k = 12 * p + 6 → 0 ≤ v.toInt ∧ v.toInt ≤ 100000) : yBp (vp_updL f k v) := fun p hp => by
  obtain ⟨a, b, c⟩ := h p hp
  refine ⟨?_, ?_, ?_⟩
  · show 0 ≤ (if 12 * p + 1 = k then v else f (12 * p + 1)).toInt ∧ (if 12 * p + 1 = k then v else f (12 * p + 1)).toInt ≤ 39
    by_cases e : 12 * p + 1 = k
    · simp only [if_pos e]; exact h1 p hp e.symm
    · simp only [if_neg e]; exact a
  · show 0 ≤ (if 12 * p + 2 = k then v else f (12 * p + 2)).toInt ∧ (if 12 * p + 2 = k then v else f (12 * p + 2)).toInt ≤ 90
    by_cases e : 12 * p + 2 = k
    · simp only [if_pos e]; exact h2 p hp e.symm
    · simp only [if_neg e]; exact b
  · show 0 ≤ (if 12 * p + 6 = k then v else f (12 * p + 6)).toInt ∧ (if 12 * p + 6 = k then v else f (12 * p + 6)).toInt ≤ 100000
    by_cases e : 12 * p + 6 = k
    · simp only [if_pos e]; exact h6 p hp e.symm
    · simp only [if_neg e]; exact c
theorem yBk.up {f : Nat → Int32} {k : Nat} {v : Int32} (h : yBk f) (h0 : k = 0 → 0 ≤ v.toInt ∧ v.toInt ≤ 40) (h1 : k = 1 → 0 ≤ v.toInt ∧ v.toInt ≤ 5000) (h2 : k = 2 → 0 ≤ v.toInt ∧ v.toInt ≤ 500) (h3 : k = 3 → -1 ≤ v.toInt ∧ v.toInt ≤ 7) : yBk (upd f k v) := by
  obtain ⟨a, b, c, d⟩ := h
  refine ⟨?_, ?_, ?_, ?_⟩
  · show 0 ≤ (if 0 = k then v else f 0).toInt ∧ (if 0 = k then v else f 0).toInt ≤ 40
    by_cases e : 0 = k
    · rw [if_pos e]; exact h0 e.symm
    · rw [if_neg e]; exact a
  · show 0 ≤ (if 1 = k then v else f 1).toInt ∧ (if 1 = k then v else f 1).toInt ≤ 5000
    by_cases e : 1 = k
    · rw [if_pos e]; exact h1 e.symm
    · rw [if_neg e]; exact b
  · show 0 ≤ (if 2 = k then v else f 2).toInt ∧ (if 2 = k then v else f 2).toInt ≤ 500
    by_cases e : 2 = k
    · rw [if_pos e]; exact h2 e.symm
    · rw [if_neg e]; exact c
  · show -1 ≤ (if 3 = k then v else f 3).toInt ∧ (if 3 = k then v else f 3).toInt ≤ 7
    by_cases e : 3 = k
    · rw [if_pos e]; exact h3 e.symm
    · rw [if_neg e]; exact d
theorem xtrunc {a : Int64} (h0 : -2147483648 ≤ a.toInt) (h1 : a.toInt < 2147483648) : a.toInt32.toInt = a.toInt := by
  rw [Int64.toInt_toInt32]; exact Int.bmod_eq_of_le (by omega) (by omega)
theorem xof1 {S : yS} {d : yD} {m : Nat} (h : yMI S d m) {p : Int32} (hp : 0 ≤ p.toInt ∧ p.toInt ≤ 7) {r : Int32} (e : r = (d.2.2.2.2 (S.2.2.1 m 11) (12 * p.toInt.toNat + (1 : Int32).toInt.toNat)).toInt32) : 0 ≤ r.toInt ∧ r.toInt ≤ 39 := by
  have q := (yMI.p h p.toInt.toNat (by omega)).1
  rw [e, show (1 : Int32).toInt.toNat = 1 by decide +kernel, xtrunc (by omega) (by omega)]; exact q
theorem xof2 {S : yS} {d : yD} {m : Nat} (h : yMI S d m) {p : Int32} (hp : 0 ≤ p.toInt ∧ p.toInt ≤ 7) {r : Int32} (e : r = (d.2.2.2.2 (S.2.2.1 m 11) (12 * p.toInt.toNat + (2 : Int32).toInt.toNat)).toInt32) : 0 ≤ r.toInt ∧ r.toInt ≤ 90 := by
  have q := (yMI.p h p.toInt.toNat (by omega)).2.1
  rw [e, show (2 : Int32).toInt.toNat = 2 by decide +kernel, xtrunc (by omega) (by omega)]; exact q
theorem xof6 {S : yS} {d : yD} {m : Nat} (h : yMI S d m) {p : Int32} (hp : 0 ≤ p.toInt ∧ p.toInt ≤ 7) {r : Int32} (e : r = (d.2.2.2.2 (S.2.2.1 m 11) (12 * p.toInt.toNat + (6 : Int32).toInt.toNat)).toInt32) : 0 ≤ r.toInt ∧ r.toInt ≤ 100000 := by
  have q := (yMI.p h p.toInt.toNat (by omega)).2.2
  rw [e, show (6 : Int32).toInt.toNat = 6 by decide +kernel, xtrunc (by omega) (by omega)]; exact q
/-- a quotient of what is hardly below 0 -/
theorem tdivb {a b z : Int32} {A B : Int} (e : z = a / b) (ha : a.toInt = A) (hb : b.toInt = B) (h0 : -B < A) (h1 : 0 < B) : 0 ≤ z.toInt ∧ (B * z.toInt ≤ A ∨ z.toInt = 0) := by
  by_cases hA : 0 ≤ A
  · have h := tdiv' e ha hb hA h1
    rw [h]
    refine ⟨Int.ediv_nonneg hA (by omega), Or.inl ?_⟩
    rw [Int.mul_comm]; exact Int.ediv_mul_le _ (by omega)
  · have hq : A.tdiv B = 0 := by
      have : A = -(-A) := by omega
      rw [this, Int.neg_tdiv, Int.tdiv_eq_zero_of_lt (by omega) (by omega)]; rfl
    have hz : z.toInt = 0 := by
      rw [e, Int32.toInt_div, ha, hb, hq]; decide
    exact ⟨by omega, Or.inr hz⟩
theorem tdivc {a b z : Int32} {A B : Int} (e : z = a / b) (ha : a.toInt = A) (hb : b.toInt = B) (h0 : -B < A) (h1 : 0 < B) : 0 ≤ z.toInt ∧ ((B * z.toInt ≤ A ∧ A < B * z.toInt + B) ∨ (A < 0 ∧ z.toInt = 0)) := by
  by_cases hA : 0 ≤ A
  · have h := tdiv' e ha hb hA h1
    rw [h]
    have q1 := Int.ediv_mul_le A (show B ≠ 0 by omega)
    have q2 := Int.lt_ediv_add_one_mul_self A h1
    rw [Int.add_mul, Int.one_mul] at q2
    rw [Int.mul_comm B]
    exact ⟨Int.ediv_nonneg hA (by omega), Or.inl ⟨q1, q2⟩⟩
  · have h := tdivb e ha hb h0 h1
    refine ⟨h.1, Or.inr ⟨by omega, ?_⟩⟩
    rcases h.2 with h2 | h2
    · have h3 : 0 ≤ B * z.toInt := Int.mul_nonneg (by omega) h.1
      omega
    · exact h2
theorem tremc {a b z : Int32} {A B : Int} (e : z = a - a / b * b) (ha : a.toInt = A) (hb : b.toInt = B) (h0 : -B < A) (h1 : 0 < B) : (0 ≤ z.toInt ∧ z.toInt < B ∧ 0 ≤ A) ∨ (A < 0 ∧ z.toInt = A) := by
  by_cases hA : 0 ≤ A
  · have h := trem e ha hb hA h1
    rw [h]
    exact Or.inl ⟨Int.emod_nonneg _ (by omega), Int.emod_lt_of_pos _ h1, hA⟩
  · have h := tdivc (z := a / b) rfl ha hb h0 h1
    have hz : (a / b).toInt = 0 := by
      rcases h.2 with h2 | h2
      · have h3 : 0 ≤ B * (a / b).toInt := Int.mul_nonneg (by omega) h.1
        omega
      · exact h2.2
    have hz0 : a / b = 0 := Int32.toInt_inj.mp (by rw [hz]; decide)
    refine Or.inr ⟨by omega, ?_⟩
    rw [e, hz0, Int32.zero_mul, Int32.sub_zero, ha]
theorem xnz3 {x : Int32} {z z2 z3 : Int64} {q : Int32} (ez : z = x.toInt64) (eq : q = lg_cmp z 0) (c : q < 0) (e3 : z3 = -1000 * z) : ¬ z3 = 0 := by
  intro h0
  have hz : z < 0 := by
    refine Classical.byContradiction fun w => ?_
    rw [eq] at c
    unfold lg_cmp at c
    by_cases h : (0 : Int64) < z
    · rw [if_pos h] at c; exact absurd c (by decide +kernel)
    · have e : z = 0 := Int64.le_antisymm (Int64.not_lt.mp h) (Int64.not_lt.mp w)
      rw [if_neg h, if_pos e] at c; exact absurd c (by decide +kernel)
  have h1 : z.toInt = x.toInt := by rw [ez, Int32.toInt_toInt64]
  have a : -2 ^ 31 ≤ x.toInt := x.le_toInt
  have h2 : z.toInt < 0 := by
    have q := Int64.lt_iff_toInt_lt.mp hz
    rw [show (0 : Int64).toInt = 0 by decide +kernel] at q; exact q
  have h4 : z3.toInt = -1000 * z.toInt := by
    rw [e3, Int64.toInt_mul, show (-1000 : Int64).toInt = -1000 by decide +kernel]
    exact Int.bmod_eq_of_le (by omega) (by omega)
  rw [h0, show (0 : Int64).toInt = 0 by decide +kernel] at h4
  omega
theorem xb01 {r : Int32} (h : r.toInt = 0 ∨ r.toInt = 1) : r = 0 ∨ r = 1 := h.elim (fun q => Or.inl (Int32.toInt_inj.mp (q.trans (by decide +kernel)))) (fun q => Or.inr (Int32.toInt_inj.mp (q.trans (by decide +kernel))))
theorem xdnl {i n : Int32} (h : ¬ i ≤ n) : ((i + (-1)).toInt + 2147483648).toNat < (i.toInt + 2147483648).toNat := by
  have h1 : n.toInt < i.toInt := Int32.lt_iff_toInt_lt.mp (Int32.not_le.mp h)
  have b : i.toInt < 2 ^ 31 := i.toInt_lt
  have a : -2 ^ 31 ≤ n.toInt := n.le_toInt
  have h2 : (i + (-1)).toInt = i.toInt - 1 := by
    rw [Int32.toInt_add, show (-1 : Int32).toInt = -1 by decide +kernel]
    exact Int.bmod_eq_of_le (by omega) (by omega)
  omega
/-- a number of a port, as an int, as a whole number -/
def yOf (S : yS) (d : yD) (m p j : Nat) : Int := (d.2.2.2.2 (S.2.2.1 m 11) (12 * p + j)).toInt32.toInt
/-! counts -/
def ycn (P : Nat → Bool) : Nat → Nat
  | 0 => 0
  | n + 1 => ycn P n + (if P n = true then 1 else 0)
theorem ycn_le {P : Nat → Bool} : ∀ n, ycn P n ≤ n
  | 0 => Nat.le_refl 0
  | n + 1 => by
    show ycn P n + _ ≤ n + 1
    have h := ycn_le (P := P) n
    by_cases e : P n = true
    · rw [if_pos e]; omega
    · rw [if_neg e]; omega
theorem ycn_mono {P : Nat → Bool} {a b : Nat} (h : a ≤ b) : ycn P a ≤ ycn P b := by
  induction b with
  | zero => obtain rfl : a = 0 := by omega
            exact Nat.le_refl _
  | succ b ih =>
    by_cases e : a = b + 1
    · rw [e]; exact Nat.le_refl _
    · have q := ih (by omega)
      have : ycn P b ≤ ycn P (b + 1) := Nat.le_add_right _ _
      omega
theorem ycn_congr {P Q : Nat → Bool} {n : Nat} (h : ∀ k, k < n → P k = Q k) : ycn P n = ycn Q n := by
  induction n with
  | zero => rfl
  | succ n ih =>
    show ycn P n + _ = ycn Q n + _
    rw [ih (fun k hk => h k (by omega)), h n (by omega)]
theorem ycnT {P : Nat → Bool} {k z : Int32} (ez : z = k + 1) (h0 : 0 ≤ k.toInt) (h1 : k.toInt < 5000) (hP : P k.toInt.toNat = true) : ycn P z.toInt.toNat = ycn P k.toInt.toNat + 1 := by
  have e : z.toInt = k.toInt + 1 := tadd ez rfl (by decide +kernel : (1 : Int32).toInt = 1) (by omega) (by omega)
  rw [e, show (k.toInt + 1).toNat = k.toInt.toNat + 1 by omega]
  show ycn P _ + (if P _ = true then 1 else 0) = _
  rw [if_pos hP]
theorem ycnF {P : Nat → Bool} {k z : Int32} (ez : z = k + 1) (h0 : 0 ≤ k.toInt) (h1 : k.toInt < 5000) (hP : P k.toInt.toNat = false) : ycn P z.toInt.toNat = ycn P k.toInt.toNat := by
  have e : z.toInt = k.toInt + 1 := tadd ez rfl (by decide +kernel : (1 : Int32).toInt = 1) (by omega) (by omega)
  rw [e, show (k.toInt + 1).toNat = k.toInt.toNat + 1 by omega]
  show ycn P _ + (if P _ = true then 1 else 0) = _
  rw [if_neg (by rw [hP]; decide)]; rfl
/-- events of a port at minutes from f to ahead of t; of its day; minutes of the copy's day -/
def yPc (S : yS) (d : yD) (m : Nat) (p f t : Int32) (k : Nat) : Bool := decide (d.2.2.2.1 (S.2.2.1 m 15) k = p ∧ ¬ d.2.2.2.1 (S.2.2.1 m 16) k < f ∧ d.2.2.2.1 (S.2.2.1 m 16) k < t)
def yPl (S : yS) (d : yD) (m : Nat) (p a : Int32) (k : Nat) : Bool := decide (d.2.2.2.1 (S.2.2.1 m 15) k = p ∧ d.2.2.2.1 (S.2.2.1 m 16) k / 1440 = a)
def yPm (S : yS) (d : yD) (m : Nat) (a : Int32) (k : Nat) : Bool := decide (d.2.2.2.1 (S.2.2.1 m 40) k / 1440 = a)
theorem yPlc {S : yS} {d : yD} {m : Nat} {p a f t : Int32} {k : Nat} (hI : yMI S d m) (ha : 0 ≤ a.toInt ∧ a.toInt ≤ 89) (hf : f = 1440 * a) (ht : t = 1440 * a + 1440) : yPl S d m p a k = yPc S d m p f t k := by
  have c : (1440 : Int32).toInt = 1440 := by decide +kernel
  have f1 : f.toInt = 1440 * a.toInt := tmul hf c rfl (by omega) (by omega)
  have t0 : (1440 * a : Int32).toInt = 1440 * a.toInt := tmul rfl c rfl (by omega) (by omega)
  have t1 : t.toInt = 1440 * a.toInt + 1440 := tadd ht t0 c (by omega) (by omega)
  have b := hI.e k
  have q := tdivc (z := d.2.2.2.1 (S.2.2.1 m 16) k / 1440) rfl rfl c (by omega) (by omega)
  unfold yPl yPc
  apply decide_eq_decide.mpr
  constructor
  · rintro ⟨h1, h2⟩
    have h3 : (d.2.2.2.1 (S.2.2.1 m 16) k / 1440).toInt = a.toInt := by rw [h2]
    refine ⟨h1, ?_, ?_⟩
    · intro h4
      have h5 := Int32.lt_iff_toInt_lt.mp h4
      omega
    · rw [Int32.lt_iff_toInt_lt]; omega
  · rintro ⟨h1, h2, h3⟩
    refine ⟨h1, Int32.toInt_inj.mp ?_⟩
    have h4 := Int32.le_iff_toInt_le.mp (Int32.not_lt.mp h2)
    have h5 := Int32.lt_iff_toInt_lt.mp h3
    omega
/-- in the midst of clear() -/
def yCl (S : yS) (d0 d : yD) (m : Nat) (p f t n k : Int32) : Prop := 0 ≤ n.toInt ∧ n.toInt ≤ k.toInt ∧ k.toInt ≤ (d0.1 m 1).toInt ∧ d.1 m 1 = d0.1 m 1 ∧ (∀ j, k.toInt.toNat ≤ j → d.2.2.2.1 (S.2.2.1 m 15) j = d0.2.2.2.1 (S.2.2.1 m 15) j ∧ d.2.2.2.1 (S.2.2.1 m 16) j = d0.2.2.2.1 (S.2.2.1 m 16) j) ∧ (n.toInt = (ycn (yPc S d0 m p f t) k.toInt.toNat : Int))
theorem yCl.ini {S : yS} {d0 : yD} {m : Nat} {p f t : Int32} (h : yMI S d0 m) : yCl S d0 d0 m p f t 0 0 := by
  have z : (0 : Int32).toInt = 0 := by decide +kernel
  have b := h.c.2.1
  refine ⟨by omega, by omega, by omega, rfl, fun _ _ => ⟨rfl, rfl⟩, ?_⟩
  rw [z]; rfl
theorem yCl.bd {S : yS} {d0 d : yD} {m : Nat} {p f t n k z0 : Int32} (h : yCl S d0 d m p f t n k) (hI : yMI S d m) (e0 : z0 = d.1 m 1) (c0 : ¬ z0 ≤ k) : 0 ≤ k.toInt ∧ k.toInt < (d0.1 m 1).toInt ∧ (d0.1 m 1).toInt ≤ 5000 := by
  obtain ⟨h1, h2, h3, h4, h5, h6⟩ := h
  have b := hI.c.2.1
  rw [h4] at b
  have c := Int32.lt_iff_toInt_lt.mp (Int32.not_le.mp c0)
  rw [e0, h4] at c
  omega
theorem yCl.hit {S : yS} {d0 d : yD} {m : Nat} {p f t n k z0 z1 z2 z3 : Int32} (h : yCl S d0 d m p f t n k) (hI : yMI S d m) (e0 : z0 = d.1 m 1) (c0 : ¬ z0 ≤ k) (e1 : z1 = d.2.2.2.1 (S.2.2.1 m 15) k.toNatClampNeg) (e2 : z2 = d.2.2.2.1 (S.2.2.1 m 16) k.toNatClampNeg) (e3 : z3 = d.2.2.2.1 (S.2.2.1 m 16) k.toNatClampNeg) (c1 : z1 = p) (c2 : ¬ z2 < f) (c3 : ¬ t ≤ z3) : yCl S d0 d m p f t (n + 1) (k + 1) := by
  obtain ⟨b1, b2, b3⟩ := h.bd hI e0 c0
  obtain ⟨h1, h2, h3, h4, h5, h6⟩ := h
  have hn : (n + 1).toInt = n.toInt + 1 := tadd rfl rfl (by decide +kernel : (1 : Int32).toInt = 1) (by omega) (by omega)
  have hk : (k + 1).toInt = k.toInt + 1 := tadd rfl rfl (by decide +kernel : (1 : Int32).toInt = 1) (by omega) (by omega)
  have hP : yPc S d0 m p f t k.toInt.toNat = true := by
    have q := h5 k.toInt.toNat (Nat.le_refl _)
    unfold yPc
    rw [← q.1, ← q.2]
    exact decide_eq_true ⟨e1.symm.trans c1, fun w => c2 (by rw [e2]; exact w), by
      have w := Int32.not_le.mp c3
      rw [e3] at w; exact w⟩
  refine ⟨by omega, by omega, by omega, h4, fun j hj => h5 j (by omega), ?_⟩
  rw [ycnT rfl b1 (by omega) hP]
  omega
theorem yCl.n1 {S : yS} {d0 d : yD} {m : Nat} {p f t n k z1 : Int32} (h : yCl S d0 d m p f t n k) (e1 : z1 = d.2.2.2.1 (S.2.2.1 m 15) k.toNatClampNeg) (c1 : ¬ z1 = p) : yPc S d0 m p f t k.toInt.toNat = false := by
  have q := h.2.2.2.2.1 k.toInt.toNat (Nat.le_refl _)
  unfold yPc
  rw [← q.1]
  exact decide_eq_false (fun w => c1 (e1.trans w.1))
theorem yCl.n2 {S : yS} {d0 d : yD} {m : Nat} {p f t n k z1 : Int32} (h : yCl S d0 d m p f t n k) (e1 : z1 = d.2.2.2.1 (S.2.2.1 m 16) k.toNatClampNeg) (c1 : z1 < f) : yPc S d0 m p f t k.toInt.toNat = false := by
  have q := h.2.2.2.2.1 k.toInt.toNat (Nat.le_refl _)
  unfold yPc
  rw [← q.2]
  exact decide_eq_false (fun w => w.2.1 (by rw [e1] at c1; exact c1))
theorem yCl.n3 {S : yS} {d0 d : yD} {m : Nat} {p f t n k z1 : Int32} (h : yCl S d0 d m p f t n k) (e1 : z1 = d.2.2.2.1 (S.2.2.1 m 16) k.toNatClampNeg) (c1 : t ≤ z1) : yPc S d0 m p f t k.toInt.toNat = false := by
  have q := h.2.2.2.2.1 k.toInt.toNat (Nat.le_refl _)
  unfold yPc
  rw [← q.2]
  exact decide_eq_false (fun w => Int32.not_lt.mpr c1 (by rw [e1]; exact w.2.2))
theorem yCl.miss {S : yS} {d0 d d1 d2 d3 : yD} {m : Nat} {p f t n k z0 i1 i2 i3 v1 v2 v3 : Int32} (h : yCl S d0 d m p f t n k) (hSh : ySh S) (hm : m ∈ S.1) (hk : S.2.1 m = 9) (hI : yMI S d m) (e0 : z0 = d.1 m 1) (c0 : ¬ z0 ≤ k) (hf : yPc S d0 m p f t k.toInt.toNat = false) (hi1 : i1 = k - n) (hi2 : i2 = k - n)
    (e1 : d1 = ycs d (S.2.2.1 m 15) (upd (d.2.2.2.1 (S.2.2.1 m 15)) i1.toNatClampNeg v1)) (e2 : d2 = ycs d1 (S.2.2.1 m 16) (upd (d1.2.2.2.1 (S.2.2.1 m 16)) i2.toNatClampNeg v2)) (e3 : d3 = ycs d2 (S.2.2.1 m 17) (upd (d2.2.2.2.1 (S.2.2.1 m 17)) i3.toNatClampNeg v3)) : yCl S d0 d3 m p f t n (k + 1) := by
  obtain ⟨b1, b2, b3⟩ := h.bd hI e0 c0
  obtain ⟨h1, h2, h3, h4, h5, h6⟩ := h
  have c5 := (ySh.f9_15 hSh m hm hk).2
  have c6 := (ySh.f9_16 hSh m hm hk).2
  have c7 := (ySh.f9_17 hSh m hm hk).2
  have n56 : S.2.2.1 m 15 ≠ S.2.2.1 m 16 := fun e => by rw [e, c6] at c5; cases c5
  have n57 : S.2.2.1 m 15 ≠ S.2.2.1 m 17 := fun e => by rw [e, c7] at c5; cases c5
  have n67 : S.2.2.1 m 16 ≠ S.2.2.1 m 17 := fun e => by rw [e, c7] at c6; cases c6
  have hkk : (k + 1).toInt = k.toInt + 1 := tadd rfl rfl (by decide +kernel : (1 : Int32).toInt = 1) (by omega) (by omega)
  have hd : (k - n).toInt = k.toInt - n.toInt := tsub rfl rfl rfl (by omega) (by omega)
  have a5 : d3.2.2.2.1 (S.2.2.1 m 15) = upd (d.2.2.2.1 (S.2.2.1 m 15)) i1.toNatClampNeg v1 := by
    rw [e3, e2, e1]
    show va_up (va_up (va_up _ _ _) _ _) _ _ _ = _
    rw [va_up_ne _ _ n57, va_up_ne _ _ n56, va_up_self]
  have a6 : d3.2.2.2.1 (S.2.2.1 m 16) = upd (d.2.2.2.1 (S.2.2.1 m 16)) i2.toNatClampNeg v2 := by
    rw [e3, e2, e1]
    show va_up (va_up (va_up _ _ _) _ _) _ _ _ = _
    rw [va_up_ne _ _ n67, va_up_self]
    show upd (va_up _ _ _ _) _ _ = _
    rw [va_up_ne _ _ (Ne.symm n56)]
  have hlt : ∀ j, (k + 1).toInt.toNat ≤ j → j ≠ (k - n).toNatClampNeg := fun j hj e => by
    have q : j = (k - n).toInt.toNat := e
    omega
  refine ⟨by omega, by omega, by omega, ?_, fun j hj => ⟨?_, ?_⟩, ?_⟩
  · rw [e3, e2, e1]; exact h4
  · rw [a5, hi1]
    show (if j = _ then _ else _) = _
    rw [if_neg (hlt j hj)]; exact (h5 j (by omega)).1
  · rw [a6, hi2]
    show (if j = _ then _ else _) = _
    rw [if_neg (hlt j hj)]; exact (h5 j (by omega)).2
  · rw [ycnF rfl b1 (by omega) hf]; exact h6
theorem yCl.end {S : yS} {d0 d : yD} {m : Nat} {p f t n k z0 : Int32} (h : yCl S d0 d m p f t n k) (e0 : z0 = d.1 m 1) (c0 : z0 ≤ k) : n.toInt = (ycn (yPc S d0 m p f t) (d0.1 m 1).toInt.toNat : Int) ∧ 0 ≤ n.toInt ∧ n.toInt ≤ (d0.1 m 1).toInt ∧ d.1 m 1 = d0.1 m 1 := by
  obtain ⟨h1, h2, h3, h4, h5, h6⟩ := h
  have c := Int32.le_iff_toInt_le.mp c0
  rw [e0, h4] at c
  have e : k.toInt = (d0.1 m 1).toInt := by omega
  rw [e] at h6
  exact ⟨h6, h1, by omega, h4⟩
theorem xupj {t M t' : Int64} (et : t' = t + 1) (h : t.toInt < M.toInt) : (M.toInt - t'.toInt).toNat < (M.toInt - t.toInt).toNat := by
  have b : M.toInt < 2 ^ 63 := M.toInt_lt
  have a : -2 ^ 63 ≤ t.toInt := t.le_toInt
  have h2 : t'.toInt = t.toInt + 1 := by
    rw [et, Int64.toInt_add, show (1 : Int64).toInt = 1 by decide +kernel]
    exact Int.bmod_eq_of_le (by omega) (by omega)
  omega
theorem xnext {S : yS} {d dm d' : yD} {m : Nat} {p z z' zf : Int32} (e' : d' = ycs dm (S.2.2.1 m 48) (upd (dm.2.2.2.1 (S.2.2.1 m 48)) p.toNatClampNeg z')) (ez' : z' = z + 1) (ez : z = dm.2.2.2.1 (S.2.2.1 m 48) p.toNatClampNeg) (hm : dm.2.2.2.1 (S.2.2.1 m 48) = d.2.2.2.1 (S.2.2.1 m 48)) (ef : zf = d.2.2.2.1 (S.2.2.1 m 48) p.toNatClampNeg) (hb : 0 ≤ zf.toInt ∧ zf.toInt ≤ 5000) : (5001 - (d'.2.2.2.1 (S.2.2.1 m 48) p.toNatClampNeg).toInt).toNat < (5001 - (d.2.2.2.1 (S.2.2.1 m 48) p.toNatClampNeg).toInt).toNat := by
  have h1 : d'.2.2.2.1 (S.2.2.1 m 48) p.toNatClampNeg = z' := by
    rw [e']
    show va_up dm.2.2.2.1 (S.2.2.1 m 48) (upd (dm.2.2.2.1 (S.2.2.1 m 48)) p.toNatClampNeg z') (S.2.2.1 m 48) p.toNatClampNeg = z'
    rw [va_up_self]
    show (if p.toNatClampNeg = p.toNatClampNeg then z' else _) = z'
    rw [if_pos rfl]
  have h2 : z = zf := by rw [ez, hm, ef]
  have h3 : z'.toInt = zf.toInt + 1 := by
    rw [h2] at ez'
    exact tadd ez' rfl (by decide +kernel : (1 : Int32).toInt = 1) (by omega) (by omega)
  rw [h1, ← ef]
  omega
theorem xkp0 {f : Nat → Int32} {a b c e : Int32} : upd (upd (upd (upd f (0 : Int32).toNatClampNeg a) (1 : Int32).toNatClampNeg b) (2 : Int32).toNatClampNeg c) (3 : Int32).toNatClampNeg e 0 = a := by
  have h0 : (0 : Int32).toNatClampNeg = 0 := by decide +kernel
  have h1 : (1 : Int32).toNatClampNeg = 1 := by decide +kernel
  have h2 : (2 : Int32).toNatClampNeg = 2 := by decide +kernel
  have h3 : (3 : Int32).toNatClampNeg = 3 := by decide +kernel
  rw [h0, h1, h2, h3]
  rfl
theorem xdnl2 {i n z : Int32} (e : z = i + (-1)) (h : ¬ i ≤ n) : (z.toInt + 2147483648).toNat < (i.toInt + 2147483648).toNat := by
  rw [e]; exact xdnl h
theorem xkp2 {f : Nat → Int32} {a b c e : Int32} : upd (upd (upd (upd f (0 : Int32).toNatClampNeg a) (1 : Int32).toNatClampNeg b) (2 : Int32).toNatClampNeg c) (3 : Int32).toNatClampNeg e 2 = c ∧ upd (upd (upd (upd f (0 : Int32).toNatClampNeg a) (1 : Int32).toNatClampNeg b) (2 : Int32).toNatClampNeg c) (3 : Int32).toNatClampNeg e 3 = e := by
  have h0 : (0 : Int32).toNatClampNeg = 0 := by decide +kernel
  have h1 : (1 : Int32).toNatClampNeg = 1 := by decide +kernel
  have h2 : (2 : Int32).toNatClampNeg = 2 := by decide +kernel
  have h3 : (3 : Int32).toNatClampNeg = 3 := by decide +kernel
  rw [h0, h1, h2, h3]
  exact ⟨rfl, rfl⟩
theorem yK.j {F : List Nat} {d d1 : yD} {m a k : Nat} {v : Int64} (h : yK F d d1 m) : yK F d (yj d1 a k v) m := h
theorem yMI.j {S : yS} {d : yD} {m a k : Nat} {v : Int64} (h : yMI S d m) : yMI S (yj d a k v) m := h
