/-! rows of terms on the reference's side -/
theorem zk9 {S : yS} {m : Nat} (hSh : ySh S) (hm : m ∈ S.1) (hk : S.2.1 m = 9) {s : Nat} (h4 : 4 ≤ s) (h10 : s ≤ 10) : S.2.1 (S.2.2.1 m s) = 30 + s := by
  obtain rfl | rfl | rfl | rfl | rfl | rfl | rfl : s = 4 ∨ s = 5 ∨ s = 6 ∨ s = 7 ∨ s = 8 ∨ s = 9 ∨ s = 10 := by omega
  · exact (ySh.f9_4 hSh m hm hk).2
  · exact (ySh.f9_5 hSh m hm hk).2
  · exact (ySh.f9_6 hSh m hm hk).2
  · exact (ySh.f9_7 hSh m hm hk).2
  · exact (ySh.f9_8 hSh m hm hk).2
  · exact (ySh.f9_9 hSh m hm hk).2
  · exact (ySh.f9_10 hSh m hm hk).2
def zTr (S : yS) (u : yD) (m : Nat) (f : Nat → Nat → Int32) : Prop := ∀ s, 4 ≤ s → s ≤ 10 → u.2.2.2.1 (S.2.2.1 m s) = f s
theorem zTr.rf {S : yS} {d : yD} {m : Nat} : zTr S d m (fun s => d.2.2.2.1 (S.2.2.1 m s)) := fun _ _ _ => rfl
theorem zTr.cg {S : yS} {u : yD} {m : Nat} {f g : Nat → Nat → Int32} (h : zTr S u m f) (e : ∀ s, 4 ≤ s → s ≤ 10 → f s = g s) : zTr S u m g := fun s a b => (h s a b).trans (e s a b)
theorem zTr.put {S : yS} {d1 u : yD} {m j : Nat} {f : Nat → Nat → Int32} {g : Nat → Int32} (h : zTr S d1 m f) (hSh : ySh S) (hm : m ∈ S.1) (hk : S.2.1 m = 9) (h4 : 4 ≤ j) (h10 : j ≤ 10) (e : u = ycs d1 (S.2.2.1 m j) g) : zTr S u m (fun i => if i = j then g else f i) := fun s a b => by
  rw [e]
  show va_up d1.2.2.2.1 (S.2.2.1 m j) g (S.2.2.1 m s) = _
  by_cases q : s = j
  · subst q; rw [va_up_self]; exact (if_pos rfl).symm
  · rw [va_up_ne _ _ (fun w => by
      have x := zk9 hSh hm hk a b
      rw [w, zk9 hSh hm hk h4 h10] at x
      omega), h s a b]
    exact (if_neg q).symm
theorem zTr.ag {S : yS} {d1 u : yD} {m : Nat} {M : List Nat} {f : Nat → Nat → Int32} (h : zTr S d1 m f) (hSh : ySh S) (hm : m ∈ S.1) (hk : S.2.1 m = 9) (hg : yAg S M d1 u) (hM : 34 ∉ M ∧ 35 ∉ M ∧ 36 ∉ M ∧ 37 ∉ M ∧ 38 ∉ M ∧ 39 ∉ M ∧ 40 ∉ M) : zTr S u m f := fun s a b => by
  have q : 30 + s ∉ M := by
    obtain rfl | rfl | rfl | rfl | rfl | rfl | rfl : s = 4 ∨ s = 5 ∨ s = 6 ∨ s = 7 ∨ s = 8 ∨ s = 9 ∨ s = 10 := by omega
    · exact hM.1
    · exact hM.2.1
    · exact hM.2.2.1
    · exact hM.2.2.2.1
    · exact hM.2.2.2.2.1
    · exact hM.2.2.2.2.2.1
    · exact hM.2.2.2.2.2.2
  rw [(hg _ (by rw [zk9 hSh hm hk a b]; exact q)).2.2.2.1]
  exact h s a b
/-- seven writes of a row -/
theorem zRow7 {S : yS} {d e d1 d2 d3 d4 d5 d6 u : yD} {m : Nat} {K k4 k5 k6 k7 k8 k9 k10 : Nat} {v4 v5 v6 v7 v8 v9 v10 : Int32} (h : zTr S e m (fun s => d.2.2.2.1 (S.2.2.1 m s))) (hSh : ySh S) (hm : m ∈ S.1) (hk : S.2.1 m = 9) (q4 : k4 = K) (q5 : k5 = K) (q6 : k6 = K) (q7 : k7 = K) (q8 : k8 = K) (q9 : k9 = K) (q10 : k10 = K) (e4 : d1 = ycs e (S.2.2.1 m 4) (upd (e.2.2.2.1 (S.2.2.1 m 4)) k4 v4)) (e5 : d2 = ycs d1 (S.2.2.1 m 5) (upd (d1.2.2.2.1 (S.2.2.1 m 5)) k5 v5)) (e6 : d3 = ycs d2 (S.2.2.1 m 6) (upd (d2.2.2.2.1 (S.2.2.1 m 6)) k6 v6)) (e7 : d4 = ycs d3 (S.2.2.1 m 7) (upd (d3.2.2.2.1 (S.2.2.1 m 7)) k7 v7)) (e8 : d5 = ycs d4 (S.2.2.1 m 8) (upd (d4.2.2.2.1 (S.2.2.1 m 8)) k8 v8)) (e9 : d6 = ycs d5 (S.2.2.1 m 9) (upd (d5.2.2.2.1 (S.2.2.1 m 9)) k9 v9)) (e10 : u = ycs d6 (S.2.2.1 m 10) (upd (d6.2.2.2.1 (S.2.2.1 m 10)) k10 v10)) : zTr S u m (fun s => upd (d.2.2.2.1 (S.2.2.1 m s)) K (([v4, v5, v6, v7, v8, v9, v10] : List Int32).getD (s - 4) 0)) := by
  subst q4; subst q5; subst q6; subst q7; subst q8; subst q9; subst q10
  have a4 := h.put hSh hm hk (by decide) (by decide) e4
  have a5 := a4.put hSh hm hk (by decide) (by decide) e5
  have a6 := a5.put hSh hm hk (by decide) (by decide) e6
  have a7 := a6.put hSh hm hk (by decide) (by decide) e7
  have a8 := a7.put hSh hm hk (by decide) (by decide) e8
  have a9 := a8.put hSh hm hk (by decide) (by decide) e9
  have a10 := a9.put hSh hm hk (by decide) (by decide) e10
  have c4 := h 4 (by decide) (by decide)
  have c5 := a4 5 (by decide) (by decide)
  have c6 := a5 6 (by decide) (by decide)
  have c7 := a6 7 (by decide) (by decide)
  have c8 := a7 8 (by decide) (by decide)
  have c9 := a8 9 (by decide) (by decide)
  have c10 := a9 10 (by decide) (by decide)
  refine a10.cg (fun s a b => ?_)
  obtain rfl | rfl | rfl | rfl | rfl | rfl | rfl : s = 4 ∨ s = 5 ∨ s = 6 ∨ s = 7 ∨ s = 8 ∨ s = 9 ∨ s = 10 := by omega
  · show upd (e.2.2.2.1 (S.2.2.1 m 4)) _ v4 = _
    rw [c4]; rfl
  · show upd (d1.2.2.2.1 (S.2.2.1 m 5)) _ v5 = _
    rw [c5]; rfl
  · show upd (d2.2.2.2.1 (S.2.2.1 m 6)) _ v6 = _
    rw [c6]; rfl
  · show upd (d3.2.2.2.1 (S.2.2.1 m 7)) _ v7 = _
    rw [c7]; rfl
  · show upd (d4.2.2.2.1 (S.2.2.1 m 8)) _ v8 = _
    rw [c8]; rfl
  · show upd (d5.2.2.2.1 (S.2.2.1 m 9)) _ v9 = _
    rw [c9]; rfl
  · show upd (d6.2.2.2.1 (S.2.2.1 m 10)) _ v10 = _
    rw [c10]; rfl
/-- a cell of a contract's row, by its numbers -/
def yCe (S : yS) (d : yD) (m s : Nat) (c p : Int32) : Int32 := d.2.2.2.1 (S.2.2.1 m s) (60 * c.toInt.toNat + p.toInt.toNat)
theorem yCe_of {S : yS} {d : yD} {m s : Nat} {c p i z : Int32} (hc : 0 ≤ c.toInt) (hp : 0 ≤ p.toInt) (ei : i.toInt = 60 * c.toInt + p.toInt) (ez : z = d.2.2.2.1 (S.2.2.1 m s) i.toNatClampNeg) : z = yCe S d m s c p := by
  rw [ez, show i.toNatClampNeg = 60 * c.toInt.toNat + p.toInt.toNat from (show i.toInt.toNat = _ by omega)]
  rfl
/-- in the midst of a new contract's places cleared -/
def zHz (f0 f : Nat → Int32) (n : Nat) (k : Int32) : Prop := 0 ≤ k.toInt ∧ k.toInt ≤ 60 ∧ (∀ j : Nat, (j : Int) < k.toInt → f (60 * n + j) = 0) ∧ ∀ i : Nat, (i < 60 * n ∨ 60 * n + 60 ≤ i) → f i = f0 i
theorem zHz.ini {f0 : Nat → Int32} {n : Nat} : zHz f0 f0 n 0 := ⟨by decide, by decide, fun j h => absurd h (by rw [show (0 : Int32).toInt = 0 by decide +kernel]; omega), fun _ _ => rfl⟩
theorem zHz.step {f0 f f' : Nat → Int32} {n : Nat} {k i : Int32} (h : zHz f0 f n k) (hc : ¬ 60 ≤ k) (ei : i.toInt = 60 * (n : Int) + k.toInt) (e : f' = upd f i.toNatClampNeg (vp_nar .byte 0)) : zHz f0 f' n (k + 1) := by
  have z60 : (60 : Int32).toInt = 60 := by decide +kernel
  obtain ⟨h0, h12, hA, hB⟩ := h
  have k12 := Int32.lt_iff_toInt_lt.mp (Int32.not_le.mp hc)
  rw [z60] at k12
  have ek : (k + 1).toInt = k.toInt + 1 := tadd rfl rfl (by decide +kernel : (1 : Int32).toInt = 1) (by omega) (by omega)
  have hi : i.toNatClampNeg = 60 * n + k.toInt.toNat := by
    show i.toInt.toNat = _
    omega
  have hu : ∀ j, f' j = if j = 60 * n + k.toInt.toNat then 0 else f j := fun j => by rw [e, hi]; rfl
  refine ⟨by omega, by omega, fun j hj => ?_, fun j hj => ?_⟩
  · rw [hu]
    by_cases q : 60 * n + j = 60 * n + k.toInt.toNat
    · rw [if_pos q]
    · rw [if_neg q]; exact hA j (by omega)
  · rw [hu, if_neg (by omega)]; exact hB j hj
theorem zRowB7 {S : yS} {d d1 d2 d3 d4 d5 d6 u : yD} {m : Nat} {K k4 k5 k6 k7 k8 k9 k10 : Nat} {v4 v5 v6 v7 v8 v9 v10 : Int32} (hSh : ySh S) (hm : m ∈ S.1) (hk : S.2.1 m = 9) (q4 : k4 = K) (q5 : k5 = K) (q6 : k6 = K) (q7 : k7 = K) (q8 : k8 = K) (q9 : k9 = K) (q10 : k10 = K) (e4 : d1 = ycs d (S.2.2.1 m 4) (upd (d.2.2.2.1 (S.2.2.1 m 4)) k4 v4)) (e5 : d2 = ycs d1 (S.2.2.1 m 5) (upd (d1.2.2.2.1 (S.2.2.1 m 5)) k5 v5)) (e6 : d3 = ycs d2 (S.2.2.1 m 6) (upd (d2.2.2.2.1 (S.2.2.1 m 6)) k6 v6)) (e7 : d4 = ycs d3 (S.2.2.1 m 7) (upd (d3.2.2.2.1 (S.2.2.1 m 7)) k7 v7)) (e8 : d5 = ycs d4 (S.2.2.1 m 8) (upd (d4.2.2.2.1 (S.2.2.1 m 8)) k8 v8)) (e9 : d6 = ycs d5 (S.2.2.1 m 9) (upd (d5.2.2.2.1 (S.2.2.1 m 9)) k9 v9)) (e10 : u = ycs d6 (S.2.2.1 m 10) (upd (d6.2.2.2.1 (S.2.2.1 m 10)) k10 v10)) : zTr S u m (fun s => upd (d.2.2.2.1 (S.2.2.1 m s)) K (([v4, v5, v6, v7, v8, v9, v10] : List Int32).getD (s - 4) 0)) := zRow7 (zTr.rf (d := d)) hSh hm hk q4 q5 q6 q7 q8 q9 q10 e4 e5 e6 e7 e8 e9 e10
theorem zk9k {S : yS} {m : Nat} (hSh : ySh S) (hm : m ∈ S.1) (hk : S.2.1 m = 9) {s : Nat} (h4 : 4 ≤ s) (h10 : s ≤ 10) : S.2.1 (S.2.2.1 m (s + 18)) = 48 + s := by
  obtain rfl | rfl | rfl | rfl | rfl | rfl | rfl : s = 4 ∨ s = 5 ∨ s = 6 ∨ s = 7 ∨ s = 8 ∨ s = 9 ∨ s = 10 := by omega
  · exact (ySh.f9_22 hSh m hm hk).2
  · exact (ySh.f9_23 hSh m hm hk).2
  · exact (ySh.f9_24 hSh m hm hk).2
  · exact (ySh.f9_25 hSh m hm hk).2
  · exact (ySh.f9_26 hSh m hm hk).2
  · exact (ySh.f9_27 hSh m hm hk).2
  · exact (ySh.f9_28 hSh m hm hk).2
def zTq (S : yS) (u : yD) (m : Nat) (f : Nat → Nat → Int32) : Prop := ∀ s, 4 ≤ s → s ≤ 10 → u.2.2.2.1 (S.2.2.1 m (s + 18)) = f s
theorem zTq.rf {S : yS} {d : yD} {m : Nat} : zTq S d m (fun s => d.2.2.2.1 (S.2.2.1 m (s + 18))) := fun _ _ _ => rfl
theorem zTq.cg {S : yS} {u : yD} {m : Nat} {f g : Nat → Nat → Int32} (h : zTq S u m f) (e : ∀ s, 4 ≤ s → s ≤ 10 → f s = g s) : zTq S u m g := fun s a b => (h s a b).trans (e s a b)
theorem zTq.put {S : yS} {d1 u : yD} {m j : Nat} {f : Nat → Nat → Int32} {g : Nat → Int32} (h : zTq S d1 m f) (hSh : ySh S) (hm : m ∈ S.1) (hk : S.2.1 m = 9) (h4 : 4 ≤ j) (h10 : j ≤ 10) (e : u = ycs d1 (S.2.2.1 m (j + 18)) g) : zTq S u m (fun i => if i = j then g else f i) := fun s a b => by
  rw [e]
  show va_up d1.2.2.2.1 (S.2.2.1 m (j + 18)) g (S.2.2.1 m (s + 18)) = _
  by_cases q : s = j
  · subst q; rw [va_up_self]; exact (if_pos rfl).symm
  · rw [va_up_ne _ _ (fun w => by
      have x := zk9k hSh hm hk a b
      rw [w, zk9k hSh hm hk h4 h10] at x
      omega), h s a b]
    exact (if_neg q).symm
theorem zTq.ag {S : yS} {d1 u : yD} {m : Nat} {M : List Nat} {f : Nat → Nat → Int32} (h : zTq S d1 m f) (hSh : ySh S) (hm : m ∈ S.1) (hk : S.2.1 m = 9) (hg : yAg S M d1 u) (hM : 52 ∉ M ∧ 53 ∉ M ∧ 54 ∉ M ∧ 55 ∉ M ∧ 56 ∉ M ∧ 57 ∉ M ∧ 58 ∉ M) : zTq S u m f := fun s a b => by
  have q : 48 + s ∉ M := by
    obtain rfl | rfl | rfl | rfl | rfl | rfl | rfl : s = 4 ∨ s = 5 ∨ s = 6 ∨ s = 7 ∨ s = 8 ∨ s = 9 ∨ s = 10 := by omega
    · exact hM.1
    · exact hM.2.1
    · exact hM.2.2.1
    · exact hM.2.2.2.1
    · exact hM.2.2.2.2.1
    · exact hM.2.2.2.2.2.1
    · exact hM.2.2.2.2.2.2
  rw [(hg _ (by rw [zk9k hSh hm hk a b]; exact q)).2.2.2.1]
  exact h s a b
/-- seven writes of a row -/
theorem zRowK7e {S : yS} {d e d1 d2 d3 d4 d5 d6 u : yD} {m : Nat} {K k4 k5 k6 k7 k8 k9 k10 : Nat} {v4 v5 v6 v7 v8 v9 v10 : Int32} (h : zTq S e m (fun s => d.2.2.2.1 (S.2.2.1 m (s + 18)))) (hSh : ySh S) (hm : m ∈ S.1) (hk : S.2.1 m = 9) (q4 : k4 = K) (q5 : k5 = K) (q6 : k6 = K) (q7 : k7 = K) (q8 : k8 = K) (q9 : k9 = K) (q10 : k10 = K) (e4 : d1 = ycs e (S.2.2.1 m 22) (upd (e.2.2.2.1 (S.2.2.1 m 22)) k4 v4)) (e5 : d2 = ycs d1 (S.2.2.1 m 23) (upd (d1.2.2.2.1 (S.2.2.1 m 23)) k5 v5)) (e6 : d3 = ycs d2 (S.2.2.1 m 24) (upd (d2.2.2.2.1 (S.2.2.1 m 24)) k6 v6)) (e7 : d4 = ycs d3 (S.2.2.1 m 25) (upd (d3.2.2.2.1 (S.2.2.1 m 25)) k7 v7)) (e8 : d5 = ycs d4 (S.2.2.1 m 26) (upd (d4.2.2.2.1 (S.2.2.1 m 26)) k8 v8)) (e9 : d6 = ycs d5 (S.2.2.1 m 27) (upd (d5.2.2.2.1 (S.2.2.1 m 27)) k9 v9)) (e10 : u = ycs d6 (S.2.2.1 m 28) (upd (d6.2.2.2.1 (S.2.2.1 m 28)) k10 v10)) : zTq S u m (fun s => upd (d.2.2.2.1 (S.2.2.1 m (s + 18))) K (([v4, v5, v6, v7, v8, v9, v10] : List Int32).getD (s - 4) 0)) := by
  subst q4; subst q5; subst q6; subst q7; subst q8; subst q9; subst q10
  have a4 := h.put hSh hm hk (by decide) (by decide) e4
  have a5 := a4.put hSh hm hk (by decide) (by decide) e5
  have a6 := a5.put hSh hm hk (by decide) (by decide) e6
  have a7 := a6.put hSh hm hk (by decide) (by decide) e7
  have a8 := a7.put hSh hm hk (by decide) (by decide) e8
  have a9 := a8.put hSh hm hk (by decide) (by decide) e9
  have a10 := a9.put hSh hm hk (by decide) (by decide) e10
  have c4 := h 4 (by decide) (by decide)
  have c5 := a4 5 (by decide) (by decide)
  have c6 := a5 6 (by decide) (by decide)
  have c7 := a6 7 (by decide) (by decide)
  have c8 := a7 8 (by decide) (by decide)
  have c9 := a8 9 (by decide) (by decide)
  have c10 := a9 10 (by decide) (by decide)
  refine a10.cg (fun s a b => ?_)
  obtain rfl | rfl | rfl | rfl | rfl | rfl | rfl : s = 4 ∨ s = 5 ∨ s = 6 ∨ s = 7 ∨ s = 8 ∨ s = 9 ∨ s = 10 := by omega
  · show upd (e.2.2.2.1 (S.2.2.1 m 22)) _ v4 = _
    rw [c4]; rfl
  · show upd (d1.2.2.2.1 (S.2.2.1 m 23)) _ v5 = _
    rw [c5]; rfl
  · show upd (d2.2.2.2.1 (S.2.2.1 m 24)) _ v6 = _
    rw [c6]; rfl
  · show upd (d3.2.2.2.1 (S.2.2.1 m 25)) _ v7 = _
    rw [c7]; rfl
  · show upd (d4.2.2.2.1 (S.2.2.1 m 26)) _ v8 = _
    rw [c8]; rfl
  · show upd (d5.2.2.2.1 (S.2.2.1 m 27)) _ v9 = _
    rw [c9]; rfl
  · show upd (d6.2.2.2.1 (S.2.2.1 m 28)) _ v10 = _
    rw [c10]; rfl
theorem zRowK7 {S : yS} {d d1 d2 d3 d4 d5 d6 u : yD} {m : Nat} {K k4 k5 k6 k7 k8 k9 k10 : Nat} {v4 v5 v6 v7 v8 v9 v10 : Int32} (hSh : ySh S) (hm : m ∈ S.1) (hk : S.2.1 m = 9) (q4 : k4 = K) (q5 : k5 = K) (q6 : k6 = K) (q7 : k7 = K) (q8 : k8 = K) (q9 : k9 = K) (q10 : k10 = K) (e4 : d1 = ycs d (S.2.2.1 m 22) (upd (d.2.2.2.1 (S.2.2.1 m 22)) k4 v4)) (e5 : d2 = ycs d1 (S.2.2.1 m 23) (upd (d1.2.2.2.1 (S.2.2.1 m 23)) k5 v5)) (e6 : d3 = ycs d2 (S.2.2.1 m 24) (upd (d2.2.2.2.1 (S.2.2.1 m 24)) k6 v6)) (e7 : d4 = ycs d3 (S.2.2.1 m 25) (upd (d3.2.2.2.1 (S.2.2.1 m 25)) k7 v7)) (e8 : d5 = ycs d4 (S.2.2.1 m 26) (upd (d4.2.2.2.1 (S.2.2.1 m 26)) k8 v8)) (e9 : d6 = ycs d5 (S.2.2.1 m 27) (upd (d5.2.2.2.1 (S.2.2.1 m 27)) k9 v9)) (e10 : u = ycs d6 (S.2.2.1 m 28) (upd (d6.2.2.2.1 (S.2.2.1 m 28)) k10 v10)) : zTq S u m (fun s => upd (d.2.2.2.1 (S.2.2.1 m (s + 18))) K (([v4, v5, v6, v7, v8, v9, v10] : List Int32).getD (s - 4) 0)) := zRowK7e (zTq.rf (d := d)) hSh hm hk q4 q5 q6 q7 q8 q9 q10 e4 e5 e6 e7 e8 e9 e10
/-- a copy of the rows, so far: bytes as bytes -/
def zNr (s : Nat) (x : Int32) : Int32 := if s = 7 ∨ s = 8 ∨ s = 10 then x else vp_nar .byte x
def zCr (f g : Nat → Nat → Int32) (k : Int32) : Prop := ∀ s, 4 ≤ s → s ≤ 10 → ∀ j : Nat, (j : Int) < k.toInt → f s j = zNr s (g s j)
theorem zCr.ini {f g : Nat → Nat → Int32} : zCr f g 0 := fun s _ _ j h => absurd h (by rw [show (0 : Int32).toInt = 0 by decide +kernel]; omega)
theorem zCr.step {f f' g : Nat → Nat → Int32} {k n : Int32} (h : zCr f g k) (h0 : 0 ≤ k.toInt) (hc : ¬ n ≤ k) (e : ∀ s, 4 ≤ s → s ≤ 10 → f' s = upd (f s) k.toNatClampNeg (zNr s (g s k.toNatClampNeg))) : zCr f' g (k + 1) := fun s a b j hj => by
  have bn : n.toInt < 2 ^ 31 := n.toInt_lt
  have c := Int32.lt_iff_toInt_lt.mp (Int32.not_le.mp hc)
  have ek : (k + 1).toInt = k.toInt + 1 := tadd rfl rfl (by decide +kernel : (1 : Int32).toInt = 1) (by omega) (by omega)
  have hk : k.toNatClampNeg = k.toInt.toNat := rfl
  rw [e s a b]
  show (if j = k.toNatClampNeg then zNr s (g s k.toNatClampNeg) else f s j) = _
  by_cases q : j = k.toNatClampNeg
  · rw [if_pos q, q]
  · rw [if_neg q]; exact h s a b j (by omega)
theorem nb_ : ∀ k, k < 128 → vp_nar .byte (nI k).toInt8.toInt32 = nI k ∧ vp_nar .byte (nI k) = nI k := by decide +kernel
theorem nb {x : Int32} (h0 : 0 ≤ x.toInt) (h1 : x.toInt ≤ 127) : vp_nar .byte x.toInt8.toInt32 = x ∧ vp_nar .byte x = x := by
  have e : x = nI x.toInt.toNat := Int32.toInt_inj.mp (by rw [nI_toInt (by omega)]; omega)
  have q := nb_ x.toInt.toNat (by omega)
  rw [← e] at q
  exact q
