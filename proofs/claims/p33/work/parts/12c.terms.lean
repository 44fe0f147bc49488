/-! rows of terms -/
theorem yln6 {i : Nat} (h : i < 6) : yln (10 + i) = 2402 ∧ ¬ 10 + i < 10 := by
  obtain rfl | rfl | rfl | rfl | rfl | rfl : i = 0 ∨ i = 1 ∨ i = 2 ∨ i = 3 ∨ i = 4 ∨ i = 5 := by omega
  all_goals exact ⟨rfl, by decide⟩
theorem yk6 {S : yS} {t : Nat} (hSh : ySh S) (ht : t ∈ S.1) (hkt : S.2.1 t = 6) {i : Nat} (h : i < 6) : S.2.1 (S.2.2.1 t i) = 10 + i := by
  obtain rfl | rfl | rfl | rfl | rfl | rfl : i = 0 ∨ i = 1 ∨ i = 2 ∨ i = 3 ∨ i = 4 ∨ i = 5 := by omega
  · exact (ySh.f6_0 hSh t ht hkt).2
  · exact (ySh.f6_1 hSh t ht hkt).2
  · exact (ySh.f6_2 hSh t ht hkt).2
  · exact (ySh.f6_3 hSh t ht hkt).2
  · exact (ySh.f6_4 hSh t ht hkt).2
  · exact (ySh.f6_5 hSh t ht hkt).2
theorem yi6 {S : yS} {t t' : Nat} (hSh : ySh S) (ht : t ∈ S.1) (hkt : S.2.1 t = 6) (ht' : t' ∈ S.1) (hkt' : S.2.1 t' = 6) {i j : Nat} (h : i < 6) (hj : j < 6) (e : S.2.2.1 t' i = S.2.2.1 t j) : i = j ∧ t' = t := by
  have a := yk6 hSh ht hkt hj
  have b := yk6 hSh ht' hkt' h
  rw [e, a] at b
  have e2 : i = j := by omega
  subst e2
  refine ⟨rfl, ?_⟩
  obtain rfl | rfl | rfl | rfl | rfl | rfl : i = 0 ∨ i = 1 ∨ i = 2 ∨ i = 3 ∨ i = 4 ∨ i = 5 := by omega
  · exact ySh.j6_0 hSh _ _ ht' ht hkt' hkt e
  · exact ySh.j6_1 hSh _ _ ht' ht hkt' hkt e
  · exact ySh.j6_2 hSh _ _ ht' ht hkt' hkt e
  · exact ySh.j6_3 hSh _ _ ht' ht hkt' hkt e
  · exact ySh.j6_4 hSh _ _ ht' ht hkt' hkt e
  · exact ySh.j6_5 hSh _ _ ht' ht hkt' hkt e
/-- the rows of terms t are these now, those of other terms stand -/
def zTm (S : yS) (d u : yD) (t : Nat) (f : Nat → Nat → Int32) : Prop := (∀ i, i < 6 → u.2.2.2.1 (S.2.2.1 t i) = f i) ∧ ∀ t', t' ∈ S.1 → S.2.1 t' = 6 → t' ≠ t → ∀ i, i < 6 → u.2.2.2.1 (S.2.2.1 t' i) = d.2.2.2.1 (S.2.2.1 t' i)
theorem zTm.rf {S : yS} {d : yD} {t : Nat} : zTm S d d t (fun i => d.2.2.2.1 (S.2.2.1 t i)) := ⟨fun _ _ => rfl, fun _ _ _ _ _ _ => rfl⟩
theorem zTm.put {S : yS} {d d1 u : yD} {t j : Nat} {f : Nat → Nat → Int32} {g : Nat → Int32} (h : zTm S d d1 t f) (hSh : ySh S) (ht : t ∈ S.1) (hkt : S.2.1 t = 6) (hj : j < 6) (e : u = ycs d1 (S.2.2.1 t j) g) : zTm S d u t (fun i => if i = j then g else f i) := by
  refine ⟨fun i hi => ?_, fun t' ht' hkt' hne i hi => ?_⟩
  · rw [e]
    show va_up d1.2.2.2.1 (S.2.2.1 t j) g (S.2.2.1 t i) = _
    by_cases q : i = j
    · subst q; rw [va_up_self]; exact (if_pos rfl).symm
    · rw [va_up_ne _ _ (fun w => q (yi6 hSh ht hkt ht hkt hi hj w).1), h.1 i hi]; exact (if_neg q).symm
  · rw [e]
    show va_up d1.2.2.2.1 (S.2.2.1 t j) g (S.2.2.1 t' i) = _
    rw [va_up_ne _ _ (fun w => hne (yi6 hSh ht hkt ht' hkt' hi hj w).2)]
    exact h.2 t' ht' hkt' hne i hi
theorem zTm.ag {S : yS} {d d1 u : yD} {t : Nat} {M : List Nat} {f : Nat → Nat → Int32} (h : zTm S d d1 t f) (hSh : ySh S) (ht : t ∈ S.1) (hkt : S.2.1 t = 6) (hg : yAg S M d1 u) (hM : 10 ∉ M ∧ 11 ∉ M ∧ 12 ∉ M ∧ 13 ∉ M ∧ 14 ∉ M ∧ 15 ∉ M) : zTm S d u t f := by
  have q : ∀ i, i < 6 → 10 + i ∉ M := fun i hi => by
    obtain rfl | rfl | rfl | rfl | rfl | rfl : i = 0 ∨ i = 1 ∨ i = 2 ∨ i = 3 ∨ i = 4 ∨ i = 5 := by omega
    · exact hM.1
    · exact hM.2.1
    · exact hM.2.2.1
    · exact hM.2.2.2.1
    · exact hM.2.2.2.2.1
    · exact hM.2.2.2.2.2
  refine ⟨fun i hi => ?_, fun t' ht' hkt' hne i hi => ?_⟩
  · rw [(hg _ (by rw [yk6 hSh ht hkt hi]; exact q i hi)).2.2.2.1]; exact h.1 i hi
  · rw [(hg _ (by rw [yk6 hSh ht' hkt' hi]; exact q i hi)).2.2.2.1]; exact h.2 t' ht' hkt' hne i hi
theorem zTm.tr {S : yS} {d d1 u : yD} {t : Nat} {f g : Nat → Nat → Int32} (h : zTm S d d1 t f) (h2 : zTm S d1 u t g) : zTm S d u t g := ⟨h2.1, fun t' a b c i hi => (h2.2 t' a b c i hi).trans (h.2 t' a b c i hi)⟩
theorem zTm.cg {S : yS} {d u : yD} {t : Nat} {f g : Nat → Nat → Int32} (h : zTm S d u t f) (e : ∀ i, i < 6 → f i = g i) : zTm S d u t g := ⟨fun i hi => (h.1 i hi).trans (e i hi), h.2⟩
/-- a row written: six puts -/
theorem zPut6 {S : yS} {d d1 d2 d3 d4 d5 u : yD} {t : Nat} {p : Int32} {v0 v1 v2 v3 v4 v5 : Int32} (hSh : ySh S) (ht : t ∈ S.1) (hkt : S.2.1 t = 6) (e0 : d1 = ycs d (S.2.2.1 t 0) (xput (yln 10) (d.2.2.2.1 (S.2.2.1 t 0)) p v0)) (e1 : d2 = ycs d1 (S.2.2.1 t 1) (xput (yln 11) (d1.2.2.2.1 (S.2.2.1 t 1)) p v1)) (e2 : d3 = ycs d2 (S.2.2.1 t 2) (xput (yln 12) (d2.2.2.2.1 (S.2.2.1 t 2)) p v2)) (e3 : d4 = ycs d3 (S.2.2.1 t 3) (xput (yln 13) (d3.2.2.2.1 (S.2.2.1 t 3)) p v3)) (e4 : d5 = ycs d4 (S.2.2.1 t 4) (xput (yln 14) (d4.2.2.2.1 (S.2.2.1 t 4)) p v4)) (e5 : u = ycs d5 (S.2.2.1 t 5) (xput (yln 15) (d5.2.2.2.1 (S.2.2.1 t 5)) p v5)) : zTm S d u t (fun i => xput 2402 (d.2.2.2.1 (S.2.2.1 t i)) p (([v0, v1, v2, v3, v4, v5] : List Int32).getD i 0)) := by
  have a0 := zTm.put (d := d) zTm.rf hSh ht hkt (by decide) e0
  have a1 := zTm.put a0 hSh ht hkt (by decide) e1
  have a2 := zTm.put a1 hSh ht hkt (by decide) e2
  have a3 := zTm.put a2 hSh ht hkt (by decide) e3
  have a4 := zTm.put a3 hSh ht hkt (by decide) e4
  have a5 := zTm.put a4 hSh ht hkt (by decide) e5
  have c1 := a0.1 1 (by decide)
  have c2 := a1.1 2 (by decide)
  have c3 := a2.1 3 (by decide)
  have c4 := a3.1 4 (by decide)
  have c5 := a4.1 5 (by decide)
  refine a5.cg (fun i hi => ?_)
  obtain rfl | rfl | rfl | rfl | rfl | rfl : i = 0 ∨ i = 1 ∨ i = 2 ∨ i = 3 ∨ i = 4 ∨ i = 5 := by omega
  · rfl
  · show xput _ (d1.2.2.2.1 (S.2.2.1 t 1)) p v1 = _
    rw [c1]; rfl
  · show xput _ (d2.2.2.2.1 (S.2.2.1 t 2)) p v2 = _
    rw [c2]; rfl
  · show xput _ (d3.2.2.2.1 (S.2.2.1 t 3)) p v3 = _
    rw [c3]; rfl
  · show xput _ (d4.2.2.2.1 (S.2.2.1 t 4)) p v4 = _
    rw [c4]; rfl
  · show xput _ (d5.2.2.2.1 (S.2.2.1 t 5)) p v5 = _
    rw [c5]; rfl
theorem zCopy6 {S : yS} {d d1 d2 d3 d4 d5 u : yD} {t : Nat} {p0 p : Int32} {v0 v1 v2 v3 v4 v5 : Int32} (hSh : ySh S) (ht : t ∈ S.1) (hkt : S.2.1 t = 6) (r0 : v0 = xat (yln 10) (d.2.2.2.1 (S.2.2.1 t 0)) p0) (r1 : v1 = xat (yln 11) (d1.2.2.2.1 (S.2.2.1 t 1)) p0) (r2 : v2 = xat (yln 12) (d2.2.2.2.1 (S.2.2.1 t 2)) p0) (r3 : v3 = xat (yln 13) (d3.2.2.2.1 (S.2.2.1 t 3)) p0) (r4 : v4 = xat (yln 14) (d4.2.2.2.1 (S.2.2.1 t 4)) p0) (r5 : v5 = xat (yln 15) (d5.2.2.2.1 (S.2.2.1 t 5)) p0) (e0 : d1 = ycs d (S.2.2.1 t 0) (xput (yln 10) (d.2.2.2.1 (S.2.2.1 t 0)) p v0)) (e1 : d2 = ycs d1 (S.2.2.1 t 1) (xput (yln 11) (d1.2.2.2.1 (S.2.2.1 t 1)) p v1)) (e2 : d3 = ycs d2 (S.2.2.1 t 2) (xput (yln 12) (d2.2.2.2.1 (S.2.2.1 t 2)) p v2)) (e3 : d4 = ycs d3 (S.2.2.1 t 3) (xput (yln 13) (d3.2.2.2.1 (S.2.2.1 t 3)) p v3)) (e4 : d5 = ycs d4 (S.2.2.1 t 4) (xput (yln 14) (d4.2.2.2.1 (S.2.2.1 t 4)) p v4)) (e5 : u = ycs d5 (S.2.2.1 t 5) (xput (yln 15) (d5.2.2.2.1 (S.2.2.1 t 5)) p v5)) : zTm S d u t (fun i => xput 2402 (d.2.2.2.1 (S.2.2.1 t i)) p (xat 2402 (d.2.2.2.1 (S.2.2.1 t i)) p0)) := by
  have a0 := zTm.put (d := d) zTm.rf hSh ht hkt (by decide) e0
  have a1 := zTm.put a0 hSh ht hkt (by decide) e1
  have a2 := zTm.put a1 hSh ht hkt (by decide) e2
  have a3 := zTm.put a2 hSh ht hkt (by decide) e3
  have a4 := zTm.put a3 hSh ht hkt (by decide) e4
  have c1 := a0.1 1 (by decide)
  have c2 := a1.1 2 (by decide)
  have c3 := a2.1 3 (by decide)
  have c4 := a3.1 4 (by decide)
  have c5 := a4.1 5 (by decide)
  refine (zPut6 hSh ht hkt e0 e1 e2 e3 e4 e5).cg (fun i hi => ?_)
  obtain rfl | rfl | rfl | rfl | rfl | rfl : i = 0 ∨ i = 1 ∨ i = 2 ∨ i = 3 ∨ i = 4 ∨ i = 5 := by omega
  · show xput 2402 _ p v0 = _
    rw [r0]; rfl
  · show xput 2402 _ p v1 = _
    rw [r1, c1]; rfl
  · show xput 2402 _ p v2 = _
    rw [r2, c2]; rfl
  · show xput 2402 _ p v3 = _
    rw [r3, c3]; rfl
  · show xput 2402 _ p v4 = _
    rw [r4, c4]; rfl
  · show xput 2402 _ p v5 = _
    rw [r5, c5]; rfl
/-- all rows of terms t' are t's, those of other terms stand -/
def zTk (S : yS) (d u : yD) (t t2 : Nat) : Prop := (∀ i, i < 6 → ∀ k, k < 2402 → u.2.2.2.1 (S.2.2.1 t i) k = d.2.2.2.1 (S.2.2.1 t2 i) k) ∧ ∀ t', t' ∈ S.1 → S.2.1 t' = 6 → t' ≠ t → ∀ i, i < 6 → u.2.2.2.1 (S.2.2.1 t' i) = d.2.2.2.1 (S.2.2.1 t' i)
theorem zTk.ag {S : yS} {d d1 u : yD} {t t2 : Nat} {M : List Nat} (h : zTk S d d1 t t2) (hSh : ySh S) (ht : t ∈ S.1) (hkt : S.2.1 t = 6) (hg : yAg S M d1 u) (hM : 10 ∉ M ∧ 11 ∉ M ∧ 12 ∉ M ∧ 13 ∉ M ∧ 14 ∉ M ∧ 15 ∉ M) : zTk S d u t t2 := by
  have q : ∀ i, i < 6 → 10 + i ∉ M := fun i hi => by
    obtain rfl | rfl | rfl | rfl | rfl | rfl : i = 0 ∨ i = 1 ∨ i = 2 ∨ i = 3 ∨ i = 4 ∨ i = 5 := by omega
    · exact hM.1
    · exact hM.2.1
    · exact hM.2.2.1
    · exact hM.2.2.2.1
    · exact hM.2.2.2.2.1
    · exact hM.2.2.2.2.2
  refine ⟨fun i hi k hk => ?_, fun t' ht' hkt' hne i hi => ?_⟩
  · rw [(hg _ (by rw [yk6 hSh ht hkt hi]; exact q i hi)).2.2.2.1]; exact h.1 i hi k hk
  · rw [(hg _ (by rw [yk6 hSh ht' hkt' hi]; exact q i hi)).2.2.2.1]; exact h.2 t' ht' hkt' hne i hi
/-- rows of terms stand -/
def zRk (S : yS) (d u : yD) : Prop := ∀ t, t ∈ S.1 → S.2.1 t = 6 → ∀ i, i < 6 → u.2.2.2.1 (S.2.2.1 t i) = d.2.2.2.1 (S.2.2.1 t i)
theorem zRk.rf {S : yS} {d : yD} : zRk S d d := fun _ _ _ _ _ => rfl
theorem zRk.ag {S : yS} {d d1 u : yD} {M : List Nat} (h : zRk S d d1) (hSh : ySh S) (hg : yAg S M d1 u) (hM : 10 ∉ M ∧ 11 ∉ M ∧ 12 ∉ M ∧ 13 ∉ M ∧ 14 ∉ M ∧ 15 ∉ M) : zRk S d u := fun t a b i hi => by
  have q : 10 + i ∉ M := by
    obtain rfl | rfl | rfl | rfl | rfl | rfl : i = 0 ∨ i = 1 ∨ i = 2 ∨ i = 3 ∨ i = 4 ∨ i = 5 := by omega
    · exact hM.1
    · exact hM.2.1
    · exact hM.2.2.1
    · exact hM.2.2.2.1
    · exact hM.2.2.2.2.1
    · exact hM.2.2.2.2.2
  exact ((hg _ (by rw [yk6 hSh a b hi]; exact q)).2.2.2.1).trans (h t a b i hi)
theorem zTk.mono {S : yS} {d d1 u1 u : yD} {t t2 : Nat} (h : zTk S d1 u1 t t2) (ht : t ∈ S.1) (hkt : S.2.1 t = 6) (ht2 : t2 ∈ S.1) (hkt2 : S.2.1 t2 = 6) (a : zRk S d d1) (b : zRk S u1 u) : zTk S d u t t2 :=
  ⟨fun i hi k hk => by rw [b t ht hkt i hi, h.1 i hi k hk, a t2 ht2 hkt2 i hi], fun t' x y z i hi => by rw [b t' x y i hi, h.2 t' x y z i hi, a t' x y i hi]⟩
theorem zTake6 {S : yS} {d d1 d2 d3 d4 d5 u : yD} {t t2 : Nat} {f0 f1 f2 f3 f4 f5 : Nat → Int32} (hSh : ySh S) (ht : t ∈ S.1) (hkt : S.2.1 t = 6) (ht2 : t2 ∈ S.1) (hkt2 : S.2.1 t2 = 6) (hne : t2 ≠ t) (e0 : d1 = ycs d (S.2.2.1 t 0) f0) (e1 : d2 = ycs d1 (S.2.2.1 t 1) f1) (e2 : d3 = ycs d2 (S.2.2.1 t 2) f2) (e3 : d4 = ycs d3 (S.2.2.1 t 3) f3) (e4 : d5 = ycs d4 (S.2.2.1 t 4) f4) (e5 : u = ycs d5 (S.2.2.1 t 5) f5)
    (r0 : ∀ k, k < 2402 → f0 k = d.2.2.2.1 (S.2.2.1 t2 0) k) (r1 : ∀ k, k < 2402 → f1 k = d1.2.2.2.1 (S.2.2.1 t2 1) k) (r2 : ∀ k, k < 2402 → f2 k = d2.2.2.2.1 (S.2.2.1 t2 2) k) (r3 : ∀ k, k < 2402 → f3 k = d3.2.2.2.1 (S.2.2.1 t2 3) k) (r4 : ∀ k, k < 2402 → f4 k = d4.2.2.2.1 (S.2.2.1 t2 4) k) (r5 : ∀ k, k < 2402 → f5 k = d5.2.2.2.1 (S.2.2.1 t2 5) k) : zTk S d u t t2 := by
  have a0 := zTm.put (d := d) zTm.rf hSh ht hkt (by decide) e0
  have a1 := zTm.put a0 hSh ht hkt (by decide) e1
  have a2 := zTm.put a1 hSh ht hkt (by decide) e2
  have a3 := zTm.put a2 hSh ht hkt (by decide) e3
  have a4 := zTm.put a3 hSh ht hkt (by decide) e4
  have a5 := zTm.put a4 hSh ht hkt (by decide) e5
  have c1 := a0.2 t2 ht2 hkt2 hne 1 (by decide)
  have c2 := a1.2 t2 ht2 hkt2 hne 2 (by decide)
  have c3 := a2.2 t2 ht2 hkt2 hne 3 (by decide)
  have c4 := a3.2 t2 ht2 hkt2 hne 4 (by decide)
  have c5 := a4.2 t2 ht2 hkt2 hne 5 (by decide)
  refine ⟨fun i hi k hk => ?_, a5.2⟩
  rw [a5.1 i hi]
  obtain rfl | rfl | rfl | rfl | rfl | rfl : i = 0 ∨ i = 1 ∨ i = 2 ∨ i = 3 ∨ i = 4 ∨ i = 5 := by omega
  · exact r0 k hk
  · exact (r1 k hk).trans (congrFun c1 k)
  · exact (r2 k hk).trans (congrFun c2 k)
  · exact (r3 k hk).trans (congrFun c3 k)
  · exact (r4 k hk).trans (congrFun c4 k)
  · exact (r5 k hk).trans (congrFun c5 k)
/-- aside and back again: a row that held another one's for a while holds its own -/
theorem zAside {S : yS} {d d1 d2 d3 d4 : yD} {t : Nat} {row x : Int32} {M : List Nat} (hSh : ySh S) (ht : t ∈ S.1) (hkt : S.2.1 t = 6) (hr0 : 0 ≤ row.toInt) (hr1 : row.toInt < 2400) (h1 : zTm S d d1 t (fun i => xput 2402 (d.2.2.2.1 (S.2.2.1 t i)) 2401 (xat 2402 (d.2.2.2.1 (S.2.2.1 t i)) row))) (h2 : zTm S d1 d2 t (fun i => xput 2402 (d1.2.2.2.1 (S.2.2.1 t i)) row (xat 2402 (d1.2.2.2.1 (S.2.2.1 t i)) x))) (hg : yAg S M d2 d3) (hM : 10 ∉ M ∧ 11 ∉ M ∧ 12 ∉ M ∧ 13 ∉ M ∧ 14 ∉ M ∧ 15 ∉ M) (h4 : zTm S d3 d4 t (fun i => xput 2402 (d3.2.2.2.1 (S.2.2.1 t i)) row (xat 2402 (d3.2.2.2.1 (S.2.2.1 t i)) 2401))) : (∀ i, i < 6 → ∀ k, k < 2400 → d4.2.2.2.1 (S.2.2.1 t i) k = d.2.2.2.1 (S.2.2.1 t i) k) ∧ ∀ t', t' ∈ S.1 → S.2.1 t' = 6 → t' ≠ t → ∀ i, i < 6 → d4.2.2.2.1 (S.2.2.1 t' i) = d.2.2.2.1 (S.2.2.1 t' i) := by
  have h3 : zTm S d d3 t (fun i => xput 2402 (d1.2.2.2.1 (S.2.2.1 t i)) row (xat 2402 (d1.2.2.2.1 (S.2.2.1 t i)) x)) := (h1.tr h2).ag hSh ht hkt hg hM
  refine ⟨fun i hi k hk => ?_, (h3.tr h4).2⟩
  have q4 : d4.2.2.2.1 (S.2.2.1 t i) = xput 2402 (d3.2.2.2.1 (S.2.2.1 t i)) row (xat 2402 (d3.2.2.2.1 (S.2.2.1 t i)) 2401) := h4.1 i hi
  have q3 : d3.2.2.2.1 (S.2.2.1 t i) = xput 2402 (d1.2.2.2.1 (S.2.2.1 t i)) row (xat 2402 (d1.2.2.2.1 (S.2.2.1 t i)) x) := h3.1 i hi
  have q1 : d1.2.2.2.1 (S.2.2.1 t i) = xput 2402 (d.2.2.2.1 (S.2.2.1 t i)) 2401 (xat 2402 (d.2.2.2.1 (S.2.2.1 t i)) row) := h1.1 i hi
  rw [q4, q3, q1]
  have b2402 : (nI 2402).toInt = 2402 := nI_toInt (by decide)
  have c2401 : (2401 : Int32).toNatClampNeg = 2401 := by decide +kernel
  have z0 : (0 : Int32).toInt = 0 := by decide +kernel
  have q : row.toNatClampNeg = row.toInt.toNat := rfl
  have P : ∀ (f : Nat → Int32) (v : Int32), xput 2402 f row v = upd f row.toInt.toNat v := fun f v => by
    unfold xput
    rw [if_neg (fun w => by have := Int32.lt_iff_toInt_lt.mp w; omega), if_neg (fun w => by have := Int32.le_iff_toInt_le.mp w; omega), q]
  have A : ∀ (f : Nat → Int32), xat 2402 f row = f row.toInt.toNat := fun f => by
    unfold xat
    rw [if_neg (fun w => by have := Int32.lt_iff_toInt_lt.mp w; omega), if_neg (fun w => by have := Int32.le_iff_toInt_le.mp w; omega), q]
  have P1 : ∀ (f : Nat → Int32) (v : Int32), xput 2402 f 2401 v = upd f 2401 v := fun f v => by
    unfold xput
    rw [if_neg (by decide), if_neg (by decide), c2401]
  have A1 : ∀ (f : Nat → Int32), xat 2402 f 2401 = f 2401 := fun f => by
    unfold xat
    rw [if_neg (by decide), if_neg (by decide), c2401]
  rw [P, P, P1, A1]
  have n1 : row.toInt.toNat ≠ 2401 := by omega
  show (if k = row.toInt.toNat then (if 2401 = row.toInt.toNat then _ else (if 2401 = 2401 then xat 2402 (d.2.2.2.1 (S.2.2.1 t i)) row else _)) else (if k = row.toInt.toNat then _ else (if k = 2401 then _ else d.2.2.2.1 (S.2.2.1 t i) k))) = _
  by_cases e : k = row.toInt.toNat
  · rw [if_pos e, if_neg (fun w => n1 w.symm), if_pos rfl, A, e]
  · rw [if_neg e, if_neg e, if_neg (by omega)]
/-- a term's reasons, in whole numbers -/
theorem txr_ {n c pl r : Int32} (h : r = xplr n c pl) : (r.toInt = 0 ∧ (0 ≤ c.toInt ∧ c.toInt ≤ 39 ∧ c.toInt < n.toInt) ∧ 0 ≤ pl.toInt ∧ pl.toInt ≤ 59) ∨ (r.toInt ≠ 0 ∧ ¬ ((0 ≤ c.toInt ∧ c.toInt ≤ 39 ∧ c.toInt < n.toInt) ∧ 0 ≤ pl.toInt ∧ pl.toInt ≤ 59)) := by
  have z : (0 : Int32).toInt = 0 := by decide +kernel
  have z39 : (39 : Int32).toInt = 39 := by decide +kernel
  have z59 : (59 : Int32).toInt = 59 := by decide +kernel
  unfold xplr at h
  by_cases e : (c < 0 ∨ 39 < c) ∨ (pl < 0 ∨ 59 < pl)
  · rw [if_pos e] at h
    refine Or.inr ⟨by rw [h]; decide +kernel, fun q => ?_⟩
    rcases e with (e | e) | (e | e) <;> (have := Int32.lt_iff_toInt_lt.mp e; omega)
  · rw [if_neg e] at h
    have e1 := Int32.le_iff_toInt_le.mp (Int32.not_lt.mp (fun q => e (Or.inl (Or.inl q))))
    have e2 := Int32.le_iff_toInt_le.mp (Int32.not_lt.mp (fun q => e (Or.inl (Or.inr q))))
    have e3 := Int32.le_iff_toInt_le.mp (Int32.not_lt.mp (fun q => e (Or.inr (Or.inl q))))
    have e4 := Int32.le_iff_toInt_le.mp (Int32.not_lt.mp (fun q => e (Or.inr (Or.inr q))))
    by_cases f : c < n
    · rw [if_pos f] at h
      have := Int32.lt_iff_toInt_lt.mp f
      exact Or.inl ⟨by rw [h]; decide +kernel, by omega, by omega, by omega⟩
    · rw [if_neg f] at h
      have := Int32.le_iff_toInt_le.mp (Int32.not_lt.mp f)
      exact Or.inr ⟨by rw [h]; decide +kernel, fun q => by omega⟩
theorem txh_ {n k c pl r : Int32} (h : r = xthr n k c pl) : (r.toInt = 0 ∧ ((0 ≤ c.toInt ∧ c.toInt ≤ 39 ∧ c.toInt < n.toInt) ∧ 0 ≤ pl.toInt ∧ pl.toInt ≤ 59) ∧ k.toInt ≠ 6) ∨ (r.toInt ≠ 0 ∧ ¬ (((0 ≤ c.toInt ∧ c.toInt ≤ 39 ∧ c.toInt < n.toInt) ∧ 0 ≤ pl.toInt ∧ pl.toInt ≤ 59) ∧ k.toInt ≠ 6)) := by
  have z6 : (6 : Int32).toInt = 6 := by decide +kernel
  have q := txr_ (rfl : xplr n c pl = xplr n c pl)
  unfold xthr at h
  by_cases e : xplr n c pl = 0
  · rw [if_pos e] at h
    have e' := tz_.mp e
    by_cases f : k = 6
    · rw [if_pos f] at h
      exact Or.inr ⟨by rw [h]; decide +kernel, fun w => w.2 (by rw [f]; exact z6)⟩
    · rw [if_neg f] at h
      refine Or.inl ⟨by rw [h]; decide +kernel, by omega, fun w => f (Int32.toInt_inj.mp (w.trans z6.symm))⟩
  · rw [if_neg e] at h
    have e' : (xplr n c pl).toInt ≠ 0 := fun w => e (tz_.mpr w)
    refine Or.inr ⟨by rw [h]; exact e', fun w => by omega⟩
theorem txt_ {n k c pl r : Int32} (h : r = xter n k c pl) : (r.toInt = 0 ∧ ((0 ≤ c.toInt ∧ c.toInt ≤ 39 ∧ c.toInt < n.toInt) ∧ 0 ≤ pl.toInt ∧ pl.toInt ≤ 59) ∧ k.toInt ≠ 6 ∧ k.toInt ≠ 5) ∨ (r.toInt ≠ 0 ∧ ¬ (((0 ≤ c.toInt ∧ c.toInt ≤ 39 ∧ c.toInt < n.toInt) ∧ 0 ≤ pl.toInt ∧ pl.toInt ≤ 59) ∧ k.toInt ≠ 6 ∧ k.toInt ≠ 5)) := by
  have z5 : (5 : Int32).toInt = 5 := by decide +kernel
  have q := txh_ (rfl : xthr n k c pl = xthr n k c pl)
  unfold xter at h
  by_cases e : xthr n k c pl = 0
  · rw [if_pos e] at h
    have e' := tz_.mp e
    by_cases f : k = 5
    · rw [if_pos f] at h
      exact Or.inr ⟨by rw [h]; decide +kernel, fun w => w.2.2 (by rw [f]; exact z5)⟩
    · rw [if_neg f] at h
      refine Or.inl ⟨by rw [h]; decide +kernel, by omega, by omega, fun w => f (Int32.toInt_inj.mp (w.trans z5.symm))⟩
  · rw [if_neg e] at h
    have e' : (xthr n k c pl).toInt ≠ 0 := fun w => e (tz_.mpr w)
    refine Or.inr ⟨by rw [h]; exact e', fun w => by omega⟩
/-- the ports of the set bits -/
abbrev zB (b k : Int32) : Prop := (b >>> ((k : Int32) &&& 31)) &&& 1 = 1
def zTC (b : Int32) (O : Int32 → Prop) : Prop := (0 ≤ b.toInt ∧ b.toInt ≤ 255) ∧ ∀ j : Int32, 0 ≤ j.toInt → j.toInt ≤ 7 → zB b j → O j
def zTg (b : Int32) (O : Int32 → Prop) (w k : Int32) : Prop := 0 ≤ k.toInt ∧ ((w.toInt = 0 ∧ (0 ≤ b.toInt ∧ b.toInt ≤ 255) ∧ ∀ j : Int32, 0 ≤ j.toInt → j.toInt < k.toInt → zB b j → O j) ∨ (w.toInt ≠ 0 ∧ ¬ zTC b O))
theorem zTg.ini {b w : Int32} {O : Int32 → Prop} (h : (w.toInt = 0 ∧ 0 ≤ b.toInt ∧ b.toInt ≤ 255) ∨ (w.toInt ≠ 0 ∧ ¬ (0 ≤ b.toInt ∧ b.toInt ≤ 255))) : zTg b O w 0 :=
  ⟨by decide, h.imp (fun x => ⟨x.1, x.2, fun j a c => absurd c (by rw [show (0 : Int32).toInt = 0 by decide +kernel]; omega)⟩) (fun x => ⟨x.1, fun q => x.2 q.1⟩)⟩
theorem zTg.no {b w k : Int32} {O : Int32 → Prop} (h : zTg b O w k) (hk : ¬ 8 ≤ k) (hw : w.toInt = 0) (hb : ¬ zB b k) : zTg b O w (k + 1) := by
  have z8 : (8 : Int32).toInt = 8 := by decide +kernel
  obtain ⟨k0, h⟩ := h
  have k8 := Int32.lt_iff_toInt_lt.mp (Int32.not_le.mp hk)
  rw [z8] at k8
  have ek : (k + 1).toInt = k.toInt + 1 := tadd rfl rfl (by decide +kernel : (1 : Int32).toInt = 1) (by omega) (by omega)
  rcases h with ⟨a, c, e⟩ | ⟨a, -⟩
  · refine ⟨by omega, Or.inl ⟨a, c, fun j j0 j1 jb => ?_⟩⟩
    by_cases q : j = k
    · rw [q] at jb; exact absurd jb hb
    · have q' : j.toInt ≠ k.toInt := fun x => q (Int32.toInt_inj.mp x)
      exact e j j0 (by omega) jb
  · exact absurd hw a
theorem zTg.yes {b w w2 k : Int32} {O : Int32 → Prop} (h : zTg b O w k) (hk : ¬ 8 ≤ k) (hw : w.toInt = 0) (hb : zB b k) (h2 : (w2.toInt = 0 ∧ O k) ∨ (w2.toInt ≠ 0 ∧ ¬ O k)) : zTg b O w2 (k + 1) := by
  have z8 : (8 : Int32).toInt = 8 := by decide +kernel
  obtain ⟨k0, h⟩ := h
  have k8 := Int32.lt_iff_toInt_lt.mp (Int32.not_le.mp hk)
  rw [z8] at k8
  have ek : (k + 1).toInt = k.toInt + 1 := tadd rfl rfl (by decide +kernel : (1 : Int32).toInt = 1) (by omega) (by omega)
  rcases h with ⟨a, c, e⟩ | ⟨a, -⟩
  · rcases h2 with ⟨x, y⟩ | ⟨x, y⟩
    · refine ⟨by omega, Or.inl ⟨x, c, fun j j0 j1 jb => ?_⟩⟩
      by_cases q : j = k
      · rw [q]; exact y
      · have q' : j.toInt ≠ k.toInt := fun x => q (Int32.toInt_inj.mp x)
        exact e j j0 (by omega) jb
    · exact ⟨by omega, Or.inr ⟨x, fun q => y (q.2 k k0 (by omega) hb)⟩⟩
  · exact absurd hw a
theorem zTg.fin {b w k : Int32} {O : Int32 → Prop} (h : zTg b O w k) (hk : 8 ≤ k ∨ w.toInt ≠ 0) : (w.toInt = 0 ∧ zTC b O) ∨ (w.toInt ≠ 0 ∧ ¬ zTC b O) := by
  have z8 : (8 : Int32).toInt = 8 := by decide +kernel
  rcases h with ⟨k0, ⟨a, c, e⟩ | ⟨a, c⟩⟩
  · rcases hk with hk | hk
    · have k8 := Int32.le_iff_toInt_le.mp hk
      rw [z8] at k8
      exact Or.inl ⟨a, c, fun j j0 j7 jb => e j j0 (by omega) jb⟩
    · exact absurd a hk
  · exact Or.inr ⟨a, c⟩
