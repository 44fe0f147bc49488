/-! pure facts: what the small methods answer -/
def x2 (r : Int32) : Prop := r = 1 ∨ r = 2
def x3 (r : Int32) : Prop := r = 0 ∨ r = 1 ∨ r = 2
def xnum (z : Int32) : Int32 := if z = 0 then 1 else 0
def xleast (a b : Int32) : Int32 := if a = 0 ∨ b = 0 then a + b else if b < a then b else a
def xles (a b : Int32) : Int32 := if a = 0 then b else if b = 0 then a else if a < b then a else b
def xref (a : Int32) : Int32 := if a = 0 then 0 else 1
def xat (n : Nat) (f : Nat → Int32) (i : Int32) : Int32 := if i < 0 then 0 else if nI n ≤ i then 0 else f i.toNatClampNeg
def xput (n : Nat) (f : Nat → Int32) (i v : Int32) : Nat → Int32 := if i < 0 then f else if nI n ≤ i then f else upd f i.toNatClampNeg v
def xrf (f : Nat → Int32) (a : Int32) : Nat → Int32 := if a = 0 then f else xput 6 f a (xat 6 f a + 1)
theorem xn0 {r : Int32} (h : x2 r) : ¬ r = 0 := by rcases h with rfl | rfl <;> decide +kernel
theorem x23 {r : Int32} (h : x2 r) : x3 r := Or.inr h
theorem x3num (z : Int32) : x3 (xnum z) := by
  unfold xnum
  by_cases h : z = 0
  · rw [if_pos h]; exact Or.inr (Or.inl rfl)
  · rw [if_neg h]; exact Or.inl rfl
theorem x2l {a b : Int32} (ha : x2 a) (hb : x3 b) : x2 (xleast a b) := by
  rcases ha with rfl | rfl <;> rcases hb with rfl | rfl | rfl <;> (unfold x2; decide +kernel)
theorem x2r {a b : Int32} (ha : x3 a) (hb : x2 b) : x2 (xleast a b) := by
  rcases ha with rfl | rfl | rfl <;> rcases hb with rfl | rfl <;> (unfold x2; decide +kernel)
theorem x3l {a b : Int32} (ha : x3 a) (hb : x3 b) : x3 (xleast a b) := by
  rcases ha with rfl | rfl | rfl <;> rcases hb with rfl | rfl | rfl <;> (unfold x3; decide +kernel)
theorem x2s {a b : Int32} (ha : x3 a) (hb : x2 b) : x2 (xles a b) := by
  rcases ha with rfl | rfl | rfl <;> rcases hb with rfl | rfl <;> (unfold x2; decide +kernel)
theorem xin {i : Int32} {n : Nat} (h1 : ¬ i < 0) (h2 : ¬ nI n ≤ i) (hn : n < 2 ^ 31) : vp_in i n := by
  rw [vp_in_iff]
  have a : ¬ i.toInt < 0 := fun h => h1 (Int32.lt_iff_toInt_lt.mpr h)
  have b : ¬ (nI n).toInt ≤ i.toInt := fun h => h2 (Int32.le_iff_toInt_le.mpr h)
  rw [nI_toInt hn] at b
  omega
theorem xin6 {i : Int32} (h : x2 i) : vp_in i 6 := by rcases h with rfl | rfl <;> (unfold vp_in; decide +kernel)
theorem xnI {i : Int32} {n : Nat} (h1 : ¬ i < 0) (h2 : ¬ nI n ≤ i) (hn : n < 2 ^ 31) : ∃ k : Nat, k < n ∧ i = nI k := vp_in_of (xin h1 h2 hn) hn
/-- a switch: x is one of 0 .. n - 1, or outside -/
theorem xtab (x : Int32) (n : Nat) (hn : n < 2 ^ 31) : (x.toInt < 0 ∨ (n : Int) - 1 < x.toInt) ∨ ∃ k : Nat, k < n ∧ x = nI k := by
  by_cases h : vp_in x n
  · exact Or.inr (vp_in_of h hn)
  · refine Or.inl ?_
    rw [vp_in_iff] at h
    omega
theorem xin96 {p z : Int32} (h1 : ¬ p < 0) (h2 : ¬ 8 ≤ p) (ez : z = 12 * p) : vp_in z 96 := by
  obtain ⟨k, hk, rfl⟩ := xnI (n := 8) h1 h2 (by decide)
  rw [ez, show (12 : Int32) = nI 12 from rfl, pk_mul]
  exact vp_in_nI (by omega) (by decide)
section XJ
variable {p : Program} {l : Launch} {e : Env} {R : Room} {s : State} {m : MethodId} {args : Array Value} {below : List Frame} {meth : Method} {c : Code} {H : Heap} {locs : List Loc} {cells slots : Nat} {Q : State → Prop} {g : JFrame}
/-- roads that come together at pc -/
theorem xj1 {n : Nat} (pc : Nat) (lv : Int32 → List (Nat × Value)) (h : ∀ (v : Int32) (ls : Array Slot), lv_has ls n (lv v) → W p l e R s m args below meth c H locs cells slots Q (F0 m pc ls []))
    (k : (∀ (v : Int32) (ls : Array Slot), lv_has ls n (lv v) → W p l e R s m args below meth c H locs cells slots Q (F0 m pc ls [])) → W p l e R s m args below meth c H locs cells slots Q g) : W p l e R s m args below meth c H locs cells slots Q g := k h
/-- a loop that counts to N; the invariant tells of the heap and of the locals -/
theorem xloop (N pc : Nat) (Inv : Nat → Heap → List Loc → Array Slot → Prop)
    (hstep : ∀ (k : Nat) (H : Heap) (locs : List Loc) (ls : Array Slot), k < N → Inv k H locs ls → (∀ (H' : Heap) (locs' : List Loc) (ls' : Array Slot), Inv (k + 1) H' locs' ls' → W p l e R s m args below meth c H' locs' cells slots Q (F0 m pc ls' [])) → W p l e R s m args below meth c H locs cells slots Q (F0 m pc ls []))
    (hexit : ∀ (H : Heap) (locs : List Loc) (ls : Array Slot), Inv N H locs ls → W p l e R s m args below meth c H locs cells slots Q (F0 m pc ls [])) {ls : Array Slot} (h0 : Inv 0 H locs ls) : W p l e R s m args below meth c H locs cells slots Q (F0 m pc ls []) := by
  have key : ∀ (d k : Nat), k + d = N → ∀ (H : Heap) (locs : List Loc) (ls : Array Slot), Inv k H locs ls → W p l e R s m args below meth c H locs cells slots Q (F0 m pc ls []) := by
    intro d
    induction d with
    | zero => intro k hk H locs ls h; rw [Nat.add_zero] at hk; subst hk; exact hexit H locs ls h
    | succ d ih => intro k hk H locs ls h; exact hstep k H locs ls (by omega) h (fun H' locs' ls' h' => ih (k + 1) (by omega) H' locs' ls' h')
  exact key N 0 (Nat.zero_add N) H locs ls h0
end XJ
theorem x32 {r : Int32} (h : x3 r) (n : ¬ r = 0) : x2 r := h.elim (fun e => absurd e n) id
theorem xk8 {k n : Nat} (hn : n < 2 ^ 31) (hk : k < 8) (e : nI n = nI k) : n = k := (nI_eq hn (by omega)).mp e
theorem xport {p : Int32} {r q : Nat} {b : Nat → Nat} (h : (∃ k, k < 8 ∧ p = nI k ∧ r = b (16 + k)) ∨ ((p < 0 ∨ nI 8 ≤ p) ∧ r = q)) (hb : ¬ p < 0 ∧ ¬ 7 < p) : ∃ k, k < 8 ∧ r = b (16 + k) := by
  rcases h with ⟨k, h1, -, h2⟩ | ⟨h | h, -⟩
  · exact ⟨k, h1, h2⟩
  · exact absurd h hb.1
  · exact absurd (Int32.lt_of_lt_of_le (show (7 : Int32) < nI 8 by decide +kernel) h) hb.2
theorem xport8 {p : Int32} {r q n : Nat} {b : Nat → Nat} (h : (∃ k, k < 8 ∧ p = nI k ∧ r = b (16 + k)) ∨ ((p < 0 ∨ nI 8 ≤ p) ∧ r = q)) (hn : n < 8) (e : p = nI n) : r = b (16 + n) := by
  subst e
  rcases h with ⟨k, h1, h3, h2⟩ | ⟨h | h, -⟩
  · rw [h2, xk8 (by omega) h1 h3]
  · exact absurd h (nI_pos (by omega))
  · exact absurd h (nI_ge hn (by decide))
def xst (p r : Int32) : Prop := (vp_in p 9 ∧ r = 0) ∨ (¬ vp_in p 9 ∧ r = -1)
theorem xstat {p w v : Int32} (h : (w = 1 ∧ ¬ p < 1 ∧ ¬ 5 < p) ∨ (w = 0 ∧ (p < 1 ∨ 5 < p))) (c : ¬ w = 0) (e : v = xat 6 (fun _ => 0) p) : xst p v := by
  rcases h with ⟨-, h1, h2⟩ | ⟨h, -⟩
  · refine Or.inl ⟨?_, ?_⟩
    · rw [vp_in_iff]
      have a : ¬ p.toInt < (1 : Int32).toInt := fun h => h1 (Int32.lt_iff_toInt_lt.mpr h)
      have b : ¬ (5 : Int32).toInt < p.toInt := fun h => h2 (Int32.lt_iff_toInt_lt.mpr h)
      rw [show (1 : Int32).toInt = 1 by decide +kernel] at a
      rw [show (5 : Int32).toInt = 5 by decide +kernel] at b
      omega
    · rw [e]; unfold xat
      split
      · rfl
      · split <;> rfl
  · exact absurd h c
def xtg (p : Int32) : Prop := (¬ p < 0 ∧ ¬ 255 < p) ∧ ∀ k, k < 8 → ¬ (p >>> (nI k &&& 31)) &&& 1 = 1
theorem xwin {p w n : Int32} (h : ((w = 1 ∧ ¬ p < 0 ∧ ¬ 255 < p) ∨ (w = 0 ∧ (p < 0 ∨ 255 < p))) ∧ n = xnum w) (e : n = 0) : ¬ p < 0 ∧ ¬ 255 < p := by
  obtain ⟨h | ⟨h, -⟩, h2⟩ := h
  · exact h.2
  · rw [h] at h2; rw [h2] at e; exact absurd e (by decide +kernel)
theorem xbad {p w n : Int32} (hp : ¬ p < 0 ∧ ¬ 255 < p) (h : ((w = 1 ∧ ¬ p < 0 ∧ ¬ 255 < p) ∨ (w = 0 ∧ (p < 0 ∨ 255 < p))) ∧ n = xnum w) (c : n = 0 → False) : False := by
  obtain ⟨⟨h, -⟩ | ⟨-, h⟩, h2⟩ := h
  · rw [h] at h2; exact c (h2.trans (by decide +kernel))
  · exact h.elim hp.1 hp.2
theorem xall8 {p : Int32} (h0 : ¬ (p >>> (nI 0 &&& 31)) &&& 1 = 1) (h1 : ¬ (p >>> (nI 1 &&& 31)) &&& 1 = 1) (h2 : ¬ (p >>> (nI 2 &&& 31)) &&& 1 = 1) (h3 : ¬ (p >>> (nI 3 &&& 31)) &&& 1 = 1) (h4 : ¬ (p >>> (nI 4 &&& 31)) &&& 1 = 1) (h5 : ¬ (p >>> (nI 5 &&& 31)) &&& 1 = 1) (h6 : ¬ (p >>> (nI 6 &&& 31)) &&& 1 = 1) (h7 : ¬ (p >>> (nI 7 &&& 31)) &&& 1 = 1) : ∀ k, k < 8 → ¬ (p >>> (nI k &&& 31)) &&& 1 = 1 := by
  intro k hk
  match k, hk with
  | 0, _ => exact h0
  | 1, _ => exact h1
  | 2, _ => exact h2
  | 3, _ => exact h3
  | 4, _ => exact h4
  | 5, _ => exact h5
  | 6, _ => exact h6
  | 7, _ => exact h7
  | k + 8, hk => exact absurd hk (by omega)
theorem xbits {p : Int32} (h : ¬ p < 0 ∧ ¬ 255 < p) (h2 : ∀ k, k < 8 → ¬ (p >>> (nI k &&& 31)) &&& 1 = 1) : xtg p := ⟨h, h2⟩
theorem xcn0 : (0 : Int32).toNatClampNeg = 0 := by decide +kernel
theorem xcn1 : (1 : Int32).toNatClampNeg = 1 := by decide +kernel
theorem xcn2 : (2 : Int32).toNatClampNeg = 2 := by decide +kernel
theorem xcn3 : (3 : Int32).toNatClampNeg = 3 := by decide +kernel
theorem xcn4 : (4 : Int32).toNatClampNeg = 4 := by decide +kernel
theorem xcn5 : (5 : Int32).toNatClampNeg = 5 := by decide +kernel
theorem xcn6 : (6 : Int32).toNatClampNeg = 6 := by decide +kernel
theorem xcn7 : (7 : Int32).toNatClampNeg = 7 := by decide +kernel
