/-! EVENTS as a table: of each minute (all ports one behind another) the kinds, in their order -/
def zF (E : Nat → List Nat) (a : Nat) : Nat → List Nat
  | 0 => []
  | n + 1 => zF E a n ++ (E (a + n)).map (fun k => (a + n) * 8 + k)
def zT : Nat := 1036800
def zK8 (E : Nat → List Nat) : Prop := ∀ x j, j ∈ E x → j < 8
theorem zT_eq : zT = 1036800 := rfl
theorem zF_add {E : Nat → List Nat} {a n : Nat} : ∀ k, zF E a (n + k) = zF E a n ++ zF E (a + n) k
  | 0 => (List.append_nil _).symm
  | k + 1 => by
    show zF E a (n + k) ++ (E (a + (n + k))).map (fun j => (a + (n + k)) * 8 + j) = zF E a n ++ (zF E (a + n) k ++ (E (a + n + k)).map (fun j => (a + n + k) * 8 + j))
    rw [zF_add k, List.append_assoc, Nat.add_assoc]
theorem zF_cg {E E' : Nat → List Nat} {a : Nat} : ∀ n, (∀ x, a ≤ x → x < a + n → E' x = E x) → zF E' a n = zF E a n
  | 0, _ => rfl
  | n + 1, h => by
    show zF E' a n ++ (E' (a + n)).map (fun k => (a + n) * 8 + k) = zF E a n ++ (E (a + n)).map (fun k => (a + n) * 8 + k)
    rw [zF_cg n (fun x h1 h2 => h x h1 (by omega)), h (a + n) (by omega) (by omega)]
theorem zF_nil {E : Nat → List Nat} {a : Nat} : ∀ n, (∀ x, a ≤ x → x < a + n → E x = []) → zF E a n = []
  | 0, _ => rfl
  | n + 1, h => by
    show zF E a n ++ (E (a + n)).map (fun k => (a + n) * 8 + k) = []
    rw [zF_nil n (fun x h1 h2 => h x h1 (by omega)), h (a + n) (by omega) (by omega)]
    rfl
theorem zF_mem {E : Nat → List Nat} (h8 : zK8 E) {a k : Nat} : ∀ n, k ∈ zF E a n → 8 * a ≤ k ∧ k < 8 * (a + n)
  | 0, h => absurd (show k ∈ ([] : List Nat) from h) List.not_mem_nil
  | n + 1, h => by
    rcases List.mem_append.mp (show k ∈ zF E a n ++ (E (a + n)).map (fun k => (a + n) * 8 + k) from h) with h | h
    · have q := zF_mem h8 n h
      omega
    · obtain ⟨j, hj, e⟩ := List.mem_map.mp h
      have q := h8 _ j hj
      have e : (a + n) * 8 + j = k := e
      omega
theorem zF_sh {E E' : Nat → List Nat} {a b : Nat} : ∀ n, (∀ i, i < n → E' (b + i) = E (a + i)) → (zF E' b n).map (fun y => y + 8 * a) = (zF E a n).map (fun x => x + 8 * b)
  | 0, _ => rfl
  | n + 1, h => by
    show (zF E' b n ++ (E' (b + n)).map (fun k => (b + n) * 8 + k)).map (fun y => y + 8 * a) = (zF E a n ++ (E (a + n)).map (fun k => (a + n) * 8 + k)).map (fun x => x + 8 * b)
    rw [List.map_append, List.map_append, zF_sh n (fun i hi => h i (by omega)), h n (by omega), List.map_map, List.map_map]
    refine congrArg (fun z => (zF E a n).map (fun x => x + 8 * b) ++ z) (List.map_congr_left (fun j _ => ?_))
    show (b + n) * 8 + j + 8 * a = (a + n) * 8 + j + 8 * b
    omega
theorem zF_len {E E' : Nat → List Nat} {a b n : Nat} (h : ∀ i, i < n → E' (b + i) = E (a + i)) : (zF E' b n).length = (zF E a n).length := by
  have q := congrArg List.length (zF_sh n h)
  rw [List.length_map, List.length_map] at q
  exact q
theorem zF_cut {E : Nat → List Nat} {x : Nat} (h : x ≤ zT) : zF E 0 zT = zF E 0 x ++ zF E x (zT - x) := by
  have q := zF_add (E := E) (a := 0) (n := x) (zT - x)
  rw [Nat.zero_add, show x + (zT - x) = zT by omega] at q
  exact q
theorem zF_cut3 {E : Nat → List Nat} {a n : Nat} (h : a + n ≤ zT) : zF E 0 zT = zF E 0 a ++ (zF E a n ++ zF E (a + n) (zT - (a + n))) := by
  rw [zF_cut (x := a) (by omega), ← zF_add, show n + (zT - (a + n)) = zT - a by omega]
/-- minutes emptied -/
def zClr (E : Nat → List Nat) (a n : Nat) : Nat → List Nat := fun x => if a ≤ x ∧ x < a + n then [] else E x
/-- one more kind in a minute -/
def zIns (E : Nat → List Nat) (x k : Nat) : Nat → List Nat := fun y => if y = x then E x ++ [k] else E y
/-- n minutes from a on come to b -/
def zCpy (E : Nat → List Nat) (a b n : Nat) : Nat → List Nat := fun x => if b ≤ x ∧ x < b + n then E (x - b + a) else E x
theorem zClr_8 {E : Nat → List Nat} {a n : Nat} (h : zK8 E) : zK8 (zClr E a n) := fun x j hj => by
  unfold zClr at hj
  by_cases c : a ≤ x ∧ x < a + n
  · rw [if_pos c] at hj; exact absurd hj List.not_mem_nil
  · rw [if_neg c] at hj; exact h x j hj
theorem zIns_8 {E : Nat → List Nat} {x k : Nat} (h : zK8 E) (hk : k < 8) : zK8 (zIns E x k) := fun y j hj => by
  unfold zIns at hj
  by_cases c : y = x
  · rw [if_pos c] at hj
    rcases List.mem_append.mp hj with hj | hj
    · exact h x j hj
    · rw [List.mem_singleton.mp hj]; exact hk
  · rw [if_neg c] at hj; exact h y j hj
theorem zCpy_8 {E : Nat → List Nat} {a b n : Nat} (h : zK8 E) : zK8 (zCpy E a b n) := fun x j hj => by
  unfold zCpy at hj
  by_cases c : b ≤ x ∧ x < b + n
  · rw [if_pos c] at hj; exact h _ j hj
  · rw [if_neg c] at hj; exact h x j hj
theorem zClr_F {E : Nat → List Nat} {a n : Nat} (h : a + n ≤ zT) : zF (zClr E a n) 0 zT = zF E 0 a ++ zF E (a + n) (zT - (a + n)) := by
  rw [zF_cut3 h, zF_nil (E := zClr E a n) (a := a) n (fun x h1 h2 => if_pos ⟨h1, h2⟩), List.nil_append, zF_cg (E := E) (E' := zClr E a n) (a := 0) a (fun x h1 h2 => if_neg (by omega)), zF_cg (E := E) (E' := zClr E a n) (a := a + n) _ (fun x h1 h2 => if_neg (by omega))]
theorem zIns_F {E : Nat → List Nat} {x k : Nat} (h : x < zT) : zF (zIns E x k) 0 zT = zF E 0 (x + 1) ++ (8 * x + k) :: zF E (x + 1) (zT - (x + 1)) := by
  have e1 : zF (zIns E x k) (x + 1) (zT - (x + 1)) = zF E (x + 1) (zT - (x + 1)) := zF_cg _ (fun y h1 h2 => if_neg (by omega))
  have e0 : zF (zIns E x k) 0 x = zF E 0 x := zF_cg _ (fun y h1 h2 => if_neg (by omega))
  have e2 : zF (zIns E x k) 0 (x + 1) = zF E 0 (x + 1) ++ [8 * x + k] := by
    show zF (zIns E x k) 0 x ++ (zIns E x k (0 + x)).map (fun k => (0 + x) * 8 + k) = (zF E 0 x ++ (E (0 + x)).map (fun k => (0 + x) * 8 + k)) ++ [8 * x + k]
    rw [e0, Nat.zero_add, show zIns E x k x = E x ++ [k] from if_pos rfl, List.map_append, List.append_assoc, show ([k].map (fun k => x * 8 + k)) = [8 * x + k] from congrArg (fun z => [z + k]) (Nat.mul_comm x 8)]
  rw [zF_cut (x := x + 1) (by omega), e1, e2, List.append_assoc]
  rfl
theorem zCpy_F {E : Nat → List Nat} {a b n : Nat} (h : b + n ≤ zT) : zF (zCpy E a b n) 0 zT = zF E 0 b ++ (zF (zCpy E a b n) b n ++ zF E (b + n) (zT - (b + n))) := by
  rw [zF_cut3 h, zF_cg (E := E) (E' := zCpy E a b n) (a := 0) b (fun x h1 h2 => if_neg (by omega)), zF_cg (E := E) (E' := zCpy E a b n) (a := b + n) _ (fun x h1 h2 => if_neg (by omega))]
theorem zCpy_M {E : Nat → List Nat} {a b n : Nat} : (zF (zCpy E a b n) b n).map (fun y => y + 8 * a) = (zF E a n).map (fun x => x + 8 * b) := zF_sh n (fun i hi => by
  show (if b ≤ b + i ∧ b + i < b + n then E (b + i - b + a) else E (b + i)) = _
  rw [if_pos (by omega), show b + i - b + a = a + i by omega])
/-! arrays that hold a list -/
def zA (f : Nat → Int32) (n : Int32) (L : List Nat) : Prop := n.toInt = (L.length : Int) ∧ ∀ (i x : Nat), L[i]? = some x → (f i).toInt = (x : Int)
theorem zR_ {A B : List Nat} {j : Nat} : (A ++ B)[A.length + j]? = B[j]? := by
  rw [List.getElem?_append_right (Nat.le_add_right _ _), Nat.add_sub_cancel_left]
theorem zL_ {A B : List Nat} {j : Nat} (h : j < A.length) : (A ++ B)[j]? = A[j]? := List.getElem?_append_left h
theorem zlt {A : List Nat} {j x : Nat} (h : A[j]? = some x) : j < A.length := (List.getElem?_eq_some_iff.mp h).1
theorem zA.lt {f : Nat → Int32} {n : Int32} {A B : List Nat} {b : Int} (h : zA f n (A ++ B)) (hA : ∀ x, x ∈ A → (x : Int) < b) (hB : ∀ x, x ∈ B → b ≤ (x : Int)) {i : Nat} (hi : (i : Int) < n.toInt) : (f i).toInt < b ↔ i < A.length := by
  have hl := h.1
  rw [List.length_append] at hl
  by_cases c : i < A.length
  · have e : (A ++ B)[i]? = some A[i] := by rw [zL_ c, List.getElem?_eq_getElem c]
    have q := h.2 _ _ e
    have q2 := hA _ (List.getElem_mem c)
    exact ⟨fun _ => c, fun _ => by omega⟩
  · have c2 : i - A.length < B.length := by omega
    have e : (A ++ B)[i]? = some B[i - A.length] := by rw [List.getElem?_append_right (by omega), List.getElem?_eq_getElem c2]
    have q := h.2 _ _ e
    have q2 := hB _ (List.getElem_mem c2)
    exact ⟨fun w => by omega, fun w => absurd w c⟩
/-- the place that is searched: all that is ahead of b lies ahead of it -/
def zIdx (f : Nat → Int32) (n : Int32) (b r : Int) : Prop := ∀ A B : List Nat, zA f n (A ++ B) → A.length + B.length ≤ 5000 → (∀ x, x ∈ A → (x : Int) < b) → (∀ x, x ∈ B → b ≤ (x : Int)) → r = (A.length : Int)
/-- in the midst of the search -/
def zIxI (f : Nat → Int32) (n b lo hi t : Int32) : Prop := ∀ A B : List Nat, zA f n (A ++ B) → A.length + B.length ≤ 5000 → (∀ x, x ∈ A → (x : Int) < b.toInt) → (∀ x, x ∈ B → b.toInt ≤ (x : Int)) → 0 ≤ lo.toInt ∧ lo.toInt ≤ (A.length : Int) ∧ (A.length : Int) ≤ hi.toInt ∧ hi.toInt ≤ n.toInt ∧ 0 ≤ t.toInt ∧ t.toInt ≤ 32 ∧ (hi.toInt - lo.toInt).toNat ≤ 5000 / 2 ^ t.toInt.toNat
theorem zHalf {x t : Nat} (h : x ≤ 5000 / 2 ^ t) {y : Nat} (hy : y ≤ x / 2) : y ≤ 5000 / 2 ^ (t + 1) := by
  rw [Nat.pow_succ, ← Nat.div_div_eq_div_mul]
  exact Nat.le_trans hy (Nat.div_le_div_right h)
theorem xat_in {n : Nat} {i : Int32} {f : Nat → Int32} (hn : n < 2 ^ 31) (h0 : 0 ≤ i.toInt) (h1 : i.toInt < (n : Int)) : xat n f i = f i.toInt.toNat := by
  have z0 : (0 : Int32).toInt = 0 := by decide +kernel
  have zn : (nI n).toInt = n := nI_toInt hn
  unfold xat
  rw [if_neg (fun w => by have := Int32.lt_iff_toInt_lt.mp w; omega), if_neg (fun w => by have := Int32.le_iff_toInt_le.mp w; omega)]
  rfl
theorem xput_in {n : Nat} {i v : Int32} {f : Nat → Int32} (hn : n < 2 ^ 31) (h0 : 0 ≤ i.toInt) (h1 : i.toInt < (n : Int)) : xput n f i v = upd f i.toInt.toNat v := by
  have z0 : (0 : Int32).toInt = 0 := by decide +kernel
  have zn : (nI n).toInt = n := nI_toInt hn
  unfold xput
  rw [if_neg (fun w => by have := Int32.lt_iff_toInt_lt.mp w; omega), if_neg (fun w => by have := Int32.le_iff_toInt_le.mp w; omega)]
  rfl
theorem zIxI.ini {f : Nat → Int32} {n b hi : Int32} (e : hi = n) : zIxI f n b 0 hi 0 := fun A B hz hl hA hB => by
  have z0 : (0 : Int32).toInt = 0 := by decide +kernel
  have p0 : 5000 / 2 ^ (0 : Int).toNat = 5000 := by decide
  have hn := hz.1
  rw [List.length_append] at hn
  rw [e, z0, p0]
  exact ⟨by omega, by omega, by omega, by omega, by omega, by omega, by omega⟩
theorem zIxI.bd {f : Nat → Int32} {n b lo hi t s m : Int32} {A B : List Nat} (h : zIxI f n b lo hi t) (ct : ¬ 32 ≤ t) (c : ¬ hi ≤ lo) (es : s = lo + hi) (em : m = s / 2) (hz : zA f n (A ++ B)) (hl : A.length + B.length ≤ 5000) (hA : ∀ x, x ∈ A → (x : Int) < b.toInt) (hB : ∀ x, x ∈ B → b.toInt ≤ (x : Int)) : n.toInt = (A.length : Int) + (B.length : Int) ∧ m.toInt = (lo.toInt + hi.toInt) / 2 ∧ (t + 1).toInt = t.toInt + 1 ∧ t.toInt < 32 ∧ lo.toInt < hi.toInt ∧ xat 5000 f m = f m.toInt.toNat ∧ m.toInt.toNat < 5000 := by
  obtain ⟨a1, a2, a3, a4, a5, a6, a7⟩ := h A B hz hl hA hB
  have hn := hz.1
  rw [List.length_append] at hn
  have c1 := Int32.lt_iff_toInt_lt.mp (Int32.not_le.mp c)
  have c2 := Int32.lt_iff_toInt_lt.mp (Int32.not_le.mp ct)
  have z32 : (32 : Int32).toInt = 32 := by decide +kernel
  have s1 : s.toInt = lo.toInt + hi.toInt := tadd es rfl rfl (by omega) (by omega)
  have m1 : m.toInt = s.toInt / 2 := tdiv' em rfl (by decide +kernel : (2 : Int32).toInt = 2) (by omega) (by omega)
  have t2 : (t + 1).toInt = t.toInt + 1 := tadd rfl rfl (by decide +kernel : (1 : Int32).toInt = 1) (by omega) (by omega)
  exact ⟨by omega, by omega, t2, by omega, c1, xat_in (by decide) (by omega) (by omega), by omega⟩
theorem zIxI.lo {f : Nat → Int32} {n b lo hi t s m k : Int32} (h : zIxI f n b lo hi t) (ct : ¬ 32 ≤ t) (c : ¬ hi ≤ lo) (es : s = lo + hi) (em : m = s / 2) (ek : k = xat 5000 f m) (ck : ¬ b ≤ k) : zIxI f n b (m + 1) hi (t + 1) := fun A B hz hl hA hB => by
  obtain ⟨b1, b2, b3, b4, b5, b6, b7⟩ := h.bd ct c es em hz hl hA hB
  obtain ⟨a1, a2, a3, a4, a5, a6, a7⟩ := h A B hz hl hA hB
  have c3 := Int32.lt_iff_toInt_lt.mp (Int32.not_le.mp ck)
  have m2 : (m + 1).toInt = m.toInt + 1 := tadd rfl rfl (by decide +kernel : (1 : Int32).toInt = 1) (by omega) (by omega)
  have hq := (zA.lt hz hA hB (i := m.toInt.toNat) (by omega)).mp (by rw [← b6, ← ek]; exact c3)
  refine ⟨by omega, by omega, by omega, by omega, by omega, by omega, ?_⟩
  rw [b3, show (t.toInt + 1).toNat = t.toInt.toNat + 1 by omega]
  exact zHalf a7 (by omega)
theorem zIxI.hi {f : Nat → Int32} {n b lo hi t s m k : Int32} (h : zIxI f n b lo hi t) (ct : ¬ 32 ≤ t) (c : ¬ hi ≤ lo) (es : s = lo + hi) (em : m = s / 2) (ek : k = xat 5000 f m) (ck : b ≤ k) : zIxI f n b lo m (t + 1) := fun A B hz hl hA hB => by
  obtain ⟨b1, b2, b3, b4, b5, b6, b7⟩ := h.bd ct c es em hz hl hA hB
  obtain ⟨a1, a2, a3, a4, a5, a6, a7⟩ := h A B hz hl hA hB
  have c3 := Int32.le_iff_toInt_le.mp ck
  have hq : ¬ m.toInt.toNat < A.length := fun w => by
    have q := (zA.lt hz hA hB (i := m.toInt.toNat) (by omega)).mpr w
    rw [← b6, ← ek] at q
    omega
  refine ⟨by omega, by omega, by omega, by omega, by omega, by omega, ?_⟩
  rw [b3, show (t.toInt + 1).toNat = t.toInt.toNat + 1 by omega]
  exact zHalf a7 (by omega)
theorem zIxI.fin {f : Nat → Int32} {n b lo hi t : Int32} (h : zIxI f n b lo hi t) (c : 32 ≤ t ∨ hi ≤ lo) : zIdx f n b.toInt lo.toInt := fun A B hz hl hA hB => by
  obtain ⟨a1, a2, a3, a4, a5, a6, a7⟩ := h A B hz hl hA hB
  have z32 : (32 : Int32).toInt = 32 := by decide +kernel
  rcases c with c | c
  · have c1 := Int32.le_iff_toInt_le.mp c
    rw [show t.toInt.toNat = 32 by omega, show 5000 / 2 ^ 32 = 0 by decide] at a7
    omega
  · have c1 := Int32.le_iff_toInt_le.mp c
    omega
theorem zIdx.E {f : Nat → Int32} {n : Int32} {b r : Int} {E : Nat → List Nat} {x : Nat} (h : zIdx f n b r) (h8 : zK8 E) (hz : zA f n (zF E 0 zT)) (hl : (zF E 0 zT).length ≤ 5000) (hx : x ≤ zT) (hb : b = 8 * (x : Int)) : r = ((zF E 0 x).length : Int) := by
  have e := zF_cut (E := E) hx
  refine h _ _ (by rw [← e]; exact hz) (by rw [← List.length_append, ← e]; exact hl) (fun y hy => ?_) (fun y hy => ?_)
  · have q := zF_mem h8 _ hy
    omega
  · have q := zF_mem h8 _ hy
    omega
/-- what a slide does, in bounds -/
theorem xsl_k {N0 N1 : Nat} {f g : Nat → Int32} {sp dp n : Int32} (hN0 : N0 < 2 ^ 31) (hN1 : N1 < 2 ^ 31) (h1 : 0 ≤ sp.toInt) (h2 : 0 ≤ dp.toInt) (h3 : 0 ≤ n.toInt) (h4 : sp.toInt + n.toInt ≤ (N0 : Int)) (h5 : dp.toInt + n.toInt ≤ (N1 : Int)) (k : Nat) : xsl N0 N1 f g sp dp n k = if dp.toInt.toNat ≤ k ∧ k < dp.toInt.toNat + n.toInt.toNat then f (sp.toInt.toNat + (k - dp.toInt.toNat)) else g k := by
  have z0 : (0 : Int32).toInt = 0 := by decide +kernel
  have q0 : (nI N0).toInt = N0 := nI_toInt hN0
  have q1 : (nI N1).toInt = N1 := nI_toInt hN1
  have s0 : (nI N0 - n).toInt = N0 - n.toInt := tsub rfl q0 rfl (by omega) (by omega)
  have s1 : (nI N1 - n).toInt = N1 - n.toInt := tsub rfl q1 rfl (by omega) (by omega)
  unfold xsl
  rw [if_neg (fun w => by have := Int32.lt_iff_toInt_lt.mp w; omega), if_neg (fun w => by have := Int32.lt_iff_toInt_lt.mp w; omega)]
  by_cases c : n ≤ 0
  · have c1 := Int32.le_iff_toInt_le.mp c
    rw [if_pos c, if_neg (by omega)]
  · rw [if_neg c, if_neg (fun w => by have := Int32.lt_iff_toInt_lt.mp w; omega), if_neg (fun w => by have := Int32.lt_iff_toInt_lt.mp w; omega)]
    rfl
theorem zA.rem {f : Nat → Int32} {n n' fr to c : Int32} {A B C : List Nat} (h : zA f n (A ++ (B ++ C))) (hl : A.length + (B.length + C.length) ≤ 5000) (h1 : fr.toInt = (A.length : Int)) (h2 : to.toInt = (A.length : Int) + (B.length : Int)) (ec : c.toInt = (C.length : Int)) (hn : n'.toInt = (A.length : Int) + (C.length : Int)) : zA (xsl 5000 5000 f f to fr c) n' (A ++ C) := by
  refine ⟨by rw [List.length_append]; omega, fun i x hx => ?_⟩
  have hi := zlt hx
  rw [List.length_append] at hi
  rw [xsl_k (by decide) (by decide) (by omega) (by omega) (by omega) (by omega) (by omega)]
  by_cases d : i < A.length
  · rw [if_neg (by omega)]
    rw [zL_ d] at hx
    exact h.2 i x (by rw [zL_ d]; exact hx)
  · obtain ⟨j, rfl⟩ : ∃ j, i = A.length + j := ⟨i - A.length, by omega⟩
    rw [zR_] at hx
    rw [if_pos (by omega), show to.toInt.toNat + (A.length + j - fr.toInt.toNat) = A.length + (B.length + j) by omega]
    exact h.2 _ x (by rw [zR_, zR_]; exact hx)
theorem zA.ins {f : Nat → Int32} {n n' i i2 c k : Int32} {A B : List Nat} {y : Nat} (h : zA f n (A ++ B)) (hl : A.length + B.length ≤ 4999) (h1 : i.toInt = (A.length : Int)) (h2 : i2.toInt = (A.length : Int) + 1) (ec : c.toInt = (B.length : Int)) (hn : n'.toInt = n.toInt + 1) (hk : k.toInt = (y : Int)) : zA (xput 5000 (xsl 5000 5000 f f i i2 c) i k) n' (A ++ y :: B) := by
  have hn0 := h.1
  rw [List.length_append] at hn0
  refine ⟨by rw [List.length_append, List.length_cons]; omega, fun j x hx => ?_⟩
  rw [xput_in (by decide) (by omega) (by omega)]
  show (if j = i.toInt.toNat then k else xsl 5000 5000 f f i i2 c j).toInt = _
  by_cases e : j = A.length
  · rw [if_pos (by omega), hk]
    rw [e, show (A ++ y :: B)[A.length]? = some y from by have q := zR_ (A := A) (B := y :: B) (j := 0); exact q] at hx
    rw [Option.some.inj hx]
  · rw [if_neg (by omega), xsl_k (by decide) (by decide) (by omega) (by omega) (by omega) (by omega) (by omega)]
    by_cases d : j < A.length
    · rw [zL_ d] at hx
      rw [if_neg (by omega)]
      exact h.2 j x (by rw [zL_ d]; exact hx)
    · obtain ⟨p, rfl⟩ : ∃ p, j = A.length + (p + 1) := ⟨j - A.length - 1, by omega⟩
      have hj := zlt hx
      rw [List.length_append, List.length_cons] at hj
      rw [zR_, List.getElem?_cons_succ] at hx
      rw [if_pos (by omega), show i.toInt.toNat + (A.length + (p + 1) - i2.toInt.toNat) = A.length + p by omega]
      exact h.2 _ x (by rw [zR_]; exact hx)
/-- a gap that is being filled: i of it are in their places -/
def zGp (f : Nat → Int32) (A M C : List Nat) (i : Nat) : Prop := (∀ (j x : Nat), A[j]? = some x → (f j).toInt = (x : Int)) ∧ (∀ (j x : Nat), j < i → M[j]? = some x → (f (A.length + j)).toInt = (x : Int)) ∧ ∀ (j x : Nat), C[j]? = some x → (f (A.length + (M.length + j))).toInt = (x : Int)
theorem zGp.ini {f : Nat → Int32} {n c to to2 : Int32} {A M C : List Nat} (h : zA f n (A ++ C)) (hl : A.length + (M.length + C.length) ≤ 5000) (h1 : to.toInt = (A.length : Int)) (h2 : to2.toInt = (A.length : Int) + (M.length : Int)) (ec : c.toInt = (C.length : Int)) : zGp (xsl 5000 5000 f f to to2 c) A M C 0 := by
  refine ⟨fun j x hx => ?_, fun j x hj => absurd hj (Nat.not_lt_zero _), fun j x hx => ?_⟩
  · have hj := zlt hx
    rw [xsl_k (by decide) (by decide) (by omega) (by omega) (by omega) (by omega) (by omega), if_neg (by omega)]
    exact h.2 j x (by rw [zL_ hj]; exact hx)
  · have hj := zlt hx
    rw [xsl_k (by decide) (by decide) (by omega) (by omega) (by omega) (by omega) (by omega), if_pos (by omega), show to.toInt.toNat + (A.length + (M.length + j) - to2.toInt.toNat) = A.length + j by omega]
    exact h.2 _ x (by rw [zR_]; exact hx)
theorem zGp.step {f : Nat → Int32} {A M C : List Nat} {i : Nat} {p v : Int32} {y : Nat} (h : zGp f A M C i) (hl : A.length + (M.length + C.length) ≤ 5000) (hy : M[i]? = some y) (hp : p.toInt = (A.length : Int) + (i : Int)) (hv : v.toInt = (y : Int)) : zGp (xput 5000 f p v) A M C (i + 1) := by
  have hi := zlt hy
  rw [xput_in (by decide) (by omega) (by omega)]
  refine ⟨fun j x hx => ?_, fun j x hj hx => ?_, fun j x hx => ?_⟩
  · have hj := zlt hx
    show (if j = p.toInt.toNat then v else f j).toInt = _
    rw [if_neg (by omega)]; exact h.1 j x hx
  · show (if A.length + j = p.toInt.toNat then v else f (A.length + j)).toInt = _
    by_cases e : j = i
    · rw [if_pos (by omega), hv]
      rw [e, hy] at hx
      rw [Option.some.inj hx]
    · rw [if_neg (by omega)]; exact h.2.1 j x (by omega) hx
  · show (if A.length + (M.length + j) = p.toInt.toNat then v else f (A.length + (M.length + j))).toInt = _
    rw [if_neg (by omega)]; exact h.2.2 j x hx
theorem zGp.fin {f : Nat → Int32} {n : Int32} {A M C : List Nat} {i : Nat} (h : zGp f A M C i) (hi : M.length ≤ i) (hn : n.toInt = (A.length : Int) + ((M.length : Int) + (C.length : Int))) : zA f n (A ++ (M ++ C)) := by
  refine ⟨by rw [List.length_append, List.length_append]; omega, fun j x hx => ?_⟩
  by_cases a : j < A.length
  · rw [zL_ a] at hx; exact h.1 j x hx
  · obtain ⟨k, rfl⟩ : ∃ k, j = A.length + k := ⟨j - A.length, by omega⟩
    rw [zR_] at hx
    by_cases b : k < M.length
    · rw [zL_ b] at hx; exact h.2.1 k x (by omega) hx
    · obtain ⟨q, rfl⟩ : ∃ q, k = M.length + q := ⟨k - M.length, by omega⟩
      rw [zR_] at hx; exact h.2.2 q x hx
/-! the desk's EVENTS -/
def zEc (S : yS) (d : yD) (e : Nat) (E : Nat → List Nat) : Prop := zK8 E ∧ zA (d.2.2.2.1 (S.2.2.1 e 0)) (d.1 e 2) (zF E 0 zT) ∧ (zF E 0 zT).length ≤ 5000
/-- the number of a minute of a port -/
abbrev zx (p m : Int32) : Nat := 129600 * p.toInt.toNat + m.toInt.toNat
theorem zkey {p m k z1 z2 z3 z : Int32} (e1 : z1 = p * 129600) (e2 : z2 = z1 + m) (e3 : z3 = z2 * 8) (e : z = z3 + k) (p0 : 0 ≤ p.toInt) (p7 : p.toInt ≤ 7) (m0 : 0 ≤ m.toInt) (m1 : m.toInt ≤ 129600) (k0 : 0 ≤ k.toInt) (k7 : k.toInt ≤ 7) : z.toInt = 8 * (zx p m : Int) + k.toInt := by
  have a1 : z1.toInt = p.toInt * 129600 := tmul e1 rfl (by decide +kernel : (129600 : Int32).toInt = 129600) (by omega) (by omega)
  have a2 : z2.toInt = z1.toInt + m.toInt := tadd e2 rfl rfl (by omega) (by omega)
  have a3 : z3.toInt = z2.toInt * 8 := tmul e3 rfl (by decide +kernel : (8 : Int32).toInt = 8) (by omega) (by omega)
  have a4 : z.toInt = z3.toInt + k.toInt := tadd e rfl rfl (by omega) (by omega)
  show _ = 8 * ((129600 * p.toInt.toNat + m.toInt.toNat : Nat) : Int) + _
  omega
/-- how many lie ahead of a minute -/
def zPos (S : yS) (d : yD) (e : Nat) (p m r : Int32) : Prop := ∀ E, zEc S d e E → 0 ≤ p.toInt → p.toInt ≤ 7 → 0 ≤ m.toInt → m.toInt ≤ 129600 → r.toInt = ((zF E 0 (zx p m)).length : Int)
theorem zPos.of {S : yS} {d : yD} {e : Nat} {p m b r : Int32} (h : zIdx (d.2.2.2.1 (S.2.2.1 e 0)) (d.1 e 2) b.toInt r.toInt) (hb : b = (p * 129600 + m) * 8 + 0) : zPos S d e p m r := fun E hE p0 p7 m0 m1 => by
  have z0 : (0 : Int32).toInt = 0 := by decide +kernel
  have k := zkey rfl rfl rfl hb p0 p7 m0 m1 (by omega) (by omega)
  have hx : zx p m ≤ zT := by
    have q := zT_eq
    show 129600 * p.toInt.toNat + m.toInt.toNat ≤ _
    omega
  exact h.E hE.1 hE.2.1 hE.2.2 hx (by omega)
theorem zxadd {p m n z : Int32} (e : z = m + n) (m0 : 0 ≤ m.toInt) (n0 : 0 ≤ n.toInt) (hmn : m.toInt + n.toInt ≤ 129600) : zx p z = zx p m + n.toInt.toNat ∧ z.toInt = m.toInt + n.toInt := by
  have a : z.toInt = m.toInt + n.toInt := tadd e rfl rfl (by omega) (by omega)
  exact ⟨by show 129600 * p.toInt.toNat + z.toInt.toNat = 129600 * p.toInt.toNat + m.toInt.toNat + _; omega, a⟩
theorem zxle {p m : Int32} (p7 : p.toInt ≤ 7) (m1 : m.toInt ≤ 129600) : zx p m ≤ zT := by
  have q := zT_eq
  show 129600 * p.toInt.toNat + m.toInt.toNat ≤ _
  omega
/-- other EVENTS stand -/
def zEo (S : yS) (d u : yD) (e : Nat) : Prop := ∀ a, a ∈ S.1 → S.2.1 a = 2 → a ≠ e → u.1 a = d.1 a ∧ u.2.2.2.1 (S.2.2.1 a 0) = d.2.2.2.1 (S.2.2.1 a 0)
theorem zEc.cg {S : yS} {d u : yD} {e : Nat} {E : Nat → List Nat} (h : zEc S d e E) (h1 : u.1 e 2 = d.1 e 2) (h2 : u.2.2.2.1 (S.2.2.1 e 0) = d.2.2.2.1 (S.2.2.1 e 0)) : zEc S u e E := by
  unfold zEc
  rw [h1, h2]
  exact h
theorem zEc.ag {S : yS} {d u : yD} {e : Nat} {E : Nat → List Nat} {M : List Nat} (h : zEc S d e E) (hSh : ySh S) (he : e ∈ S.1) (hk : S.2.1 e = 2) (hg : yAg S M d u) (hM : 2 ∉ M ∧ 16 ∉ M) : zEc S u e E := by
  refine h.cg (congrFun (hg e (by rw [hk]; exact hM.1)).1 2) (hg _ ?_).2.2.2.1
  rw [(ySh.f2_0 hSh e he hk).2]
  exact hM.2
theorem zEo.rf {S : yS} {d : yD} {e : Nat} : zEo S d d e := fun _ _ _ _ => ⟨rfl, rfl⟩
theorem zEo.ag {S : yS} {d u v : yD} {e : Nat} {M : List Nat} (h : zEo S d u e) (hSh : ySh S) (hg : yAg S M u v) (hM : 2 ∉ M ∧ 16 ∉ M) : zEo S d v e := fun a ha hk hn => by
  have q := h a ha hk hn
  refine ⟨(hg a (by rw [hk]; exact hM.1)).1.trans q.1, Eq.trans (hg _ ?_).2.2.2.1 q.2⟩
  rw [(ySh.f2_0 hSh a ha hk).2]
  exact hM.2
theorem zEo.tr {S : yS} {d u v : yD} {e : Nat} (h : zEo S d u e) (h2 : zEo S u v e) : zEo S d v e := fun a ha hk hn => ⟨(h2 a ha hk hn).1.trans (h a ha hk hn).1, (h2 a ha hk hn).2.trans (h a ha hk hn).2⟩
/-- the keys, or how many, are written -/
theorem zEo.k {S : yS} {d u v : yD} {e : Nat} {f : Nat → Int32} (h : zEo S d u e) (hSh : ySh S) (he : e ∈ S.1) (hk : S.2.1 e = 2) (ev : v = ycs u (S.2.2.1 e 0) f) : zEo S d v e := fun a ha hka hn => by
  have q := h a ha hka hn
  rw [ev]
  refine ⟨q.1, Eq.trans ?_ q.2⟩
  show va_up u.2.2.2.1 (S.2.2.1 e 0) f (S.2.2.1 a 0) = _
  rw [va_up_ne _ _ (fun w => hn (ySh.j2_0 hSh a e ha he hka hk w))]
theorem zEo.s {S : yS} {d u v : yD} {e : Nat} {f : Nat → Int32} (h : zEo S d u e) (hSh : ySh S) (he : e ∈ S.1) (hk : S.2.1 e = 2) (ev : v = ycs u (S.2.2.1 e 1) f) : zEo S d v e := fun a ha hka hn => by
  have q := h a ha hka hn
  rw [ev]
  refine ⟨q.1, Eq.trans ?_ q.2⟩
  show va_up u.2.2.2.1 (S.2.2.1 e 1) f (S.2.2.1 a 0) = _
  rw [va_up_ne _ _ (fun w => by
    have c0 := (ySh.f2_0 hSh a ha hka).2
    rw [w, (ySh.f2_1 hSh e he hk).2] at c0
    cases c0)]
theorem zEo.i {S : yS} {d u v : yD} {e k : Nat} {x : Int32} (h : zEo S d u e) (ev : v = yi u e k x) : zEo S d v e := fun a ha hka hn => by
  have q := h a ha hka hn
  rw [ev]
  exact ⟨Eq.trans (va_up_ne _ _ hn) q.1, q.2⟩
