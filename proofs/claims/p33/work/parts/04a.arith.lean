/-! whole numbers for the ints of the reference's side -/
theorem tadd {a b z : Int32} {A B : Int} (e : z = a + b) (ha : a.toInt = A) (hb : b.toInt = B) (h1 : -2147483648 ≤ A + B) (h2 : A + B < 2147483648) : z.toInt = A + B := by
  rw [e, Int32.toInt_add, ha, hb]; exact Int.bmod_eq_of_le (by omega) (by omega)
theorem tsub {a b z : Int32} {A B : Int} (e : z = a - b) (ha : a.toInt = A) (hb : b.toInt = B) (h1 : -2147483648 ≤ A - B) (h2 : A - B < 2147483648) : z.toInt = A - B := by
  rw [e, Int32.toInt_sub, ha, hb]; exact Int.bmod_eq_of_le (by omega) (by omega)
theorem tmul {a b z : Int32} {A B : Int} (e : z = a * b) (ha : a.toInt = A) (hb : b.toInt = B) (h1 : -2147483648 ≤ A * B) (h2 : A * B < 2147483648) : z.toInt = A * B := by
  rw [e, Int32.toInt_mul, ha, hb]; exact Int.bmod_eq_of_le (by omega) (by omega)
theorem tdiv' {a b z : Int32} {A B : Int} (e : z = a / b) (ha : a.toInt = A) (hb : b.toInt = B) (h0 : 0 ≤ A) (h1 : 0 < B) : z.toInt = A / B := by
  have hA : A < 2147483648 := by rw [← ha]; exact a.toInt_lt
  have hq : A.tdiv B = A / B := Int.tdiv_eq_ediv_of_nonneg h0
  have hl : 0 ≤ A / B := Int.ediv_nonneg h0 (by omega)
  have hu : A / B ≤ A := Int.ediv_le_self _ h0
  rw [e, Int32.toInt_div, ha, hb, hq]; exact Int.bmod_eq_of_le (by omega) (by omega)
theorem trem {a b z : Int32} {A B : Int} (e : z = a - a / b * b) (ha : a.toInt = A) (hb : b.toInt = B) (h0 : 0 ≤ A) (h1 : 0 < B) : z.toInt = A % B := by
  have hA : A < 2147483648 := by rw [← ha]; exact a.toInt_lt
  have hd := tdiv' (z := a / b) rfl ha hb h0 h1
  have hl : 0 ≤ A / B := Int.ediv_nonneg h0 (by omega)
  have hm : A / B * B ≤ A := Int.ediv_mul_le _ (by omega)
  have hm0 : 0 ≤ A / B * B := Int.mul_nonneg hl (by omega)
  have hp := tmul (z := a / b * b) rfl hd hb (by omega) (by omega)
  have hs := tsub e ha hp (by omega) (by omega)
  rw [hs, Int.emod_def, Int.mul_comm B]
theorem flt {a b : Int32} {A B : Int} (ha : a.toInt = A) (hb : b.toInt = B) (h : a < b) : A < B := by rw [← ha, ← hb]; exact Int32.lt_iff_toInt_lt.mp h
theorem fnlt {a b : Int32} {A B : Int} (ha : a.toInt = A) (hb : b.toInt = B) (h : ¬ a < b) : B ≤ A := by rw [← ha, ← hb]; exact Int32.le_iff_toInt_le.mp (Int32.not_lt.mp h)
theorem fle {a b : Int32} {A B : Int} (ha : a.toInt = A) (hb : b.toInt = B) (h : a ≤ b) : A ≤ B := by rw [← ha, ← hb]; exact Int32.le_iff_toInt_le.mp h
theorem fnle {a b : Int32} {A B : Int} (ha : a.toInt = A) (hb : b.toInt = B) (h : ¬ a ≤ b) : B < A := by rw [← ha, ← hb]; exact Int32.lt_iff_toInt_lt.mp (Int32.not_le.mp h)
theorem feq {a b : Int32} {A B : Int} (ha : a.toInt = A) (hb : b.toInt = B) (h : a = b) : A = B := by rw [← ha, ← hb, h]
theorem fne {a b : Int32} {A B : Int} (ha : a.toInt = A) (hb : b.toInt = B) (h : ¬ a = b) : A ≠ B := by
  rw [← ha, ← hb]; exact fun q => h (Int32.toInt_inj.mp q)
theorem xinT {i : Int32} {n : Nat} (N : Nat) (e : n = N) (h0 : 0 ≤ i.toInt) (h1 : i.toInt < (N : Int)) : vp_in i n := by
  rw [e, vp_in_iff]; omega
/-- what a whole slide does -/
def xsl (n0 n1 : Nat) (f g : Nat → Int32) (sp dp n : Int32) : Nat → Int32 := if sp < 0 then g else if dp < 0 then g else if n ≤ 0 then g else if nI n0 - n < sp then g else if nI n1 - n < dp then g else va_cpy f g sp.toNatClampNeg dp.toNatClampNeg n.toNatClampNeg
theorem xsl_all {n : Nat} {f g : Nat → Int32} (h0 : 0 < n) (h1 : n < 2 ^ 31) {k : Nat} (hk : k < n) : xsl n n f g 0 0 (nI n) k = f k := by
  have z : (0 : Int32).toNatClampNeg = 0 := by decide +kernel
  have hn : (nI n).toInt = n := nI_toInt h1
  have hc : (nI n).toNatClampNeg = n := by
    show (nI n).toInt.toNat = n
    omega
  unfold xsl
  rw [if_neg (by decide), if_neg (by decide), if_neg (fun q => by have := Int32.le_iff_toInt_le.mp q; rw [hn, show (0 : Int32).toInt = 0 by decide +kernel] at this; omega), Int32.sub_self, if_neg (by decide), if_neg (by decide), z, hc]
  show (if 0 ≤ k ∧ k < 0 + n then f (0 + (k - 0)) else g k) = f k
  rw [if_pos ⟨Nat.zero_le _, by omega⟩]
  congr 1
  omega
/-! conditions of longs -/
theorem jlt {a b : Int64} {z : Int32} (e : z = lg_cmp a b) (h : z < 0) : a.toInt < b.toInt := by
  rw [e] at h
  unfold lg_cmp at h
  by_cases h1 : b < a
  · rw [if_pos h1] at h; exact absurd h (by decide +kernel)
  · rw [if_neg h1] at h
    by_cases h2 : a = b
    · rw [if_pos h2] at h; exact absurd h (by decide +kernel)
    · exact Int64.lt_iff_toInt_lt.mp (Int64.lt_of_le_of_ne (Int64.not_lt.mp h1) h2)
theorem jnge {a b : Int64} {z : Int32} (e : z = lg_cmp a b) (h : ¬ 0 ≤ z) : a.toInt < b.toInt := jlt e (Int32.not_le.mp h)
theorem jge {a b : Int64} {z : Int32} (e : z = lg_cmp a b) (h : 0 ≤ z) : b.toInt ≤ a.toInt := by
  rw [e] at h
  unfold lg_cmp at h
  by_cases h1 : b < a
  · exact Int.le_of_lt (Int64.lt_iff_toInt_lt.mp h1)
  · rw [if_neg h1] at h
    by_cases h2 : a = b
    · rw [h2]; exact Int.le_refl _
    · rw [if_neg h2] at h; exact absurd h (by decide +kernel)
theorem jnlt {a b : Int64} {z : Int32} (e : z = lg_cmp a b) (h : ¬ z < 0) : b.toInt ≤ a.toInt := jge e (Int32.not_lt.mp h)
theorem jgt {a b : Int64} {z : Int32} (e : z = lg_cmp a b) (h : 0 < z) : b.toInt < a.toInt := by
  rw [e] at h
  unfold lg_cmp at h
  by_cases h1 : b < a
  · exact Int64.lt_iff_toInt_lt.mp h1
  · rw [if_neg h1] at h
    by_cases h2 : a = b
    · rw [if_pos h2] at h; exact absurd h (by decide +kernel)
    · rw [if_neg h2] at h; exact absurd h (by decide +kernel)
theorem jnle {a b : Int64} {z : Int32} (e : z = lg_cmp a b) (h : ¬ z ≤ 0) : b.toInt < a.toInt := jgt e (Int32.not_le.mp h)
theorem jle {a b : Int64} {z : Int32} (e : z = lg_cmp a b) (h : z ≤ 0) : a.toInt ≤ b.toInt := by
  rw [e] at h
  unfold lg_cmp at h
  by_cases h1 : b < a
  · rw [if_pos h1] at h; exact absurd h (by decide +kernel)
  · exact Int64.le_iff_toInt_le.mp (Int64.not_lt.mp h1)
theorem jngt {a b : Int64} {z : Int32} (e : z = lg_cmp a b) (h : ¬ 0 < z) : a.toInt ≤ b.toInt := jle e (Int32.not_lt.mp h)
theorem jeq {a b : Int64} {z : Int32} (e : z = lg_cmp a b) (h : z = 0) : a.toInt = b.toInt := by
  have h1 := jge e (by rw [h]; decide)
  have h2 := jle e (by rw [h]; decide)
  omega
theorem jnne {a b : Int64} {z : Int32} (e : z = lg_cmp a b) (h : ¬ ¬ z = 0) : a.toInt = b.toInt := jeq e (Classical.byContradiction h)
theorem jne {a b : Int64} {z : Int32} (e : z = lg_cmp a b) (h : ¬ z = 0) : a.toInt ≠ b.toInt := fun q => by
  have hab : a = b := Int64.toInt_inj.mp q
  apply h
  rw [e, hab]
  unfold lg_cmp
  rw [if_neg (fun w => Int64.lt_irrefl w), if_pos rfl]
theorem jneq {a b : Int64} {z : Int32} (e : z = lg_cmp a b) (h : ¬ z = 0) : a.toInt ≠ b.toInt := jne e h
