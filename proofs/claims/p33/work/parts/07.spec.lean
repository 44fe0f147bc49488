/-! what the reasons are, as functions (the desk's and the reference's both come to these) -/
def xcr (n c : Int32) : Int32 := if c < 0 ∨ 39 < c then 1 else if c < n then 0 else 2
def xplr (n c pl : Int32) : Int32 := if (c < 0 ∨ 39 < c) ∨ (pl < 0 ∨ 59 < pl) then 1 else if c < n then 0 else 2
def xthr (n k c pl : Int32) : Int32 := if xplr n c pl = 0 then (if k = 6 then 2 else 0) else xplr n c pl
def xter (n k c pl : Int32) : Int32 := if xthr n k c pl = 0 then (if k = 5 then 3 else 0) else xthr n k c pl
def xpr (days p : Int32) : Int32 := if p < 0 ∨ 7 < p then 1 else if 0 < days then 0 else 2
theorem xcr_1 {n c w : Int32} (h : (w = 1 ∧ ¬ c < 0 ∧ ¬ 39 < c) ∨ (w = 0 ∧ (c < 0 ∨ 39 < c))) (hw : w = 0) : 1 = xcr n c := by
  rcases h with ⟨h, -⟩ | ⟨-, h⟩
  · exact absurd (h.symm.trans hw) (by decide +kernel)
  · exact (if_pos h).symm
theorem xcr_0 {n c w : Int32} (h : (w = 1 ∧ ¬ c < 0 ∧ ¬ 39 < c) ∨ (w = 0 ∧ (c < 0 ∨ 39 < c))) (hw : ¬ w = 0) (hc : ¬ n ≤ c) : 0 = xcr n c := by
  rcases h with ⟨-, h1, h2⟩ | ⟨h, -⟩
  · unfold xcr
    rw [if_neg (fun q => q.elim h1 h2), if_pos (Int32.not_le.mp hc)]
  · exact absurd h hw
theorem xcr_2 {n c w : Int32} (h : (w = 1 ∧ ¬ c < 0 ∧ ¬ 39 < c) ∨ (w = 0 ∧ (c < 0 ∨ 39 < c))) (hw : ¬ w = 0) (hc : n ≤ c) : 2 = xcr n c := by
  rcases h with ⟨-, h1, h2⟩ | ⟨h, -⟩
  · unfold xcr
    rw [if_neg (fun q => q.elim h1 h2), if_neg (Int32.not_lt.mpr hc)]
  · exact absurd h hw
theorem xplr_of {n c pl w : Int32} (h : (w = 1 ∧ ¬ pl < 0 ∧ ¬ 59 < pl) ∨ (w = 0 ∧ (pl < 0 ∨ 59 < pl))) : xleast (xcr n c) (xnum w) = xplr n c pl := by
  unfold xcr xplr
  rcases h with ⟨rfl, h1, h2⟩ | ⟨rfl, h⟩
  · have hp : ¬ (pl < 0 ∨ 59 < pl) := fun q => q.elim h1 h2
    by_cases hc : c < 0 ∨ 39 < c
    · rw [if_pos hc, if_pos (Or.inl hc)]; decide +kernel
    · have hq : ¬ ((c < 0 ∨ 39 < c) ∨ (pl < 0 ∨ 59 < pl)) := fun q => q.elim hc hp
      rw [if_neg hc, if_neg hq]
      by_cases hn : c < n
      · rw [if_pos hn]; decide +kernel
      · rw [if_neg hn]; decide +kernel
  · rw [if_pos (Or.inr h)]
    by_cases hc : c < 0 ∨ 39 < c
    · rw [if_pos hc]; decide +kernel
    · rw [if_neg hc]
      by_cases hn : c < n
      · rw [if_pos hn]; decide +kernel
      · rw [if_neg hn]; decide +kernel
theorem xthr_n {n k c pl r : Int32} (h : r = xplr n c pl) (hr : ¬ r = 0) : r = xthr n k c pl := by
  unfold xthr
  rw [if_neg (by rw [← h]; exact hr)]; exact h
theorem xthr_6 {n k c pl r z : Int32} (h : r = xplr n c pl) (hr : r = 0) (hk : z = k) (hz : z = 6) : 2 = xthr n k c pl := by
  unfold xthr
  rw [if_pos (by rw [← h]; exact hr), if_pos (by rw [← hk]; exact hz)]
theorem xthr_o {n k c pl r z : Int32} (h : r = xplr n c pl) (hr : r = 0) (hk : z = k) (hz : ¬ z = 6) : r = xthr n k c pl := by
  unfold xthr
  rw [if_pos (by rw [← h]; exact hr), if_neg (by rw [← hk]; exact hz)]; exact hr
theorem xter_n {n k c pl r : Int32} (h : r = xthr n k c pl) (hr : ¬ r = 0) : r = xter n k c pl := by
  unfold xter
  rw [if_neg (by rw [← h]; exact hr)]; exact h
theorem xter_5 {n k c pl r z : Int32} (h : r = xthr n k c pl) (hr : r = 0) (hk : z = k) (hz : z = 5) : 3 = xter n k c pl := by
  unfold xter
  rw [if_pos (by rw [← h]; exact hr), if_pos (by rw [← hk]; exact hz)]
theorem xter_o {n k c pl r z : Int32} (h : r = xthr n k c pl) (hr : r = 0) (hk : z = k) (hz : ¬ z = 5) : r = xter n k c pl := by
  unfold xter
  rw [if_pos (by rw [← h]; exact hr), if_neg (by rw [← hk]; exact hz)]; exact hr
/-- the PORT of a Book at a number -/
def yPA (S : yS) (b : Nat) (p : Int32) : Nat := if p < 0 ∨ 7 < p then S.2.2.1 b 4 else (S.2.2.2 (S.2.2.1 b 3) p.toNatClampNeg).getD 0
theorem x78 {p : Int32} : (8 : Int32) ≤ p ↔ 7 < p := by
  rw [Int32.le_iff_toInt_le, Int32.lt_iff_toInt_lt, show (8 : Int32).toInt = 8 by decide +kernel, show (7 : Int32).toInt = 7 by decide +kernel]
  omega
theorem yPA_o {S : yS} {b : Nat} {p : Int32} (h : p < 0 ∨ 8 ≤ p) : yPA S b p = S.2.2.1 b 4 := if_pos (h.imp id x78.mp)
theorem yPA_i {S : yS} {b y : Nat} {p : Int32} (h1 : ¬ p < 0) (h2 : ¬ 8 ≤ p) (hy : S.2.2.2 (S.2.2.1 b 3) p.toNatClampNeg = some y) : yPA S b p = y := by
  unfold yPA
  rw [if_neg (fun q => q.elim h1 (fun q => h2 (x78.mpr q))), hy]; rfl
theorem xpr_1 {n c w : Int32} (h : (w = 1 ∧ ¬ c < 0 ∧ ¬ 7 < c) ∨ (w = 0 ∧ (c < 0 ∨ 7 < c))) (hw : w = 0) : 1 = xpr n c := by
  rcases h with ⟨h, -⟩ | ⟨-, h⟩
  · exact absurd (h.symm.trans hw) (by decide +kernel)
  · exact (if_pos h).symm
theorem xpr_0 {n c w : Int32} (h : (w = 1 ∧ ¬ c < 0 ∧ ¬ 7 < c) ∨ (w = 0 ∧ (c < 0 ∨ 7 < c))) (hw : ¬ w = 0) (hc : ¬ n ≤ 0) : 0 = xpr n c := by
  rcases h with ⟨-, h1, h2⟩ | ⟨h, -⟩
  · unfold xpr
    rw [if_neg (fun q => q.elim h1 h2), if_pos (Int32.not_le.mp hc)]
  · exact absurd h hw
theorem xpr_2 {n c w : Int32} (h : (w = 1 ∧ ¬ c < 0 ∧ ¬ 7 < c) ∨ (w = 0 ∧ (c < 0 ∨ 7 < c))) (hw : ¬ w = 0) (hc : n ≤ 0) : 2 = xpr n c := by
  rcases h with ⟨-, h1, h2⟩ | ⟨h, -⟩
  · unfold xpr
    rw [if_neg (fun q => q.elim h1 h2), if_neg (Int32.not_lt.mpr hc)]
  · exact absurd h hw
