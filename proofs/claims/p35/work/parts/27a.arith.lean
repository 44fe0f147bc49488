theorem xkp0 {f : Nat → Int32} {a b c e : Int32} : upd (upd (upd (upd f (0 : Int32).toNatClampNeg a) (1 : Int32).toNatClampNeg b) (2 : Int32).toNatClampNeg c) (3 : Int32).toNatClampNeg e 0 = a := by
  have h0 : (0 : Int32).toNatClampNeg = 0 := by decide +kernel
  have h1 : (1 : Int32).toNatClampNeg = 1 := by decide +kernel
  have h2 : (2 : Int32).toNatClampNeg = 2 := by decide +kernel
  have h3 : (3 : Int32).toNatClampNeg = 3 := by decide +kernel
  rw [h0, h1, h2, h3]
  rfl
theorem xdnl2 {i n z : Int32} (e : z = i + (-1)) (h : ¬ i ≤ n) : (z.toInt + 2147483648).toNat < (i.toInt + 2147483648).toNat := by
  rw [e]; exact xdnl h
