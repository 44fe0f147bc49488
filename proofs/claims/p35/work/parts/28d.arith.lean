theorem yK.j {F : List Nat} {d d1 : yD} {m a k : Nat} {v : Int64} (h : yK F d d1 m) : yK F d (yj d1 a k v) m := h
theorem yMI.j {S : yS} {d : yD} {m a k : Nat} {v : Int64} (h : yMI S d m) : yMI S (yj d a k v) m := h
