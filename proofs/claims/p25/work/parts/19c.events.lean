/-! the reference's EVENTS -/
def zD (P M K : Nat → Int32) (i x : Nat) : Prop := (P i).toInt = ((x / 1036800 : Nat) : Int) ∧ (M i).toInt = ((x / 8 % 129600 : Nat) : Int) ∧ (K i).toInt = ((x % 8 : Nat) : Int)
abbrev zDd (S : yS) (d : yD) (m i x : Nat) : Prop := zD (d.2.2.2.1 (S.2.2.1 m 15)) (d.2.2.2.1 (S.2.2.1 m 16)) (d.2.2.2.1 (S.2.2.1 m 17)) i x
def zEm (S : yS) (d : yD) (m : Nat) (E : Nat → List Nat) : Prop := zK8 E ∧ (d.1 m 1).toInt = ((zF E 0 zT).length : Int) ∧ ∀ (i x : Nat), (zF E 0 zT)[i]? = some x → zDd S d m i x
theorem zD.n {P M K : Nat → Int32} {i x : Nat} (h : zD P M K i x) (hx : x < 8294400) : ((x / 8 : Nat) : Int) = 129600 * (P i).toInt + (M i).toInt ∧ 0 ≤ (P i).toInt ∧ (P i).toInt ≤ 7 ∧ 0 ≤ (M i).toInt ∧ (M i).toInt ≤ 129599 ∧ 0 ≤ (K i).toInt ∧ (K i).toInt ≤ 7 ∧ (x : Int) = 8 * ((x / 8 : Nat) : Int) + (K i).toInt := by
  obtain ⟨a, b, c⟩ := h
  rw [a, b, c]
  omega
theorem zD.mk' {P M K : Nat → Int32} {i x : Nat} {p mm k : Int} (hp : (P i).toInt = p) (hm : (M i).toInt = mm) (hk : (K i).toInt = k) (m0 : 0 ≤ mm) (m1 : mm ≤ 129599) (k0 : 0 ≤ k) (k7 : k ≤ 7) (hx : (x : Int) = 8 * (129600 * p + mm) + k) : zD P M K i x := by
  refine ⟨?_, ?_, ?_⟩
  · rw [hp]; omega
  · rw [hm]; omega
  · rw [hk]; omega
theorem zFx {E : Nat → List Nat} (h8 : zK8 E) {x : Nat} (h : x ∈ zF E 0 zT) : x < 8294400 := by
  have q := zF_mem h8 _ h
  have z := zT_eq
  omega
theorem zFi {E : Nat → List Nat} (h8 : zK8 E) {i x : Nat} (h : (zF E 0 zT)[i]? = some x) : x < 8294400 := zFx h8 (List.mem_of_getElem? h)
/-- the three rows of EVENTS are apart -/
theorem zn3 {S : yS} {m : Nat} (hSh : ySh S) (hm : m ∈ S.1) (hk : S.2.1 m = 9) : S.2.2.1 m 15 ≠ S.2.2.1 m 16 ∧ S.2.2.1 m 15 ≠ S.2.2.1 m 17 ∧ S.2.2.1 m 16 ≠ S.2.2.1 m 17 := by
  have c5 := (ySh.f9_15 hSh m hm hk).2
  have c6 := (ySh.f9_16 hSh m hm hk).2
  have c7 := (ySh.f9_17 hSh m hm hk).2
  exact ⟨(fun e => by rw [e, c6] at c5; cases c5), (fun e => by rw [e, c7] at c5; cases c5), (fun e => by rw [e, c7] at c6; cases c6)⟩
/-- an EVENT written at a place -/
theorem zw3 {S : yS} {d d1 d2 d3 : yD} {m i : Nat} {i1 i2 i3 a b c : Int32} (hSh : ySh S) (hm : m ∈ S.1) (hk : S.2.1 m = 9) (h1 : i1.toInt = (i : Int)) (h2 : i2.toInt = (i : Int)) (h3 : i3.toInt = (i : Int)) (e1 : d1 = ycs d (S.2.2.1 m 15) (upd (d.2.2.2.1 (S.2.2.1 m 15)) i1.toNatClampNeg a)) (e2 : d2 = ycs d1 (S.2.2.1 m 16) (upd (d1.2.2.2.1 (S.2.2.1 m 16)) i2.toNatClampNeg b)) (e3 : d3 = ycs d2 (S.2.2.1 m 17) (upd (d2.2.2.2.1 (S.2.2.1 m 17)) i3.toNatClampNeg c)) : d3.2.2.2.1 (S.2.2.1 m 15) = upd (d.2.2.2.1 (S.2.2.1 m 15)) i a ∧ d3.2.2.2.1 (S.2.2.1 m 16) = upd (d.2.2.2.1 (S.2.2.1 m 16)) i b ∧ d3.2.2.2.1 (S.2.2.1 m 17) = upd (d.2.2.2.1 (S.2.2.1 m 17)) i c := by
  obtain ⟨n56, n57, n67⟩ := zn3 hSh hm hk
  have q1 : i1.toNatClampNeg = i := (show i1.toInt.toNat = i by omega)
  have q2 : i2.toNatClampNeg = i := (show i2.toInt.toNat = i by omega)
  have q3 : i3.toNatClampNeg = i := (show i3.toInt.toNat = i by omega)
  rw [q1] at e1
  rw [q2] at e2
  rw [q3] at e3
  refine ⟨?_, ?_, ?_⟩
  · rw [e3, ycs_ne n57, e2, ycs_ne n56, e1, ycs_at]
  · rw [e3, ycs_ne n67, e2, ycs_at, e1, ycs_ne (Ne.symm n56)]
  · rw [e3, ycs_at, e2, ycs_ne (Ne.symm n67), e1, ycs_ne (Ne.symm n57)]
theorem zupd {f : Nat → Int32} {i j : Nat} {v : Int32} : upd f i v j = if j = i then v else f j := rfl
/-! clear() -/
def zOut (a b x : Nat) : Bool := decide (¬ (a ≤ x / 8 ∧ x / 8 < b))
theorem zf_all {p : Nat → Bool} {L : List Nat} (h : ∀ x, x ∈ L → p x = true) : L.filter p = L := List.filter_eq_self.mpr h
theorem zf_no {p : Nat → Bool} {L : List Nat} (h : ∀ x, x ∈ L → ¬ p x = true) : L.filter p = [] := List.filter_eq_nil_iff.mpr h
theorem zF_out {E : Nat → List Nat} (h8 : zK8 E) {a n : Nat} (h : a + n ≤ zT) : (zF E 0 zT).filter (zOut a (a + n)) = zF (zClr E a n) 0 zT := by
  have f1 : (zF E 0 a).filter (zOut a (a + n)) = zF E 0 a := zf_all (fun x hx => decide_eq_true (by have q := zF_mem h8 _ hx; omega))
  have f2 : (zF E a n).filter (zOut a (a + n)) = [] := zf_no (fun x hx w => of_decide_eq_true w (by have q := zF_mem h8 _ hx; omega))
  have f3 : (zF E (a + n) (zT - (a + n))).filter (zOut a (a + n)) = zF E (a + n) (zT - (a + n)) := zf_all (fun x hx => decide_eq_true (by have q := zF_mem h8 _ hx; omega))
  rw [zClr_F h, zF_cut3 h, List.filter_append, List.filter_append, f1, f2, f3, List.nil_append]
def zCv (S : yS) (d0 d : yD) (m : Nat) (p f t n k : Int32) : Prop := ∀ E, zEm S d0 m E → 0 ≤ p.toInt → p.toInt ≤ 7 → 0 ≤ f.toInt → f.toInt ≤ t.toInt → t.toInt ≤ 129600 → 0 ≤ k.toInt ∧ k.toInt ≤ ((zF E 0 zT).length : Int) ∧ n.toInt = k.toInt - ((((zF E 0 zT).take k.toInt.toNat).filter (zOut (zx p f) (zx p t))).length : Int) ∧ (∀ (i x : Nat), (((zF E 0 zT).take k.toInt.toNat).filter (zOut (zx p f) (zx p t)))[i]? = some x → zDd S d m i x) ∧ ∀ (i x : Nat), k.toInt.toNat ≤ i → (zF E 0 zT)[i]? = some x → zDd S d m i x
theorem zCv.ini {S : yS} {d : yD} {m : Nat} {p f t : Int32} : zCv S d d m p f t 0 0 := fun E hE _ _ _ _ _ => by
  have z0 : (0 : Int32).toInt = 0 := by decide +kernel
  rw [z0]
  refine ⟨Int.le_refl _, by omega, ?_, fun i x hx => ?_, fun i x _ hx => hE.2.2 i x hx⟩
  · show (0 : Int) = 0 - ((([] : List Nat).length : Nat) : Int)
    rfl
  · exact absurd (show ([] : List Nat)[i]? = some x from hx) (by simp)
theorem zCv.k {S : yS} {d0 d : yD} {m : Nat} {p f t n k z0 : Int32} {E : Nat → List Nat} (h4 : d.1 m 1 = d0.1 m 1) (e0 : z0 = d.1 m 1) (c0 : ¬ z0 ≤ k) (hE : zEm S d0 m E) (k0 : 0 ≤ k.toInt) : ∃ x, (zF E 0 zT)[k.toInt.toNat]? = some x ∧ x < 8294400 := by
  have c := Int32.lt_iff_toInt_lt.mp (Int32.not_le.mp c0)
  rw [e0, h4, hE.2.1] at c
  have hj : k.toInt.toNat < (zF E 0 zT).length := by omega
  exact ⟨_, List.getElem?_eq_getElem hj, zFx hE.1 (List.getElem_mem hj)⟩
theorem zCv.hit {S : yS} {d0 d : yD} {m : Nat} {p f t n k z0 z1 z2 z3 : Int32} (h : zCv S d0 d m p f t n k) (h4 : d.1 m 1 = d0.1 m 1) (hI : yMI S d0 m) (e0 : z0 = d.1 m 1) (c0 : ¬ z0 ≤ k) (e1 : z1 = d.2.2.2.1 (S.2.2.1 m 15) k.toNatClampNeg) (e2 : z2 = d.2.2.2.1 (S.2.2.1 m 16) k.toNatClampNeg) (e3 : z3 = d.2.2.2.1 (S.2.2.1 m 16) k.toNatClampNeg) (c1 : z1 = p) (c2 : ¬ z2 < f) (c3 : ¬ t ≤ z3) : zCv S d0 d m p f t (n + 1) (k + 1) := fun E hE p0 p7 f0 ft t1 => by
  obtain ⟨a1, a2, a3, a4, a5⟩ := h E hE p0 p7 f0 ft t1
  obtain ⟨x, hx, hx8⟩ := zCv.k (p := p) (f := f) (t := t) (n := n) h4 e0 c0 hE a1
  have b := hI.c.2.1
  have hl := zlt hx
  have hn := hE.2.1
  have hk : (k + 1).toInt = k.toInt + 1 := tadd rfl rfl i_one (by omega) (by omega)
  have hle := List.length_filter_le (zOut (zx p f) (zx p t)) ((zF E 0 zT).take k.toInt.toNat)
  rw [List.length_take] at hle
  have hn1 : (n + 1).toInt = n.toInt + 1 := tadd rfl rfl i_one (by omega) (by omega)
  have hd := (a5 _ x (Nat.le_refl _) hx).n hx8
  have q1 : (d.2.2.2.1 (S.2.2.1 m 15) k.toInt.toNat).toInt = p.toInt := by rw [← c1, e1]; rfl
  have q2 := Int32.le_iff_toInt_le.mp (Int32.not_lt.mp c2)
  have q3 := Int32.lt_iff_toInt_lt.mp (Int32.not_le.mp c3)
  rw [e2] at q2
  rw [e3] at q3
  have q2 : f.toInt ≤ (d.2.2.2.1 (S.2.2.1 m 16) k.toInt.toNat).toInt := q2
  have q3 : (d.2.2.2.1 (S.2.2.1 m 16) k.toInt.toNat).toInt < t.toInt := q3
  have ho : zOut (zx p f) (zx p t) x = false := decide_eq_false (fun w => w (by
    show 129600 * p.toInt.toNat + f.toInt.toNat ≤ x / 8 ∧ x / 8 < 129600 * p.toInt.toNat + t.toInt.toNat
    omega))
  have ht : ((zF E 0 zT).take (k + 1).toInt.toNat).filter (zOut (zx p f) (zx p t)) = ((zF E 0 zT).take k.toInt.toNat).filter (zOut (zx p f) (zx p t)) := by
    rw [show (k + 1).toInt.toNat = k.toInt.toNat + 1 by omega, ztake hx, List.filter_append, List.filter_cons_of_neg (by rw [ho]; decide), List.filter_nil, List.append_nil]
  rw [ht]
  exact ⟨by omega, by omega, by omega, a4, fun i y hi hy => a5 i y (by omega) hy⟩
theorem zCv.miss {S : yS} {d0 d d1 d2 d3 : yD} {m : Nat} {p f t n k z0 i1 i2 i3 v1 v2 v3 : Int32} (h : zCv S d0 d m p f t n k) (hSh : ySh S) (hm : m ∈ S.1) (hkm : S.2.1 m = 9) (h4 : d.1 m 1 = d0.1 m 1) (hI : yMI S d0 m) (e0 : z0 = d.1 m 1) (c0 : ¬ z0 ≤ k) (hf : yPc S d0 m p f t k.toInt.toNat = false) (hi1 : i1 = k - n) (hi2 : i2 = k - n) (hi3 : i3 = k - n) (ev1 : v1 = d.2.2.2.1 (S.2.2.1 m 15) k.toNatClampNeg) (e1 : d1 = ycs d (S.2.2.1 m 15) (upd (d.2.2.2.1 (S.2.2.1 m 15)) i1.toNatClampNeg (vp_nar .byte v1))) (ev2 : v2 = d1.2.2.2.1 (S.2.2.1 m 16) k.toNatClampNeg) (e2 : d2 = ycs d1 (S.2.2.1 m 16) (upd (d1.2.2.2.1 (S.2.2.1 m 16)) i2.toNatClampNeg v2)) (ev3 : v3 = d2.2.2.2.1 (S.2.2.1 m 17) k.toNatClampNeg) (e3 : d3 = ycs d2 (S.2.2.1 m 17) (upd (d2.2.2.2.1 (S.2.2.1 m 17)) i3.toNatClampNeg (vp_nar .byte v3))) : zCv S d0 d3 m p f t n (k + 1) := fun E hE p0 p7 f0 ft t1 => by
  obtain ⟨a1, a2, a3, a4, a5⟩ := h E hE p0 p7 f0 ft t1
  obtain ⟨x, hx, hx8⟩ := zCv.k (p := p) (f := f) (t := t) (n := n) h4 e0 c0 hE a1
  obtain ⟨n56, n57, n67⟩ := zn3 hSh hm hkm
  have b := hI.c.2.1
  have hl := zlt hx
  have hn := hE.2.1
  have hk : (k + 1).toInt = k.toInt + 1 := tadd rfl rfl i_one (by omega) (by omega)
  have hle := List.length_filter_le (zOut (zx p f) (zx p t)) ((zF E 0 zT).take k.toInt.toNat)
  rw [List.length_take] at hle
  have hd0 := (hE.2.2 _ x hx).n hx8
  have hd := (a5 _ x (Nat.le_refl _) hx).n hx8
  have hkn : (k - n).toInt = (((((zF E 0 zT).take k.toInt.toNat).filter (zOut (zx p f) (zx p t))).length : Nat) : Int) := by
    have q : (k - n).toInt = k.toInt - n.toInt := tsub rfl rfl rfl (by omega) (by omega)
    omega
  obtain ⟨w1, w2, w3⟩ := zw3 hSh hm hkm (by rw [hi1]; exact hkn) (by rw [hi2]; exact hkn) (by rw [hi3]; exact hkn) e1 e2 e3
  have ho : zOut (zx p f) (zx p t) x = true := decide_eq_true (fun w => by
    have w : 129600 * p.toInt.toNat + f.toInt.toNat ≤ x / 8 ∧ x / 8 < 129600 * p.toInt.toNat + t.toInt.toNat := w
    refine of_decide_eq_false hf ⟨Int32.toInt_inj.mp (by omega), fun q => ?_, Int32.lt_iff_toInt_lt.mpr (by omega)⟩
    have q := Int32.lt_iff_toInt_lt.mp q
    omega)
  have ht : ((zF E 0 zT).take (k + 1).toInt.toNat).filter (zOut (zx p f) (zx p t)) = ((zF E 0 zT).take k.toInt.toNat).filter (zOut (zx p f) (zx p t)) ++ [x] := by
    rw [show (k + 1).toInt.toNat = k.toInt.toNat + 1 by omega, ztake hx, List.filter_append, List.filter_cons_of_pos ho, List.filter_nil]
  have u1 : vp_nar .byte v1 = d.2.2.2.1 (S.2.2.1 m 15) k.toInt.toNat := by
    rw [ev1]
    exact (nb (x := d.2.2.2.1 (S.2.2.1 m 15) k.toInt.toNat) (by omega) (by omega)).2
  have u2 : v2 = d.2.2.2.1 (S.2.2.1 m 16) k.toInt.toNat := by rw [ev2, e1, ycs_ne (Ne.symm n56)]; rfl
  have u3 : vp_nar .byte v3 = d.2.2.2.1 (S.2.2.1 m 17) k.toInt.toNat := by
    rw [ev3, e2, ycs_ne (Ne.symm n67), e1, ycs_ne (Ne.symm n57)]
    exact (nb (x := d.2.2.2.1 (S.2.2.1 m 17) k.toInt.toNat) (by omega) (by omega)).2
  rw [ht]
  refine ⟨by omega, by omega, by rw [List.length_append, List.length_singleton]; omega, fun i y hy => ?_, fun i y hi hy => ?_⟩
  · unfold zDd zD
    rw [w1, w2, w3, zupd, zupd, zupd, u1, u2, u3]
    by_cases c : i < (((zF E 0 zT).take k.toInt.toNat).filter (zOut (zx p f) (zx p t))).length
    · rw [if_neg (by omega), if_neg (by omega), if_neg (by omega)]
      rw [zL_ c] at hy
      exact a4 i y hy
    · have hy' := zlt hy
      rw [List.length_append, List.length_singleton] at hy'
      obtain rfl : i = (((zF E 0 zT).take k.toInt.toNat).filter (zOut (zx p f) (zx p t))).length := by omega
      rw [if_pos rfl, if_pos rfl, if_pos rfl]
      have hy : (((zF E 0 zT).take k.toInt.toNat).filter (zOut (zx p f) (zx p t)) ++ [x])[(((zF E 0 zT).take k.toInt.toNat).filter (zOut (zx p f) (zx p t))).length + 0]? = some y := hy
      rw [zR_] at hy
      rw [← Option.some.inj hy]
      exact a5 _ x (Nat.le_refl _) hx
  · unfold zDd zD
    rw [w1, w2, w3, zupd, zupd, zupd, if_neg (by omega), if_neg (by omega), if_neg (by omega)]
    exact a5 i y (by omega) hy
def zClV (S : yS) (d u : yD) (m : Nat) (p f t r : Int32) : Prop := ∀ E, zEm S d m E → 0 ≤ p.toInt → p.toInt ≤ 7 → 0 ≤ f.toInt → f.toInt ≤ t.toInt → t.toInt ≤ 129600 → zEm S u m (zClr E (zx p f) (t.toInt - f.toInt).toNat) ∧ r.toInt = ((zF E (zx p f) (t.toInt - f.toInt).toNat).length : Int)
theorem zCv.fin {S : yS} {d0 d u : yD} {m : Nat} {p f t n k z0 : Int32} (h : zCv S d0 d m p f t n k) (h4 : d.1 m 1 = d0.1 m 1) (e0 : z0 = d.1 m 1) (c0 : z0 ≤ k) (hu : (u.1 m 1).toInt = (d0.1 m 1).toInt - n.toInt) (g5 : u.2.2.2.1 (S.2.2.1 m 15) = d.2.2.2.1 (S.2.2.1 m 15)) (g6 : u.2.2.2.1 (S.2.2.1 m 16) = d.2.2.2.1 (S.2.2.1 m 16)) (g7 : u.2.2.2.1 (S.2.2.1 m 17) = d.2.2.2.1 (S.2.2.1 m 17)) : zClV S d0 u m p f t n := fun E hE p0 p7 f0 ft t1 => by
  obtain ⟨a1, a2, a3, a4, a5⟩ := h E hE p0 p7 f0 ft t1
  have c := Int32.le_iff_toInt_le.mp c0
  rw [e0, h4, hE.2.1] at c
  have hn := hE.2.1
  have z := zT_eq
  have hT : zx p f + (t.toInt - f.toInt).toNat ≤ zT := by show 129600 * p.toInt.toNat + f.toInt.toNat + _ ≤ _; omega
  have ht : zx p t = zx p f + (t.toInt - f.toInt).toNat := by show 129600 * p.toInt.toNat + t.toInt.toNat = 129600 * p.toInt.toNat + f.toInt.toNat + _; omega
  rw [List.take_of_length_le (by omega), ht, zF_out hE.1 hT] at a3 a4
  have hl := congrArg List.length (zF_cut3 (E := E) hT)
  rw [List.length_append, List.length_append] at hl
  have hl2 := congrArg List.length (zClr_F (E := E) hT)
  rw [List.length_append] at hl2
  refine ⟨⟨zClr_8 hE.1, by omega, fun i x hx => ?_⟩, by omega⟩
  unfold zDd
  rw [g5, g6, g7]
  exact a4 i x hx
/-! insert() -/
def zIv (S : yS) (d0 d : yD) (m : Nat) (p mm k : Int32) : Prop := ∀ E, zEm S d0 m E → 0 ≤ p.toInt → p.toInt ≤ 7 → 0 ≤ mm.toInt → mm.toInt ≤ 129599 → k.toInt ≤ ((zF E 0 zT).length : Int) ∧ (∀ (i x : Nat), (i : Int) < k.toInt → (zF E 0 zT)[i]? = some x → zDd S d m i x) ∧ ∀ (i x : Nat), k.toInt.toNat ≤ i → (zF E 0 zT)[i]? = some x → zDd S d m (i + 1) x ∧ zx p mm < x / 8
theorem zIv.ini {S : yS} {d : yD} {m : Nat} {p mm k : Int32} (e : k = d.1 m 1) : zIv S d d m p mm k := fun E hE _ _ _ _ => by
  have hn := hE.2.1
  rw [← e] at hn
  exact ⟨by omega, fun i x _ hx => hE.2.2 i x hx, fun i x hi hx => absurd (zlt hx) (by omega)⟩
theorem zIv.step {S : yS} {d0 d d1 d2 d3 : yD} {m : Nat} {p mm k k2 j j1 j2 j3 v1 v2 v3 : Int32} (h : zIv S d0 d m p mm k) (hSh : ySh S) (hm : m ∈ S.1) (hkm : S.2.1 m = 9) (k0 : 0 < k.toInt) (k1 : k.toInt ≤ 5000) (ej : j = k - 1) (hgt : p.toInt < (d.2.2.2.1 (S.2.2.1 m 15) j.toNatClampNeg).toInt ∨ ((d.2.2.2.1 (S.2.2.1 m 15) j.toNatClampNeg).toInt = p.toInt ∧ mm.toInt < (d.2.2.2.1 (S.2.2.1 m 16) j.toNatClampNeg).toInt)) (ej1 : j1 = k - 1) (ej2 : j2 = k - 1) (ej3 : j3 = k - 1) (ev1 : v1 = d.2.2.2.1 (S.2.2.1 m 15) j1.toNatClampNeg) (e1 : d1 = ycs d (S.2.2.1 m 15) (upd (d.2.2.2.1 (S.2.2.1 m 15)) k.toNatClampNeg (vp_nar .byte v1))) (ev2 : v2 = d1.2.2.2.1 (S.2.2.1 m 16) j2.toNatClampNeg) (e2 : d2 = ycs d1 (S.2.2.1 m 16) (upd (d1.2.2.2.1 (S.2.2.1 m 16)) k.toNatClampNeg v2)) (ev3 : v3 = d2.2.2.2.1 (S.2.2.1 m 17) j3.toNatClampNeg) (e3 : d3 = ycs d2 (S.2.2.1 m 17) (upd (d2.2.2.2.1 (S.2.2.1 m 17)) k.toNatClampNeg (vp_nar .byte v3))) (ek : k2 = k + (-1)) : zIv S d0 d3 m p mm k2 := fun E hE p0 p7 m0 m1 => by
  obtain ⟨a1, a2, a3⟩ := h E hE p0 p7 m0 m1
  obtain ⟨n56, n57, n67⟩ := zn3 hSh hm hkm
  have ej' : j.toInt = k.toInt - 1 := tsub ej rfl i_one (by omega) (by omega)
  have ek' : k2.toInt = k.toInt + -1 := tadd ek rfl (by decide +kernel : (-1 : Int32).toInt = -1) (by omega) (by omega)
  have hj : j.toInt.toNat < (zF E 0 zT).length := by omega
  obtain ⟨x, hx, hx8⟩ : ∃ x, (zF E 0 zT)[j.toInt.toNat]? = some x ∧ x < 8294400 := ⟨_, List.getElem?_eq_getElem hj, zFx hE.1 (List.getElem_mem hj)⟩
  have hdx := a2 _ x (by omega) hx
  have hd := hdx.n hx8
  obtain ⟨w1, w2, w3⟩ := zw3 (i := k.toInt.toNat) hSh hm hkm (by omega) (by omega) (by omega) e1 e2 e3
  have u1 : vp_nar .byte v1 = d.2.2.2.1 (S.2.2.1 m 15) j.toInt.toNat := by
    rw [ev1, ej1, ← ej]
    exact (nb (x := d.2.2.2.1 (S.2.2.1 m 15) j.toInt.toNat) (by omega) (by omega)).2
  have u2 : v2 = d.2.2.2.1 (S.2.2.1 m 16) j.toInt.toNat := by rw [ev2, e1, ycs_ne (Ne.symm n56), ej2, ← ej]; rfl
  have u3 : vp_nar .byte v3 = d.2.2.2.1 (S.2.2.1 m 17) j.toInt.toNat := by
    rw [ev3, e2, ycs_ne (Ne.symm n67), e1, ycs_ne (Ne.symm n57), ej3, ← ej]
    exact (nb (x := d.2.2.2.1 (S.2.2.1 m 17) j.toInt.toNat) (by omega) (by omega)).2
  have hgt : p.toInt < (d.2.2.2.1 (S.2.2.1 m 15) j.toInt.toNat).toInt ∨ ((d.2.2.2.1 (S.2.2.1 m 15) j.toInt.toNat).toInt = p.toInt ∧ mm.toInt < (d.2.2.2.1 (S.2.2.1 m 16) j.toInt.toNat).toInt) := hgt
  refine ⟨by omega, fun i y hi hy => ?_, fun i y hi hy => ?_⟩
  · unfold zDd zD
    rw [w1, w2, w3, zupd, zupd, zupd, if_neg (by omega), if_neg (by omega), if_neg (by omega)]
    exact a2 i y (by omega) hy
  · by_cases c : i = j.toInt.toNat
    · subst c
      rw [hx] at hy
      obtain rfl := Option.some.inj hy
      refine ⟨?_, by show 129600 * p.toInt.toNat + mm.toInt.toNat < _; omega⟩
      unfold zDd zD
      rw [w1, w2, w3, zupd, zupd, zupd, u1, u2, u3, if_pos (by omega), if_pos (by omega), if_pos (by omega)]
      exact hdx
    · have q := a3 i y (by omega) hy
      refine ⟨?_, q.2⟩
      unfold zDd zD
      rw [w1, w2, w3, zupd, zupd, zupd, if_neg (by omega), if_neg (by omega), if_neg (by omega)]
      exact q.1
def zInV (S : yS) (d u : yD) (m : Nat) (p mm kd : Int32) : Prop := ∀ E, zEm S d m E → 0 ≤ p.toInt → p.toInt ≤ 7 → 0 ≤ mm.toInt → mm.toInt ≤ 129599 → 0 ≤ kd.toInt → kd.toInt ≤ 7 → (zF E 0 zT).length ≤ 4999 → zEm S u m (zIns E (zx p mm) kd.toInt.toNat)
theorem zIv.fin {S : yS} {d0 d d1 d2 d3 u : yD} {m : Nat} {p mm kd k : Int32} (h : zIv S d0 d m p mm k) (hSh : ySh S) (hm : m ∈ S.1) (hkm : S.2.1 m = 9) (k0 : 0 ≤ k.toInt) (k1 : k.toInt ≤ 5000) (hle : k.toInt ≤ 0 ∨ ∃ j : Int32, j = k - 1 ∧ ((d.2.2.2.1 (S.2.2.1 m 15) j.toNatClampNeg).toInt < p.toInt ∨ ((d.2.2.2.1 (S.2.2.1 m 15) j.toNatClampNeg).toInt = p.toInt ∧ (d.2.2.2.1 (S.2.2.1 m 16) j.toNatClampNeg).toInt ≤ mm.toInt))) (e1 : d1 = ycs d (S.2.2.1 m 15) (upd (d.2.2.2.1 (S.2.2.1 m 15)) k.toNatClampNeg (vp_nar .byte p.toInt8.toInt32))) (e2 : d2 = ycs d1 (S.2.2.1 m 16) (upd (d1.2.2.2.1 (S.2.2.1 m 16)) k.toNatClampNeg mm)) (e3 : d3 = ycs d2 (S.2.2.1 m 17) (upd (d2.2.2.2.1 (S.2.2.1 m 17)) k.toNatClampNeg (vp_nar .byte kd.toInt8.toInt32))) (hu : (u.1 m 1).toInt = (d0.1 m 1).toInt + 1) (g5 : u.2.2.2.1 (S.2.2.1 m 15) = d3.2.2.2.1 (S.2.2.1 m 15)) (g6 : u.2.2.2.1 (S.2.2.1 m 16) = d3.2.2.2.1 (S.2.2.1 m 16)) (g7 : u.2.2.2.1 (S.2.2.1 m 17) = d3.2.2.2.1 (S.2.2.1 m 17)) : zInV S d0 u m p mm kd := fun E hE p0 p7 m0 m1 kd0 kd7 hcap => by
  obtain ⟨a1, a2, a3⟩ := h E hE p0 p7 m0 m1
  obtain ⟨w1, w2, w3⟩ := zw3 (i := k.toInt.toNat) hSh hm hkm (by omega) (by omega) (by omega) e1 e2 e3
  rw [(nb p0 (by omega)).1] at w1
  rw [(nb kd0 (by omega)).1] at w3
  have zt := zT_eq
  have hT : zx p mm + 1 ≤ zT := by show 129600 * p.toInt.toNat + mm.toInt.toNat + 1 ≤ _; omega
  have hc := zF_cut (E := E) hT
  have hln := congrArg List.length hc
  rw [List.length_append] at hln
  have hn := hE.2.1
  -- the place is the one behind all that lie at the minute or ahead
  have hk : k.toInt.toNat = (zF E 0 (zx p mm + 1)).length := by
    rcases Nat.lt_trichotomy k.toInt.toNat (zF E 0 (zx p mm + 1)).length with c | c | c
    · exfalso
      have e : (zF E 0 zT)[k.toInt.toNat]? = some (zF E 0 (zx p mm + 1))[k.toInt.toNat] := by rw [hc, zL_ c, List.getElem?_eq_getElem c]
      have q := (a3 _ _ (Nat.le_refl _) e).2
      have q2 := zF_mem hE.1 _ (List.getElem_mem c)
      omega
    · exact c
    · exfalso
      rcases hle with hle | ⟨j, ej, hle⟩
      · omega
      · have ej' : j.toInt = k.toInt - 1 := tsub ej rfl i_one (by omega) (by omega)
        have c2 : j.toInt.toNat - (zF E 0 (zx p mm + 1)).length < (zF E (zx p mm + 1) (zT - (zx p mm + 1))).length := by omega
        have e : (zF E 0 zT)[j.toInt.toNat]? = some (zF E (zx p mm + 1) (zT - (zx p mm + 1)))[j.toInt.toNat - (zF E 0 (zx p mm + 1)).length] := by rw [hc, List.getElem?_append_right (by omega), List.getElem?_eq_getElem c2]
        have q2 := zF_mem hE.1 _ (List.getElem_mem c2)
        have q3 := (a2 _ _ (by omega) e).n (zFi hE.1 e)
        have hle : (d.2.2.2.1 (S.2.2.1 m 15) j.toInt.toNat).toInt < p.toInt ∨ ((d.2.2.2.1 (S.2.2.1 m 15) j.toInt.toNat).toInt = p.toInt ∧ (d.2.2.2.1 (S.2.2.1 m 16) j.toInt.toNat).toInt ≤ mm.toInt) := hle
        have q2' : 129600 * p.toInt.toNat + mm.toInt.toNat + 1 ≤ (zF E (zx p mm + 1) (zT - (zx p mm + 1)))[j.toInt.toNat - (zF E 0 (zx p mm + 1)).length] / 8 := by
          have q4 : 8 * (129600 * p.toInt.toNat + mm.toInt.toNat + 1) ≤ (zF E (zx p mm + 1) (zT - (zx p mm + 1)))[j.toInt.toNat - (zF E 0 (zx p mm + 1)).length] := q2.1
          omega
        omega
  refine ⟨zIns_8 hE.1 (by omega), ?_, fun i x hx => ?_⟩
  · rw [zIns_F (by omega), List.length_append, List.length_cons]; omega
  · rw [zIns_F (by omega)] at hx
    unfold zDd
    rw [g5, g6, g7, w1, w2, w3]
    by_cases c1 : i < (zF E 0 (zx p mm + 1)).length
    · rw [zL_ c1] at hx
      unfold zD
      rw [zupd, zupd, zupd, if_neg (by omega), if_neg (by omega), if_neg (by omega)]
      exact a2 i x (by omega) (by rw [hc, zL_ c1]; exact hx)
    · obtain ⟨j, rfl⟩ : ∃ j, i = (zF E 0 (zx p mm + 1)).length + j := ⟨i - (zF E 0 (zx p mm + 1)).length, by omega⟩
      rw [zR_] at hx
      cases j with
      | zero =>
        have hx : some (8 * zx p mm + kd.toInt.toNat) = some x := hx
        have hx := Option.some.inj hx
        refine zD.mk' (p := p.toInt) (mm := mm.toInt) (k := kd.toInt) ?_ ?_ ?_ m0 m1 kd0 kd7 ?_
        · rw [zupd, if_pos (by omega)]
        · rw [zupd, if_pos (by omega)]
        · rw [zupd, if_pos (by omega)]
        · have hx : 8 * (129600 * p.toInt.toNat + mm.toInt.toNat) + kd.toInt.toNat = x := hx
          omega
      | succ j =>
        rw [List.getElem?_cons_succ] at hx
        unfold zD
        rw [zupd, zupd, zupd, if_neg (by omega), if_neg (by omega), if_neg (by omega)]
        exact (a3 ((zF E 0 (zx p mm + 1)).length + j) x (by omega) (by rw [hc, zR_]; exact hx)).1
