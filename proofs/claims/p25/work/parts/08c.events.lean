/-! the desk's EVENTS, method by method: what a call does to the table -/
theorem ycs_at {d : yD} {a : Nat} {f : Nat → Int32} : (ycs d a f).2.2.2.1 a = f := va_up_self _ _ _
theorem ycs_ne {d : yD} {a b : Nat} {f : Nat → Int32} (h : b ≠ a) : (ycs d a f).2.2.2.1 b = d.2.2.2.1 b := va_up_ne _ _ h
theorem i_one : (1 : Int32).toInt = 1 := by decide +kernel
theorem zlen_add {E : Nat → List Nat} {x n : Nat} : (zF E 0 (x + n)).length = (zF E 0 x).length + (zF E x n).length := by
  have q := zF_add (E := E) (a := 0) (n := x) n
  rw [Nat.zero_add] at q
  rw [q, List.length_append]
theorem zlen_le {E : Nat → List Nat} {x : Nat} (h : x ≤ zT) : (zF E 0 x).length ≤ (zF E 0 zT).length := by
  rw [zF_cut h, List.length_append]
  exact Nat.le_add_right _ _
def zCnt (S : yS) (d : yD) (e : Nat) (p m n r : Int32) : Prop := ∀ E, zEc S d e E → 0 ≤ p.toInt → p.toInt ≤ 7 → 0 ≤ m.toInt → 0 ≤ n.toInt → m.toInt + n.toInt ≤ 129600 → r.toInt = ((zF E (zx p m) n.toInt.toNat).length : Int) ∧ r.toInt ≤ 5000
theorem zCnt.of {S : yS} {d : yD} {e : Nat} {p m n z a b r : Int32} (h1 : zPos S d e p z a) (ez : z = m + n) (h2 : zPos S d e p m b) (er : r = a - b) : zCnt S d e p m n r := fun E hE p0 p7 m0 n0 hmn => by
  obtain ⟨x1, x2⟩ := zxadd (p := p) ez m0 n0 hmn
  have a1 := h1 E hE p0 p7 (by omega) (by omega)
  have b1 := h2 E hE p0 p7 m0 (by omega)
  have l := zlen_add (E := E) (x := zx p m) (n := n.toInt.toNat)
  have l2 := zlen_le (E := E) (zxle (p := p) (m := z) p7 (by omega))
  rw [x1, l] at a1 l2
  have l3 := hE.2.2
  have er2 : r.toInt = a.toInt - b.toInt := tsub er rfl rfl (by omega) (by omega)
  exact ⟨by omega, by omega⟩
/-- an EVENT comes -/
def zAdd (S : yS) (d u : yD) (e : Nat) (p m k : Int32) : Prop := ∀ E, zEc S d e E → 0 ≤ p.toInt → p.toInt ≤ 7 → 0 ≤ m.toInt → m.toInt ≤ 129599 → 0 ≤ k.toInt → k.toInt ≤ 7 → (zF E 0 zT).length ≤ 4999 → zEc S u e (zIns E (zx p m) k.toInt.toNat)
theorem zAdd.of {S : yS} {d u1 u2 u3 : yD} {e : Nat} {p m k m1 i i2 c n0 n1 n2 key : Int32} (hi : zPos S d e p m1 i) (e1 : m1 = m + 1) (e2 : i2 = i + 1) (e3 : n0 = d.1 e 2) (e4 : c = n0 - i) (g1 : u1 = ycs d (S.2.2.1 e 0) (xsl 5000 5000 (d.2.2.2.1 (S.2.2.1 e 0)) (d.2.2.2.1 (S.2.2.1 e 0)) i i2 c)) (ek : key = (p * 129600 + m) * 8 + k) (g2 : u2 = ycs u1 (S.2.2.1 e 0) (xput 5000 (u1.2.2.2.1 (S.2.2.1 e 0)) i key)) (e5 : n1 = u2.1 e 2) (e6 : n2 = n1 + 1) (g3 : u3 = yi u2 e 2 n2) : zAdd S d u3 e p m k := fun E hE p0 p7 m0 m1' k0 k7 hl => by
  have q1 : m1.toInt = m.toInt + 1 := tadd e1 rfl i_one (by omega) (by omega)
  have hp := hi E hE p0 p7 (by omega) (by omega)
  have hx : zx p m1 = zx p m + 1 := by show 129600 * p.toInt.toNat + m1.toInt.toNat = 129600 * p.toInt.toNat + m.toInt.toNat + 1; omega
  have hT : zx p m + 1 ≤ zT := by rw [← hx]; exact zxle p7 (by omega)
  rw [hx] at hp
  have hz := hE.2.1
  have hlen := congrArg List.length (zF_cut (E := E) hT)
  rw [List.length_append] at hlen
  have hn := hz.1
  rw [zF_cut (E := E) hT] at hz
  have hkey := zkey rfl rfl rfl ek p0 p7 m0 (by omega) k0 k7
  have i2' : i2.toInt = i.toInt + 1 := tadd e2 rfl i_one (by omega) (by omega)
  have c' : c.toInt = n0.toInt - i.toInt := tsub e4 rfl rfl (by rw [e3]; omega) (by rw [e3]; omega)
  have n1' : n1 = d.1 e 2 := by rw [e5, g2]; show u1.1 e 2 = _; rw [g1]; rfl
  have n2' : n2.toInt = (d.1 e 2).toInt + 1 := by rw [← n1']; exact tadd e6 rfl i_one (by rw [n1']; omega) (by rw [n1']; omega)
  have a0 : u3.2.2.2.1 (S.2.2.1 e 0) = xput 5000 (xsl 5000 5000 (d.2.2.2.1 (S.2.2.1 e 0)) (d.2.2.2.1 (S.2.2.1 e 0)) i i2 c) i key := by
    rw [g3]
    show u2.2.2.2.1 (S.2.2.1 e 0) = _
    rw [g2, ycs_at, g1, ycs_at]
  have a1 : u3.1 e 2 = n2 := by rw [g3]; exact yi_self
  have fin := zA.ins (n' := n2) (i2 := i2) (c := c) (k := key) (y := 8 * zx p m + k.toInt.toNat) hz (by omega) hp (by omega) (by rw [c', e3]; omega) n2' (by omega)
  refine ⟨zIns_8 hE.1 (by omega), ?_, ?_⟩
  · rw [a0, a1, zIns_F (by omega)]; exact fin
  · rw [zIns_F (by omega), List.length_append, List.length_cons]; omega
/-- EVENTS of n minutes go -/
def zRem (S : yS) (d u : yD) (e : Nat) (p m n r : Int32) : Prop := ∀ E, zEc S d e E → 0 ≤ p.toInt → p.toInt ≤ 7 → 0 ≤ m.toInt → 0 ≤ n.toInt → m.toInt + n.toInt ≤ 129600 → zEc S u e (zClr E (zx p m) n.toInt.toNat) ∧ r.toInt = ((zF E (zx p m) n.toInt.toNat).length : Int)
theorem zRem.of {S : yS} {d u1 u2 : yD} {e : Nat} {p m n z a b n0 c n1 w n2 r : Int32} (h1 : zPos S d e p m a) (ez : z = m + n) (h2 : zPos S d e p z b) (e3 : n0 = d.1 e 2) (e4 : c = n0 - b) (g1 : u1 = ycs d (S.2.2.1 e 0) (xsl 5000 5000 (d.2.2.2.1 (S.2.2.1 e 0)) (d.2.2.2.1 (S.2.2.1 e 0)) b a c)) (e5 : n1 = u1.1 e 2) (e6 : w = b - a) (e7 : n2 = n1 - w) (g2 : u2 = yi u1 e 2 n2) (er : r = b - a) : zRem S d u2 e p m n r := fun E hE p0 p7 m0 n0' hmn => by
  obtain ⟨x1, x2⟩ := zxadd (p := p) ez m0 n0' hmn
  have a1 := h1 E hE p0 p7 m0 (by omega)
  have b1 := h2 E hE p0 p7 (by omega) (by omega)
  have hT : zx p m + n.toInt.toNat ≤ zT := by rw [← x1]; exact zxle p7 (by omega)
  have l := zlen_add (E := E) (x := zx p m) (n := n.toInt.toNat)
  rw [x1, l] at b1
  have hlen := congrArg List.length (zF_cut3 (E := E) hT)
  rw [List.length_append, List.length_append] at hlen
  have hz := hE.2.1
  have hn := hz.1
  have hl := hE.2.2
  rw [zF_cut3 (E := E) hT] at hz
  have c' : c.toInt = n0.toInt - b.toInt := tsub e4 rfl rfl (by rw [e3]; omega) (by rw [e3]; omega)
  have n1' : n1 = d.1 e 2 := by rw [e5, g1]; rfl
  have w' : w.toInt = b.toInt - a.toInt := tsub e6 rfl rfl (by omega) (by omega)
  have n2' : n2.toInt = (d.1 e 2).toInt - w.toInt := by rw [← n1']; exact tsub e7 rfl rfl (by rw [n1']; omega) (by rw [n1']; omega)
  have r' : r.toInt = b.toInt - a.toInt := tsub er rfl rfl (by omega) (by omega)
  have a0 : u2.2.2.2.1 (S.2.2.1 e 0) = xsl 5000 5000 (d.2.2.2.1 (S.2.2.1 e 0)) (d.2.2.2.1 (S.2.2.1 e 0)) b a c := by
    rw [g2]
    show u1.2.2.2.1 (S.2.2.1 e 0) = _
    rw [g1, ycs_at]
  have a2 : u2.1 e 2 = n2 := by rw [g2]; exact yi_self
  have fin := zA.rem (n' := n2) (fr := a) (to := b) (c := c) hz (by omega) a1 (by omega) (by rw [c', e3]; omega) (by omega)
  refine ⟨⟨zClr_8 hE.1, ?_, ?_⟩, by omega⟩
  · rw [a0, a2, zClr_F hT]; exact fin
  · rw [zClr_F hT, List.length_append]; omega
/-- minutes copied: what is asked -/
def zCx (S : yS) (d : yD) (e : Nat) (q m p t n : Int32) (E : Nat → List Nat) : Prop := zEc S d e E ∧ (0 ≤ q.toInt ∧ q.toInt ≤ 7) ∧ (0 ≤ p.toInt ∧ p.toInt ≤ 7) ∧ 0 ≤ m.toInt ∧ 0 ≤ n.toInt ∧ m.toInt + n.toInt ≤ 129600 ∧ 0 ≤ t.toInt ∧ t.toInt + n.toInt ≤ 129600 ∧ (zF (zClr E (zx p t) n.toInt.toNat) 0 zT).length + (zF E (zx q m) n.toInt.toNat).length ≤ 5000
def zCpR (S : yS) (d u : yD) (e : Nat) (q m p t n : Int32) : Prop := ∀ E, zCx S d e q m p t n E → zEc S u e (zCpy E (zx q m) (zx p t) n.toInt.toNat)
/-- in the midst of the copy -/
def zCpI (S : yS) (d u : yD) (e : Nat) (q m p t n cnt to fu i : Int32) : Prop := ∀ E, zCx S d e q m p t n E → cnt.toInt = ((zF E (zx q m) n.toInt.toNat).length : Int) ∧ to.toInt = ((zF E 0 (zx p t)).length : Int) ∧ fu.toInt = 8 * (zx p t : Int) - 8 * (zx q m : Int) ∧ 0 ≤ i.toInt ∧ i.toInt ≤ cnt.toInt ∧ (∀ (j x : Nat), (zF E (zx q m) n.toInt.toNat)[j]? = some x → (u.2.2.2.1 (S.2.2.1 e 1) j).toInt = (x : Int)) ∧ (u.1 e 2).toInt = ((zF E 0 (zx p t)).length : Int) + ((zF E (zx p t + n.toInt.toNat) (zT - (zx p t + n.toInt.toNat))).length : Int) ∧ zGp (u.2.2.2.1 (S.2.2.1 e 0)) (zF E 0 (zx p t)) (zF (zCpy E (zx q m) (zx p t) n.toInt.toNat) (zx p t) n.toInt.toNat) (zF E (zx p t + n.toInt.toNat) (zT - (zx p t + n.toInt.toNat))) i.toInt.toNat
theorem zCx.T {S : yS} {d : yD} {e : Nat} {q m p t n : Int32} {E : Nat → List Nat} (h : zCx S d e q m p t n E) : zx p t + n.toInt.toNat ≤ zT ∧ zx q m + n.toInt.toNat ≤ zT ∧ (zF E 0 (zx p t)).length + (zF E (zx p t + n.toInt.toNat) (zT - (zx p t + n.toInt.toNat))).length + (zF E (zx q m) n.toInt.toNat).length ≤ 5000 ∧ (zF (zCpy E (zx q m) (zx p t) n.toInt.toNat) (zx p t) n.toInt.toNat).length = (zF E (zx q m) n.toInt.toNat).length := by
  obtain ⟨h1, ⟨q0, q7⟩, ⟨p0, p7⟩, m0, n0, hm, t0, ht, hc⟩ := h
  have z := zT_eq
  have hT : zx p t + n.toInt.toNat ≤ zT := by show 129600 * p.toInt.toNat + t.toInt.toNat + _ ≤ _; omega
  have hQ : zx q m + n.toInt.toNat ≤ zT := by show 129600 * q.toInt.toNat + m.toInt.toNat + _ ≤ _; omega
  rw [zClr_F hT, List.length_append] at hc
  have l := congrArg List.length (zCpy_M (E := E) (a := zx q m) (b := zx p t) (n := n.toInt.toNat))
  rw [List.length_map, List.length_map] at l
  exact ⟨hT, hQ, hc, l⟩
theorem zsh_at {M B : List Nat} {a b i y : Nat} (h : M.map (fun y => y + 8 * a) = B.map (fun x => x + 8 * b)) (hy : M[i]? = some y) : ∃ x, B[i]? = some x ∧ y + 8 * a = x + 8 * b := by
  have q := congrArg (fun L : List Nat => L[i]?) h
  have q : (M.map (fun y => y + 8 * a))[i]? = (B.map (fun x => x + 8 * b))[i]? := q
  rw [List.getElem?_map, List.getElem?_map, hy] at q
  cases hb : B[i]? with
  | none => rw [hb] at q; cases q
  | some x =>
    rw [hb] at q
    exact ⟨x, rfl, Option.some.inj q⟩
theorem zCpI.ini {S : yS} {d u1 u2 u3 : yD} {e : Nat} {q m p t n cnt fr to to2 c n1 k1 k2 fu rr : Int32} (hSh : ySh S) (he : e ∈ S.1) (hk : S.2.1 e = 2) (h1 : zPos S d e q m fr) (h2 : zCnt S d e q m n cnt) (g1 : u1 = ycs d (S.2.2.1 e 1) (xsl 5000 5000 (d.2.2.2.1 (S.2.2.1 e 0)) (d.2.2.2.1 (S.2.2.1 e 1)) fr 0 cnt)) (h3 : zRem S u1 u2 e p t n rr) (hs : u2.2.2.2.1 (S.2.2.1 e 1) = u1.2.2.2.1 (S.2.2.1 e 1)) (h4 : zPos S u2 e p t to) (e1 : to2 = to + cnt) (e2 : n1 = u2.1 e 2) (e3 : c = n1 - to) (g3 : u3 = ycs u2 (S.2.2.1 e 0) (xsl 5000 5000 (u2.2.2.2.1 (S.2.2.1 e 0)) (u2.2.2.2.1 (S.2.2.1 e 0)) to to2 c)) (ek1 : k1 = (p * 129600 + t) * 8 + 0) (ek2 : k2 = (q * 129600 + m) * 8 + 0) (ef : fu = k1 - k2) : zCpI S d u3 e q m p t n cnt to fu 0 := fun E hC => by
  obtain ⟨hT, hQ, hcap, hlM⟩ := hC.T
  obtain ⟨hE, ⟨q0, q7⟩, ⟨p0, p7⟩, m0, n0', hmn, t0, htn, -⟩ := hC
  have z0 : (0 : Int32).toInt = 0 := by decide +kernel
  have c01 : S.2.2.1 e 1 ≠ S.2.2.1 e 0 := fun w => by
    have c0 := (ySh.f2_0 hSh e he hk).2
    rw [← w, (ySh.f2_1 hSh e he hk).2] at c0
    cases c0
  have hf := h1 E hE q0 q7 m0 (by omega)
  have hc := h2 E hE q0 q7 m0 n0' hmn
  have hE1 : zEc S u1 e E := hE.cg (by rw [g1]; rfl) (by rw [g1]; exact ycs_ne (Ne.symm c01))
  obtain ⟨hE2, -⟩ := h3 E hE1 p0 p7 t0 n0' htn
  have ht := h4 _ hE2 p0 p7 t0 (by omega)
  rw [zF_cg (E := E) (E' := zClr E (zx p t) n.toInt.toNat) (zx p t) (fun x a b => if_neg (by omega))] at ht
  have hz2 := hE2.2.1
  have hl2 := hE2.2.2
  rw [zClr_F hT] at hz2
  have hn2 := hz2.1
  rw [List.length_append] at hn2
  have hzd := hE.2.1
  rw [zF_cut3 hQ] at hzd
  have hl := hE.2.2
  have hlen := congrArg List.length (zF_cut3 (E := E) hQ)
  rw [List.length_append, List.length_append] at hlen
  have to2' : to2.toInt = to.toInt + cnt.toInt := tadd e1 rfl rfl (by omega) (by omega)
  have c' : c.toInt = n1.toInt - to.toInt := tsub e3 rfl rfl (by rw [e2]; omega) (by rw [e2]; omega)
  have a1 := zkey rfl rfl rfl ek1 p0 p7 t0 (by omega) (by omega) (by omega)
  have a2 := zkey rfl rfl rfl ek2 q0 q7 m0 (by omega) (by omega) (by omega)
  have b1 := zxle (p := p) (m := t) p7 (by omega)
  have b2 := zxle (p := q) (m := m) q7 (by omega)
  have zt := zT_eq
  have fu' : fu.toInt = k1.toInt - k2.toInt := tsub ef rfl rfl (by omega) (by omega)
  have s3 : u3.2.2.2.1 (S.2.2.1 e 1) = xsl 5000 5000 (d.2.2.2.1 (S.2.2.1 e 0)) (d.2.2.2.1 (S.2.2.1 e 1)) fr 0 cnt := by rw [g3, ycs_ne c01, hs, g1, ycs_at]
  have s4 : u3.1 e 2 = u2.1 e 2 := by rw [g3]; rfl
  have s5 : u3.2.2.2.1 (S.2.2.1 e 0) = xsl 5000 5000 (u2.2.2.2.1 (S.2.2.1 e 0)) (u2.2.2.2.1 (S.2.2.1 e 0)) to to2 c := by rw [g3, ycs_at]
  refine ⟨hc.1, ht, by omega, by omega, by omega, fun j x hx => ?_, by rw [s4]; omega, ?_⟩
  · have hj := zlt hx
    rw [s3, xsl_k (by decide) (by decide) (by omega) (by omega) (by omega) (by omega) (by omega), if_pos (by omega), show fr.toInt.toNat + (j - (0 : Int32).toInt.toNat) = (zF E 0 (zx q m)).length + j by omega]
    exact hzd.2 _ x (by rw [zR_, zL_ hj]; exact hx)
  · rw [s5, z0]
    exact zGp.ini hz2 (by omega) ht (by omega) (by rw [c', e2]; omega)
theorem zCpI.step {S : yS} {d u v : yD} {e : Nat} {q m p t n cnt to fu i i2 x y : Int32} (h : zCpI S d u e q m p t n cnt to fu i) (hSh : ySh S) (he : e ∈ S.1) (hk : S.2.1 e = 2) (c : ¬ cnt ≤ i) (e1 : i2 = to + i) (e2 : x = xat 5000 (u.2.2.2.1 (S.2.2.1 e 1)) i) (e3 : y = x + fu) (g : v = ycs u (S.2.2.1 e 0) (xput 5000 (u.2.2.2.1 (S.2.2.1 e 0)) i2 y)) : zCpI S d v e q m p t n cnt to fu (i + 1) := fun E hC => by
  obtain ⟨hT, hQ, hcap, hlM⟩ := hC.T
  obtain ⟨a1, a2, a3, a4, a5, a6, a7, a8⟩ := h E hC
  obtain ⟨hE, ⟨q0, q7⟩, ⟨p0, p7⟩, m0, n0', hmn, t0, htn, -⟩ := hC
  have c01 : S.2.2.1 e 1 ≠ S.2.2.1 e 0 := fun w => by
    have c0 := (ySh.f2_0 hSh e he hk).2
    rw [← w, (ySh.f2_1 hSh e he hk).2] at c0
    cases c0
  have c1 := Int32.lt_iff_toInt_lt.mp (Int32.not_le.mp c)
  have hi : (i + 1).toInt = i.toInt + 1 := tadd rfl rfl i_one (by omega) (by omega)
  have b1 := zxle (p := p) (m := t) p7 (by omega)
  have b2 := zxle (p := q) (m := m) q7 (by omega)
  have zt := zT_eq
  have hj : i.toInt.toNat < (zF (zCpy E (zx q m) (zx p t) n.toInt.toNat) (zx p t) n.toInt.toNat).length := by omega
  obtain ⟨y0, hy⟩ : ∃ y0, (zF (zCpy E (zx q m) (zx p t) n.toInt.toNat) (zx p t) n.toInt.toNat)[i.toInt.toNat]? = some y0 := ⟨_, List.getElem?_eq_getElem hj⟩
  obtain ⟨x0, hx0, hxy⟩ := zsh_at zCpy_M hy
  have hm0 := zF_mem hE.1 _ (List.mem_of_getElem? hx0)
  have i2' : i2.toInt = to.toInt + i.toInt := tadd e1 rfl rfl (by omega) (by omega)
  have x' : x.toInt = (x0 : Int) := by rw [e2, xat_in (by decide) (by omega) (by omega)]; exact a6 _ _ hx0
  have y' : y.toInt = x.toInt + fu.toInt := tadd e3 rfl rfl (by omega) (by omega)
  refine ⟨a1, a2, a3, by omega, by omega, fun j x hx => ?_, by rw [g]; exact a7, ?_⟩
  · rw [g, ycs_ne c01]; exact a6 j x hx
  · rw [g, ycs_at, show (i + 1).toInt.toNat = i.toInt.toNat + 1 by omega]
    exact zGp.step a8 (by omega) hy (by omega) (by omega)
theorem zCpI.fin {S : yS} {d u v : yD} {e : Nat} {q m p t n cnt to fu i n1 n2 : Int32} (h : zCpI S d u e q m p t n cnt to fu i) (c : cnt ≤ i) (e1 : n1 = u.1 e 2) (e2 : n2 = n1 + cnt) (g : v = yi u e 2 n2) : zCpR S d v e q m p t n := fun E hC => by
  obtain ⟨hT, hQ, hcap, hlM⟩ := hC.T
  obtain ⟨a1, a2, a3, a4, a5, a6, a7, a8⟩ := h E hC
  have c1 := Int32.le_iff_toInt_le.mp c
  have n2' : n2.toInt = (u.1 e 2).toInt + cnt.toInt := by rw [← e1]; exact tadd e2 rfl rfl (by rw [e1]; omega) (by rw [e1]; omega)
  refine ⟨zCpy_8 hC.1.1, ?_, ?_⟩
  · rw [zCpy_F hT, show v.1 e 2 = n2 by rw [g]; exact yi_self, show v.2.2.2.1 (S.2.2.1 e 0) = u.2.2.2.1 (S.2.2.1 e 0) by rw [g]; rfl]
    exact a8.fin (by omega) (by omega)
  · rw [zCpy_F hT, List.length_append, List.length_append]
    omega
/-- too many: that can't be -/
theorem zCpR.no {S : yS} {d u1 u2 : yD} {e : Nat} {q m p t n cnt n1 z rr : Int32} (hSh : ySh S) (he : e ∈ S.1) (hk : S.2.1 e = 2) (h2 : zCnt S d e q m n cnt) {f : Nat → Int32} (g1 : u1 = ycs d (S.2.2.1 e 1) f) (h3 : zRem S u1 u2 e p t n rr) (e2 : n1 = u2.1 e 2) (e3 : z = n1 + cnt) (c : ¬ z ≤ 5000) {v : yD} : zCpR S d v e q m p t n := fun E hC => by
  obtain ⟨hT, hQ, hcap, hlM⟩ := hC.T
  obtain ⟨hE, ⟨q0, q7⟩, ⟨p0, p7⟩, m0, n0', hmn, t0, htn, -⟩ := hC
  have c01 : S.2.2.1 e 1 ≠ S.2.2.1 e 0 := fun w => by
    have c0 := (ySh.f2_0 hSh e he hk).2
    rw [← w, (ySh.f2_1 hSh e he hk).2] at c0
    cases c0
  have hc := h2 E hE q0 q7 m0 n0' hmn
  have hE1 : zEc S u1 e E := hE.cg (by rw [g1]; rfl) (by rw [g1]; exact ycs_ne (Ne.symm c01))
  obtain ⟨hE2, -⟩ := h3 E hE1 p0 p7 t0 n0' htn
  have hz2 := hE2.2.1
  rw [zClr_F hT] at hz2
  have hn2 := hz2.1
  rw [List.length_append] at hn2
  have c5 : (5000 : Int32).toInt = 5000 := by decide +kernel
  have c1 := Int32.lt_iff_toInt_lt.mp (Int32.not_le.mp c)
  have z' : z.toInt = (u2.1 e 2).toInt + cnt.toInt := by rw [← e2]; exact tadd e3 rfl rfl (by rw [e2]; omega) (by rw [e2]; omega)
  omega
/-- all EVENTS of another row -/
theorem zEt {S : yS} {d u1 u2 : yD} {e e2 : Nat} {n0 n1 : Int32} {E : Nat → List Nat} (hE : zEc S d e2 E) (e1 : n0 = d.1 e2 2) (g1 : u1 = yi d e 2 n0) (e3 : n1 = u1.1 e 2) (g2 : u2 = ycs u1 (S.2.2.1 e 0) (xsl 5000 5000 (u1.2.2.2.1 (S.2.2.1 e2 0)) (u1.2.2.2.1 (S.2.2.1 e 0)) 0 0 n1)) : zEc S u2 e E := by
  have z0 : (0 : Int32).toInt = 0 := by decide +kernel
  have n1' : n1 = d.1 e2 2 := by rw [e3, g1, yi_self, e1]
  have hn := hE.2.1.1
  have hl := hE.2.2
  refine ⟨hE.1, ⟨?_, fun i x hx => ?_⟩, hl⟩
  · rw [g2]
    show (u1.1 e 2).toInt = _
    rw [g1, yi_self, e1]; exact hn
  · have hi := zlt hx
    rw [g2, ycs_at, xsl_k (by decide) (by decide) (by omega) (by omega) (by rw [n1']; omega) (by rw [n1']; omega) (by rw [n1']; omega), if_pos (by rw [n1']; omega), show (0 : Int32).toInt.toNat + (i - (0 : Int32).toInt.toNat) = i by omega, g1]
    exact hE.2.1.2 i x hx
/-- the latest STATE that a list of EVENTS tells -/
def zLS (L : List Nat) : Int := L.foldl (fun s x => if 3 ≤ x % 8 ∧ x % 8 ≤ 6 then ((x % 8 : Nat) : Int) - 2 else s) 0
theorem zLS_snoc {L : List Nat} {x : Nat} : zLS (L ++ [x]) = if 3 ≤ x % 8 ∧ x % 8 ≤ 6 then ((x % 8 : Nat) : Int) - 2 else zLS L := by
  unfold zLS
  rw [List.foldl_append]
  rfl
theorem ztake {B : List Nat} {j x : Nat} (h : B[j]? = some x) : B.take (j + 1) = B.take j ++ [x] := by
  rw [List.take_add_one, h]
  rfl
def zSt (S : yS) (d : yD) (e : Nat) (p m r : Int32) : Prop := ∀ E, zEc S d e E → 0 ≤ p.toInt → p.toInt ≤ 7 → 0 ≤ m.toInt → m.toInt ≤ 129599 → r.toInt = zLS (zF E (129600 * p.toInt.toNat) (m.toInt.toNat + 1))
/-- in the midst of the search for a STATE -/
def zStI (S : yS) (d : yD) (e : Nat) (p m fi i : Int32) : Prop := ∀ E, zEc S d e E → 0 ≤ p.toInt → p.toInt ≤ 7 → 0 ≤ m.toInt → m.toInt ≤ 129599 → fi.toInt = ((zF E 0 (129600 * p.toInt.toNat)).length : Int) ∧ fi.toInt - 1 ≤ i.toInt ∧ i.toInt < fi.toInt + ((zF E (129600 * p.toInt.toNat) (m.toInt.toNat + 1)).length : Int) ∧ zLS (zF E (129600 * p.toInt.toNat) (m.toInt.toNat + 1)) = zLS ((zF E (129600 * p.toInt.toNat) (m.toInt.toNat + 1)).take (i.toInt - fi.toInt + 1).toNat)
theorem zStI.cut {E : Nat → List Nat} {p m : Int32} (p0 : 0 ≤ p.toInt) (p7 : p.toInt ≤ 7) (m0 : 0 ≤ m.toInt) (m1 : m.toInt ≤ 129599) : zF E 0 zT = zF E 0 (129600 * p.toInt.toNat) ++ (zF E (129600 * p.toInt.toNat) (m.toInt.toNat + 1) ++ zF E (129600 * p.toInt.toNat + (m.toInt.toNat + 1)) (zT - (129600 * p.toInt.toNat + (m.toInt.toNat + 1)))) := zF_cut3 (by have q := zT_eq; omega)
theorem zStI.ini {S : yS} {d : yD} {e : Nat} {p m m1 fi g i : Int32} (h1 : zPos S d e p 0 fi) (e1 : m1 = m + 1) (h2 : zPos S d e p m1 g) (e2 : i = g - 1) : zStI S d e p m fi i := fun E hE p0 p7 m0 m1' => by
  have z0 : (0 : Int32).toInt = 0 := by decide +kernel
  have q1 : m1.toInt = m.toInt + 1 := tadd e1 rfl i_one (by omega) (by omega)
  have a := h1 E hE p0 p7 (by omega) (by omega)
  have b := h2 E hE p0 p7 (by omega) (by omega)
  have x0 : zx p 0 = 129600 * p.toInt.toNat := by show 129600 * p.toInt.toNat + (0 : Int32).toInt.toNat = _; omega
  have x1 : zx p m1 = 129600 * p.toInt.toNat + (m.toInt.toNat + 1) := by show 129600 * p.toInt.toNat + m1.toInt.toNat = _; omega
  rw [x0] at a
  rw [x1, zlen_add] at b
  have hl := hE.2.2
  rw [zStI.cut (E := E) p0 p7 m0 m1', List.length_append, List.length_append] at hl
  have i' : i.toInt = g.toInt - 1 := tsub e2 rfl i_one (by omega) (by omega)
  refine ⟨a, by omega, by omega, ?_⟩
  rw [List.take_of_length_le (by omega)]
theorem zrem8 {k : Int32} {x : Nat} (h : k.toInt = (x : Int)) {z : Int32} (ez : z = k - k / 8 * 8) : z.toInt = ((x % 8 : Nat) : Int) := by
  have q := trem ez h (by decide +kernel : (8 : Int32).toInt = 8) (by omega) (by omega)
  omega
theorem zStI.el {S : yS} {d : yD} {e : Nat} {p m fi i : Int32} {E : Nat → List Nat} (h : zStI S d e p m fi i) (c : ¬ i < fi) (hE : zEc S d e E) (p0 : 0 ≤ p.toInt) (p7 : p.toInt ≤ 7) (m0 : 0 ≤ m.toInt) (m1 : m.toInt ≤ 129599) : ∃ x, (zF E (129600 * p.toInt.toNat) (m.toInt.toNat + 1))[(i.toInt - fi.toInt).toNat]? = some x ∧ (xat 5000 (d.2.2.2.1 (S.2.2.1 e 0)) i).toInt = (x : Int) ∧ fi.toInt ≤ i.toInt ∧ i.toInt ≤ 5000 := by
  obtain ⟨a1, a2, a3, -⟩ := h E hE p0 p7 m0 m1
  have c1 := Int32.le_iff_toInt_le.mp (Int32.not_lt.mp c)
  have hz := hE.2.1
  have hl := hE.2.2
  rw [zStI.cut (E := E) p0 p7 m0 m1] at hz hl
  rw [List.length_append, List.length_append] at hl
  have hj : (i.toInt - fi.toInt).toNat < (zF E (129600 * p.toInt.toNat) (m.toInt.toNat + 1)).length := by omega
  obtain ⟨x, hx⟩ : ∃ x, (zF E (129600 * p.toInt.toNat) (m.toInt.toNat + 1))[(i.toInt - fi.toInt).toNat]? = some x := ⟨_, List.getElem?_eq_getElem hj⟩
  refine ⟨x, hx, ?_, c1, by omega⟩
  rw [xat_in (by decide) (by omega) (by omega), show i.toInt.toNat = (zF E 0 (129600 * p.toInt.toNat)).length + (i.toInt - fi.toInt).toNat by omega]
  exact hz.2 _ x (by rw [zR_, zL_ hj]; exact hx)
theorem zStI.step {S : yS} {d : yD} {e : Nat} {p m fi i i2 k w : Int32} (h : zStI S d e p m fi i) (c : ¬ i < fi) (ek : k = xat 5000 (d.2.2.2.1 (S.2.2.1 e 0)) i - xat 5000 (d.2.2.2.1 (S.2.2.1 e 0)) i / 8 * 8) (hw : (w = 1 ∧ ¬ k < 3 ∧ ¬ 6 < k) ∨ (w = 0 ∧ (k < 3 ∨ 6 < k))) (cw : w = 0) (ei : i2 = i + (-1)) : zStI S d e p m fi i2 := fun E hE p0 p7 m0 m1 => by
  obtain ⟨x, hx, hk, b1, b2⟩ := h.el c hE p0 p7 m0 m1
  obtain ⟨a1, a2, a3, a4⟩ := h E hE p0 p7 m0 m1
  have k' := zrem8 hk ek
  have i2' : i2.toInt = i.toInt + -1 := tadd ei rfl (by decide +kernel : (-1 : Int32).toInt = -1) (by omega) (by omega)
  have z3 : (3 : Int32).toInt = 3 := by decide +kernel
  have z6 : (6 : Int32).toInt = 6 := by decide +kernel
  have hn : ¬ (3 ≤ x % 8 ∧ x % 8 ≤ 6) := by
    rcases hw with ⟨w1, -⟩ | ⟨-, w1 | w1⟩
    · rw [cw] at w1; exact absurd w1 (by decide)
    · have q := Int32.lt_iff_toInt_lt.mp w1; omega
    · have q := Int32.lt_iff_toInt_lt.mp w1; omega
  refine ⟨a1, by omega, by omega, ?_⟩
  rw [a4, show (i.toInt - fi.toInt + 1).toNat = (i.toInt - fi.toInt).toNat + 1 by omega, ztake hx, zLS_snoc, if_neg hn, show (i2.toInt - fi.toInt + 1).toNat = (i.toInt - fi.toInt).toNat by omega]
theorem zStI.hit {S : yS} {d : yD} {e : Nat} {p m fi i k k2 w r1 r : Int32} (h : zStI S d e p m fi i) (c : ¬ i < fi) (ek : k = xat 5000 (d.2.2.2.1 (S.2.2.1 e 0)) i - xat 5000 (d.2.2.2.1 (S.2.2.1 e 0)) i / 8 * 8) (hw : (w = 1 ∧ ¬ k < 3 ∧ ¬ 6 < k) ∨ (w = 0 ∧ (k < 3 ∨ 6 < k))) (cw : ¬ w = 0) (ek2 : k2 = xat 5000 (d.2.2.2.1 (S.2.2.1 e 0)) i - xat 5000 (d.2.2.2.1 (S.2.2.1 e 0)) i / 8 * 8) (e1 : r1 = k2 - 3) (e2 : r = r1 + 1) : zSt S d e p m r := fun E hE p0 p7 m0 m1 => by
  obtain ⟨x, hx, hk, b1, b2⟩ := h.el c hE p0 p7 m0 m1
  obtain ⟨a1, a2, a3, a4⟩ := h E hE p0 p7 m0 m1
  have k' := zrem8 hk ek
  have k2' := zrem8 hk ek2
  have z3 : (3 : Int32).toInt = 3 := by decide +kernel
  have z6 : (6 : Int32).toInt = 6 := by decide +kernel
  have hn : 3 ≤ x % 8 ∧ x % 8 ≤ 6 := by
    rcases hw with ⟨-, w1, w2⟩ | ⟨w1, -⟩
    · have q1 := Int32.le_iff_toInt_le.mp (Int32.not_lt.mp w1)
      have q2 := Int32.le_iff_toInt_le.mp (Int32.not_lt.mp w2)
      omega
    · exact absurd w1 cw
  have r1' : r1.toInt = k2.toInt - 3 := tsub e1 rfl z3 (by omega) (by omega)
  have r' : r.toInt = r1.toInt + 1 := tadd e2 rfl i_one (by omega) (by omega)
  rw [a4, show (i.toInt - fi.toInt + 1).toNat = (i.toInt - fi.toInt).toNat + 1 by omega, ztake hx, zLS_snoc, if_pos hn]
  omega
theorem zStI.fin {S : yS} {d : yD} {e : Nat} {p m fi i : Int32} (h : zStI S d e p m fi i) (c : i < fi) : zSt S d e p m 0 := fun E hE p0 p7 m0 m1 => by
  obtain ⟨a1, a2, a3, a4⟩ := h E hE p0 p7 m0 m1
  have c1 := Int32.lt_iff_toInt_lt.mp c
  rw [a4, show (i.toInt - fi.toInt + 1).toNat = 0 by omega]
  exact (by decide +kernel : (0 : Int32).toInt = 0)
/-! the DAYS of ports: their known minutes -/
def zKI (S : yS) (d : yD) (a : Nat) (m : Int32) : Int := if m - m / 1440 * 1440 < xat 90 (d.2.2.2.1 (S.2.2.1 a 0)) (m / 1440) then 1 else 0
theorem zKI_1 {S : yS} {d : yD} {a : Nat} {m z q k : Int32} (ez : z = m - m / 1440 * 1440) (eq : q = m / 1440) (ek : k = xat 90 (d.2.2.2.1 (S.2.2.1 a 0)) q) (c : ¬ k ≤ z) : (1 : Int32).toInt = zKI S d a m := by
  unfold zKI
  rw [← ez, ← eq, ← ek, if_pos (Int32.not_le.mp c)]
  decide +kernel
theorem zKI_0 {S : yS} {d : yD} {a : Nat} {m z q k : Int32} (ez : z = m - m / 1440 * 1440) (eq : q = m / 1440) (ek : k = xat 90 (d.2.2.2.1 (S.2.2.1 a 0)) q) (c : k ≤ z) : (0 : Int32).toInt = zKI S d a m := by
  unfold zKI
  rw [← ez, ← eq, ← ek, if_neg (Int32.not_lt.mpr c)]
  decide +kernel
