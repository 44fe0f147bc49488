/-! copy() of the reference -/
theorem zF_in2 {E : Nat → List Nat} (h8 : zK8 E) {a N x n : Nat} (h1 : a ≤ x) (h2 : x + n ≤ a + N) : (zF E a N).filter (zIn x (x + n)) = zF E x n := by
  have e : zF E a N = zF E a (x - a) ++ (zF E x n ++ zF E (x + n) (a + N - (x + n))) := by
    have q1 := zF_add (E := E) (a := a) (n := x - a) (N - (x - a))
    rw [show x - a + (N - (x - a)) = N by omega, show a + (x - a) = x by omega] at q1
    have q2 := zF_add (E := E) (a := x) (n := n) (a + N - (x + n))
    rw [show n + (a + N - (x + n)) = N - (x - a) by omega] at q2
    rw [q1, q2]
  have f1 : (zF E a (x - a)).filter (zIn x (x + n)) = [] := zf_no (fun y hy w => by have w := of_decide_eq_true w; have q := zF_mem h8 _ hy; omega)
  have f2 : (zF E x n).filter (zIn x (x + n)) = zF E x n := zf_all (fun y hy => decide_eq_true (by have q := zF_mem h8 _ hy; omega))
  have f3 : (zF E (x + n) (a + N - (x + n))).filter (zIn x (x + n)) = [] := zf_no (fun y hy w => by have w := of_decide_eq_true w; have q := zF_mem h8 _ hy; omega)
  rw [e, List.filter_append, List.filter_append, f1, f2, f3, List.nil_append, List.append_nil]
theorem zF_view {E : Nat → List Nat} (h8 : zK8 E) {A z : Nat} : ∀ N, ((zF E A N).filter (fun x => decide (x / 8 = z))).map (fun x => x % 8) = if A ≤ z ∧ z < A + N then E z else []
  | 0 => by
    rw [if_neg (by omega)]
    rfl
  | N + 1 => by
    show (((zF E A N ++ (E (A + N)).map (fun k => (A + N) * 8 + k))).filter (fun x => decide (x / 8 = z))).map (fun x => x % 8) = _
    rw [List.filter_append, List.map_append, zF_view h8 N]
    by_cases c : z = A + N
    · subst c
      have f1 : ((E (A + N)).map (fun k => (A + N) * 8 + k)).filter (fun x => decide (x / 8 = A + N)) = (E (A + N)).map (fun k => (A + N) * 8 + k) := zf_all (fun y hy => by
        obtain ⟨j, hj, e⟩ := List.mem_map.mp hy
        have q := h8 _ j hj
        have e : (A + N) * 8 + j = y := e
        exact decide_eq_true (by omega))
      rw [if_neg (by omega), if_pos (by omega), List.nil_append, f1, List.map_map]
      have g : (E (A + N)).map ((fun x => x % 8) ∘ fun k => (A + N) * 8 + k) = (E (A + N)).map id := List.map_congr_left (fun j hj => by
        have q := h8 _ j hj
        show ((A + N) * 8 + j) % 8 = j
        omega)
      rw [g, List.map_id]
    · have f1 : ((E (A + N)).map (fun k => (A + N) * 8 + k)).filter (fun x => decide (x / 8 = z)) = [] := zf_no (fun y hy w => by
        obtain ⟨j, hj, e⟩ := List.mem_map.mp hy
        have q := h8 _ j hj
        have e : (A + N) * 8 + j = y := e
        have w := of_decide_eq_true w
        omega)
      rw [f1, List.map_nil, List.append_nil]
      by_cases k : A ≤ z ∧ z < A + N
      · rw [if_pos k, if_pos (by omega)]
      · rw [if_neg k, if_neg (by omega)]
theorem zycn {P : Nat → Bool} {p : Nat → Bool} {L : List Nat} (h : ∀ (i x : Nat), L[i]? = some x → P i = p x) : ∀ k, k ≤ L.length → ycn P k = ((L.take k).filter p).length
  | 0, _ => rfl
  | k + 1, hk => by
    have hx : L[k]? = some L[k] := List.getElem?_eq_getElem (by omega)
    show ycn P k + (if P k = true then 1 else 0) = _
    rw [zycn h k (by omega), ztake hx, List.filter_append, List.length_append, h k _ hx]
    by_cases c : p L[k] = true
    · rw [if_pos c, List.filter_cons_of_pos c]; rfl
    · rw [if_neg c, List.filter_cons_of_neg c]; rfl
theorem zycn_all {P : Nat → Bool} {p : Nat → Bool} {L : List Nat} (h : ∀ (i x : Nat), L[i]? = some x → P i = p x) : ycn P L.length = (L.filter p).length := by
  rw [zycn h L.length (Nat.le_refl _), List.take_of_length_le (Nat.le_refl _)]
theorem upd_id {f : Nat → Int32} {k : Nat} : upd f k (f k) = f := by
  funext j
  rw [zupd]
  by_cases c : j = k
  · rw [if_pos c, c]
  · rw [if_neg c]
/-- the EVENTS of a port put aside: so far -/
def zM1 (S : yS) (d0 d : yD) (m : Nat) (q many k : Int32) : Prop := ∀ E, zEm S d0 m E → 0 ≤ q.toInt → q.toInt ≤ 7 → 0 ≤ k.toInt ∧ k.toInt ≤ ((zF E 0 zT).length : Int) ∧ many.toInt = ((((zF E 0 zT).take k.toInt.toNat).filter (zIn (129600 * q.toInt.toNat) (129600 * q.toInt.toNat + 129600))).length : Int) ∧ ∀ (i x : Nat), (((zF E 0 zT).take k.toInt.toNat).filter (zIn (129600 * q.toInt.toNat) (129600 * q.toInt.toNat + 129600)))[i]? = some x → (d.2.2.2.1 (S.2.2.1 m 40) i).toInt = ((x / 8 % 129600 : Nat) : Int) ∧ (d.2.2.2.1 (S.2.2.1 m 41) i).toInt = ((x % 8 : Nat) : Int)
theorem zM1.ini {S : yS} {d0 d : yD} {m : Nat} {q : Int32} : zM1 S d0 d m q 0 0 := fun E hE _ _ => by
  have z0 : (0 : Int32).toInt = 0 := by decide +kernel
  rw [z0]
  refine ⟨Int.le_refl _, by omega, rfl, fun i x hx => ?_⟩
  exact absurd (show ([] : List Nat)[i]? = some x from hx) (by simp)
theorem zM1.x {S : yS} {d0 : yD} {m : Nat} {k z0 : Int32} {E : Nat → List Nat} (e0 : z0.toInt = (d0.1 m 1).toInt) (c0 : ¬ z0 ≤ k) (hE : zEm S d0 m E) (k0 : 0 ≤ k.toInt) : ∃ x, (zF E 0 zT)[k.toInt.toNat]? = some x ∧ x < 8294400 := by
  have c := Int32.lt_iff_toInt_lt.mp (Int32.not_le.mp c0)
  rw [e0, hE.2.1] at c
  have hj : k.toInt.toNat < (zF E 0 zT).length := by omega
  exact ⟨_, List.getElem?_eq_getElem hj, zFx hE.1 (List.getElem_mem hj)⟩
theorem zM1.no {S : yS} {d0 d : yD} {m : Nat} {q many k z0 z : Int32} (h : zM1 S d0 d m q many k) (hb : (d0.1 m 1).toInt ≤ 5000) (e0 : z0.toInt = (d0.1 m 1).toInt) (c0 : ¬ z0 ≤ k) (h15 : d.2.2.2.1 (S.2.2.1 m 15) = d0.2.2.2.1 (S.2.2.1 m 15)) (ez : z = d.2.2.2.1 (S.2.2.1 m 15) k.toNatClampNeg) (c : ¬ z = q) : zM1 S d0 d m q many (k + 1) := fun E hE q0 q7 => by
  obtain ⟨a1, a2, a3, a4⟩ := h E hE q0 q7
  obtain ⟨x, hx, hx8⟩ := zM1.x e0 c0 hE a1
  have hl := zlt hx
  have hn := hE.2.1
  have hk : (k + 1).toInt = k.toInt + 1 := tadd rfl rfl i_one (by omega) (by omega)
  have hd := (hE.2.2 _ x hx).n hx8
  have hz : z.toInt ≠ q.toInt := fun w => c (Int32.toInt_inj.mp w)
  rw [ez, h15] at hz
  have hz : (d0.2.2.2.1 (S.2.2.1 m 15) k.toInt.toNat).toInt ≠ q.toInt := hz
  have ht : ((zF E 0 zT).take (k + 1).toInt.toNat).filter (zIn (129600 * q.toInt.toNat) (129600 * q.toInt.toNat + 129600)) = ((zF E 0 zT).take k.toInt.toNat).filter (zIn (129600 * q.toInt.toNat) (129600 * q.toInt.toNat + 129600)) := by
    rw [show (k + 1).toInt.toNat = k.toInt.toNat + 1 by omega, ztake hx, List.filter_append, List.filter_cons_of_neg (fun w => by have w := of_decide_eq_true w; omega), List.filter_nil, List.append_nil]
  rw [ht]
  exact ⟨by omega, by omega, a3, a4⟩
theorem zn4 {S : yS} {m : Nat} (hSh : ySh S) (hm : m ∈ S.1) (hk : S.2.1 m = 9) : S.2.2.1 m 40 ≠ S.2.2.1 m 41 ∧ S.2.2.1 m 42 ≠ S.2.2.1 m 43 := by
  have c5 := (ySh.f9_40 hSh m hm hk).2
  have c6 := (ySh.f9_41 hSh m hm hk).2
  have c7 := (ySh.f9_42 hSh m hm hk).2
  have c8 := (ySh.f9_43 hSh m hm hk).2
  exact ⟨(fun e => by rw [e, c6] at c5; cases c5), (fun e => by rw [e, c8] at c7; cases c7)⟩
theorem zM1.yes {S : yS} {d0 d d1 d2 : yD} {m : Nat} {q many k z0 z v1 v2 : Int32} (h : zM1 S d0 d m q many k) (hSh : ySh S) (hm : m ∈ S.1) (hkm : S.2.1 m = 9) (hb : (d0.1 m 1).toInt ≤ 5000) (e0 : z0.toInt = (d0.1 m 1).toInt) (c0 : ¬ z0 ≤ k) (h15 : d.2.2.2.1 (S.2.2.1 m 15) = d0.2.2.2.1 (S.2.2.1 m 15)) (h16 : d.2.2.2.1 (S.2.2.1 m 16) = d0.2.2.2.1 (S.2.2.1 m 16)) (h17 : d1.2.2.2.1 (S.2.2.1 m 17) = d0.2.2.2.1 (S.2.2.1 m 17)) (ez : z = d.2.2.2.1 (S.2.2.1 m 15) k.toNatClampNeg) (c : z = q) (ev1 : v1 = d.2.2.2.1 (S.2.2.1 m 16) k.toNatClampNeg) (e1 : d1 = ycs d (S.2.2.1 m 40) (upd (d.2.2.2.1 (S.2.2.1 m 40)) many.toNatClampNeg v1)) (ev2 : v2 = d1.2.2.2.1 (S.2.2.1 m 17) k.toNatClampNeg) (e2 : d2 = ycs d1 (S.2.2.1 m 41) (upd (d1.2.2.2.1 (S.2.2.1 m 41)) many.toNatClampNeg (vp_nar .byte v2))) : zM1 S d0 d2 m q (many + 1) (k + 1) := fun E hE q0 q7 => by
  obtain ⟨a1, a2, a3, a4⟩ := h E hE q0 q7
  obtain ⟨x, hx, hx8⟩ := zM1.x e0 c0 hE a1
  obtain ⟨n01, -⟩ := zn4 hSh hm hkm
  have hl := zlt hx
  have hn := hE.2.1
  have hle := List.length_filter_le (zIn (129600 * q.toInt.toNat) (129600 * q.toInt.toNat + 129600)) ((zF E 0 zT).take k.toInt.toNat)
  rw [List.length_take] at hle
  have hk : (k + 1).toInt = k.toInt + 1 := tadd rfl rfl i_one (by omega) (by omega)
  have hm1 : (many + 1).toInt = many.toInt + 1 := tadd rfl rfl i_one (by omega) (by omega)
  have hdx := hE.2.2 _ x hx
  have hd := hdx.n hx8
  have hz : z.toInt = q.toInt := by rw [c]
  rw [ez, h15] at hz
  have hz : (d0.2.2.2.1 (S.2.2.1 m 15) k.toInt.toNat).toInt = q.toInt := hz
  have u1 : v1 = d0.2.2.2.1 (S.2.2.1 m 16) k.toInt.toNat := by rw [ev1, h16]; rfl
  have u2 : vp_nar .byte v2 = d0.2.2.2.1 (S.2.2.1 m 17) k.toInt.toNat := by
    rw [ev2, h17]
    exact (nb (x := d0.2.2.2.1 (S.2.2.1 m 17) k.toInt.toNat) (by omega) (by omega)).2
  have ht : ((zF E 0 zT).take (k + 1).toInt.toNat).filter (zIn (129600 * q.toInt.toNat) (129600 * q.toInt.toNat + 129600)) = ((zF E 0 zT).take k.toInt.toNat).filter (zIn (129600 * q.toInt.toNat) (129600 * q.toInt.toNat + 129600)) ++ [x] := by
    rw [show (k + 1).toInt.toNat = k.toInt.toNat + 1 by omega, ztake hx, List.filter_append, List.filter_cons_of_pos (show zIn _ _ x = true from decide_eq_true (by omega)), List.filter_nil]
  have qi : many.toNatClampNeg = (((zF E 0 zT).take k.toInt.toNat).filter (zIn (129600 * q.toInt.toNat) (129600 * q.toInt.toNat + 129600))).length := (show many.toInt.toNat = _ by omega)
  have w1 : d2.2.2.2.1 (S.2.2.1 m 40) = upd (d.2.2.2.1 (S.2.2.1 m 40)) many.toNatClampNeg v1 := by rw [e2, ycs_ne n01, e1, ycs_at]
  have w2 : d2.2.2.2.1 (S.2.2.1 m 41) = upd (d.2.2.2.1 (S.2.2.1 m 41)) many.toNatClampNeg (vp_nar .byte v2) := by rw [e2, ycs_at, e1, ycs_ne (Ne.symm n01)]
  rw [ht]
  refine ⟨by omega, by omega, by rw [List.length_append, List.length_singleton]; omega, fun i y hy => ?_⟩
  rw [w1, w2, zupd, zupd, qi]
  have hy' := zlt hy
  rw [List.length_append, List.length_singleton] at hy'
  by_cases cc : i < (((zF E 0 zT).take k.toInt.toNat).filter (zIn (129600 * q.toInt.toNat) (129600 * q.toInt.toNat + 129600))).length
  · rw [if_neg (by omega), if_neg (by omega)]
    rw [zL_ cc] at hy
    exact a4 i y hy
  · obtain rfl : i = (((zF E 0 zT).take k.toInt.toNat).filter (zIn (129600 * q.toInt.toNat) (129600 * q.toInt.toNat + 129600))).length := by omega
    rw [if_pos rfl, if_pos rfl, u1, u2]
    have hy : (((zF E 0 zT).take k.toInt.toNat).filter (zIn (129600 * q.toInt.toNat) (129600 * q.toInt.toNat + 129600)) ++ [x])[(((zF E 0 zT).take k.toInt.toNat).filter (zIn (129600 * q.toInt.toNat) (129600 * q.toInt.toNat + 129600))).length + 0]? = some y := hy
    rw [zR_] at hy
    rw [← Option.some.inj hy]
    exact ⟨hdx.2.1, hdx.2.2⟩
/-- the EVENTS of a port put aside -/
def zQm (S : yS) (d : yD) (m : Nat) (q many : Int32) (E : Nat → List Nat) : Prop := many.toInt = ((zF E (129600 * q.toInt.toNat) 129600).length : Int) ∧ ∀ (i x : Nat), (zF E (129600 * q.toInt.toNat) 129600)[i]? = some x → (d.2.2.2.1 (S.2.2.1 m 40) i).toInt = ((x / 8 % 129600 : Nat) : Int) ∧ (d.2.2.2.1 (S.2.2.1 m 41) i).toInt = ((x % 8 : Nat) : Int)
theorem zM1.fin {S : yS} {d0 d : yD} {m : Nat} {q many k z0 : Int32} (h : zM1 S d0 d m q many k) (e0 : z0.toInt = (d0.1 m 1).toInt) (c0 : z0 ≤ k) {E : Nat → List Nat} (hE : zEm S d0 m E) (q0 : 0 ≤ q.toInt) (q7 : q.toInt ≤ 7) : zQm S d m q many E := by
  obtain ⟨a1, a2, a3, a4⟩ := h E hE q0 q7
  have c := Int32.le_iff_toInt_le.mp c0
  rw [e0, hE.2.1] at c
  rw [List.take_of_length_le (by omega), zF_in hE.1 (by have z := zT_eq; omega)] at a3 a4
  exact ⟨a3, a4⟩
/-- its DAYS put aside: so far -/
def zM2 (S : yS) (d0 d : yD) (m : Nat) (q k : Int32) : Prop := 0 ≤ k.toInt ∧ ∀ j : Nat, (j : Int) < k.toInt → d.2.2.2.1 (S.2.2.1 m 42) j = vp_nar .short (d0.2.2.2.1 (S.2.2.1 m 12) (90 * q.toInt.toNat + j)) ∧ d.2.2.2.1 (S.2.2.1 m 43) j = vp_nar .boolean (d0.2.2.2.1 (S.2.2.1 m 13) (90 * q.toInt.toNat + j))
theorem zM2.ini {S : yS} {d0 d : yD} {m : Nat} {q : Int32} : zM2 S d0 d m q 0 := ⟨by decide, fun j h => absurd h (by rw [show (0 : Int32).toInt = 0 by decide +kernel]; omega)⟩
theorem zM2.step {S : yS} {d0 d d1 d2 : yD} {m : Nat} {q k i1 i2 v1 v2 : Int32} (h : zM2 S d0 d m q k) (hSh : ySh S) (hm : m ∈ S.1) (hkm : S.2.1 m = 9) (c : ¬ 90 ≤ k) (h12 : d.2.2.2.1 (S.2.2.1 m 12) = d0.2.2.2.1 (S.2.2.1 m 12)) (h13 : d1.2.2.2.1 (S.2.2.1 m 13) = d0.2.2.2.1 (S.2.2.1 m 13)) (q1 : i1.toInt = 90 * q.toInt + k.toInt) (q2 : i2.toInt = 90 * q.toInt + k.toInt) (hq : 0 ≤ q.toInt) (ev1 : v1 = d.2.2.2.1 (S.2.2.1 m 12) i1.toNatClampNeg) (e1 : d1 = ycs d (S.2.2.1 m 42) (upd (d.2.2.2.1 (S.2.2.1 m 42)) k.toNatClampNeg (vp_nar .short v1))) (ev2 : v2 = d1.2.2.2.1 (S.2.2.1 m 13) i2.toNatClampNeg) (e2 : d2 = ycs d1 (S.2.2.1 m 43) (upd (d1.2.2.2.1 (S.2.2.1 m 43)) k.toNatClampNeg (vp_nar .boolean v2))) : zM2 S d0 d2 m q (k + 1) := by
  obtain ⟨-, n23⟩ := zn4 hSh hm hkm
  obtain ⟨a1, a2⟩ := h
  have z90 : (90 : Int32).toInt = 90 := by decide +kernel
  have c1 := Int32.lt_iff_toInt_lt.mp (Int32.not_le.mp c)
  have hk : (k + 1).toInt = k.toInt + 1 := tadd rfl rfl i_one (by omega) (by omega)
  have r1 : i1.toNatClampNeg = 90 * q.toInt.toNat + k.toInt.toNat := (show i1.toInt.toNat = _ by omega)
  have r2 : i2.toNatClampNeg = 90 * q.toInt.toNat + k.toInt.toNat := (show i2.toInt.toNat = _ by omega)
  have w1 : d2.2.2.2.1 (S.2.2.1 m 42) = upd (d.2.2.2.1 (S.2.2.1 m 42)) k.toInt.toNat (vp_nar .short v1) := by rw [e2, ycs_ne n23, e1, ycs_at]; rfl
  have w2 : d2.2.2.2.1 (S.2.2.1 m 43) = upd (d.2.2.2.1 (S.2.2.1 m 43)) k.toInt.toNat (vp_nar .boolean v2) := by rw [e2, ycs_at, e1, ycs_ne (Ne.symm n23)]; rfl
  refine ⟨by omega, fun j hj => ?_⟩
  rw [w1, w2, zupd, zupd]
  by_cases cc : j = k.toInt.toNat
  · rw [if_pos cc, if_pos cc, ev1, ev2, h12, h13, r1, r2, cc]
    exact ⟨rfl, rfl⟩
  · rw [if_neg cc, if_neg cc]; exact a2 j (by omega)
def zKq (S : yS) (d0 d : yD) (m : Nat) (q : Int32) : Prop := ∀ j : Nat, j < 90 → d.2.2.2.1 (S.2.2.1 m 42) j = vp_nar .short (d0.2.2.2.1 (S.2.2.1 m 12) (90 * q.toInt.toNat + j)) ∧ d.2.2.2.1 (S.2.2.1 m 43) j = vp_nar .boolean (d0.2.2.2.1 (S.2.2.1 m 13) (90 * q.toInt.toNat + j))
theorem zM2.fin {S : yS} {d0 d : yD} {m : Nat} {q k : Int32} (h : zM2 S d0 d m q k) (c : 90 ≤ k) : zKq S d0 d m q := fun j hj => h.2 j (by
  have z90 : (90 : Int32).toInt = 90 := by decide +kernel
  have c1 := Int32.le_iff_toInt_le.mp c
  omega)
/-- DAYS copied: c of them -/
def zKC (S : yS) (d0 d : yD) (m : Nat) (p dd q e : Int32) (c : Nat) : Prop := ∀ i : Nat, d.2.2.2.1 (S.2.2.1 m 12) i = (if zDi p dd ≤ i ∧ i < zDi p dd + c then vp_nar .short (vp_nar .short (d0.2.2.2.1 (S.2.2.1 m 12) (zDi q e + (i - zDi p dd)))) else d0.2.2.2.1 (S.2.2.1 m 12) i) ∧ d.2.2.2.1 (S.2.2.1 m 13) i = (if zDi p dd ≤ i ∧ i < zDi p dd + c then vp_nar .boolean (vp_nar .boolean (d0.2.2.2.1 (S.2.2.1 m 13) (zDi q e + (i - zDi p dd)))) else d0.2.2.2.1 (S.2.2.1 m 13) i)
/-- what is asked -/
def zCo (S : yS) (d0 : yD) (m : Nat) (p dd q e n : Int32) : Prop := (0 ≤ p.toInt ∧ p.toInt ≤ 7) ∧ (0 ≤ q.toInt ∧ q.toInt ≤ 7) ∧ 0 ≤ dd.toInt ∧ 0 ≤ e.toInt ∧ 0 ≤ n.toInt ∧ n.toInt ≤ 90 ∧ dd.toInt < yOf S d0 m p.toInt.toNat 2 ∧ e.toInt < yOf S d0 m q.toInt.toNat 2 ∧ yOf S d0 m p.toInt.toNat 2 ≤ 90 ∧ yOf S d0 m q.toInt.toNat 2 ≤ 90
def zM3 (S : yS) (d0 d : yD) (m : Nat) (p dd q e n many came stop : Int32) : Prop := ∀ E, zEm S d0 m E → zCo S d0 m p dd q e n → ((zQm S d m q many E ∧ zKq S d0 d m q) ∧ (0 ≤ came.toInt ∧ came.toInt ≤ n.toInt ∧ dd.toInt + came.toInt ≤ yOf S d0 m p.toInt.toNat 2 ∧ e.toInt + came.toInt ≤ yOf S d0 m q.toInt.toNat 2)) ∧ (∀ j : Nat, (j : Int) ≤ came.toInt → zDN E (zy p dd) (zy q e) j ≤ 5000) ∧ zEm S d m (zCpy E (zy q e) (zy p dd) (1440 * came.toInt.toNat)) ∧ zKC S d0 d m p dd q e came.toInt.toNat ∧ (stop.toInt = 0 ∨ dd.toInt + came.toInt = yOf S d0 m p.toInt.toNat 2 ∨ e.toInt + came.toInt = yOf S d0 m q.toInt.toNat 2 ∨ 5000 < zDN E (zy p dd) (zy q e) (came.toInt.toNat + 1))
theorem zCpy_0 {E : Nat → List Nat} {a b : Nat} : zCpy E a b 0 = E := funext fun y => if_neg (by omega)
theorem zM3.ini {S : yS} {d0 d1 d2 d : yD} {m : Nat} {p dd q e n many k z0 k2 : Int32} (h1 : zM1 S d0 d1 m q many k) (e0 : z0.toInt = (d0.1 m 1).toInt) (c0 : z0 ≤ k) (h2 : zM2 S d0 d2 m q k2) (c2 : 90 ≤ k2) (hb : (d0.1 m 1).toInt ≤ 5000) (hme : zMe S d0 d m) (g40 : d.2.2.2.1 (S.2.2.1 m 40) = d1.2.2.2.1 (S.2.2.1 m 40)) (g41 : d.2.2.2.1 (S.2.2.1 m 41) = d1.2.2.2.1 (S.2.2.1 m 41)) (g42 : d.2.2.2.1 (S.2.2.1 m 42) = d2.2.2.2.1 (S.2.2.1 m 42)) (g43 : d.2.2.2.1 (S.2.2.1 m 43) = d2.2.2.2.1 (S.2.2.1 m 43)) : zM3 S d0 d m p dd q e n many 0 0 := fun E hE hC => by
  have z : (0 : Int32).toInt = 0 := by decide +kernel
  obtain ⟨⟨p0, p7⟩, ⟨q0, q7⟩, d0', e0', n0, n9, hdd, hee, h9, h9'⟩ := hC
  have a := h1.fin e0 c0 hE q0 q7
  have b := h2.fin c2
  rw [z]
  refine ⟨⟨⟨?_, ?_⟩, by omega, by omega, by omega, by omega⟩, fun j hj => ?_, ?_, fun i => ?_, Or.inl rfl⟩
  · unfold zQm
    rw [g40, g41]; exact a
  · unfold zKq
    rw [g42, g43]; exact b
  · obtain rfl : j = 0 := by omega
    rw [zDN.zero, ← hE.2.1]; exact hb
  · rw [show 1440 * (0 : Int).toNat = 0 from rfl, zCpy_0]
    exact hE.cg hme.1 hme.2.1 hme.2.2.1 hme.2.2.2.1
  · rw [if_neg (by omega), if_neg (by omega), hme.2.2.2.2.1, hme.2.2.2.2.2]
    exact ⟨rfl, rfl⟩
/-- beyond the end -/
theorem zM3.s4 {S : yS} {d0 d : yD} {m : Nat} {p dd q e n many came stop to fr DP DQ : Int32} (h : zM3 S d0 d m p dd q e n many came stop) (e1 : to = dd + came) (e2 : fr = e + came) (hP : DP.toInt = yOf S d0 m p.toInt.toNat 2) (hQ : DQ.toInt = yOf S d0 m q.toInt.toNat 2) (hc : DP ≤ to ∨ DQ ≤ fr) (s4 : Int32) : zM3 S d0 d m p dd q e n many came s4 := fun E hE hC => by
  obtain ⟨⟨a1, a2, a3, a4, a5⟩, b, c, g, -⟩ := h E hE hC
  obtain ⟨-, -, d0', e0', n0, n9, hdd, hee, h9, h9'⟩ := hC
  have t1 : to.toInt = dd.toInt + came.toInt := tadd e1 rfl rfl (by omega) (by omega)
  have t2 : fr.toInt = e.toInt + came.toInt := tadd e2 rfl rfl (by omega) (by omega)
  refine ⟨⟨a1, a2, a3, a4, a5⟩, b, c, g, Or.inr ?_⟩
  rcases hc with hc | hc
  · have w := Int32.le_iff_toInt_le.mp hc
    exact Or.inl (by omega)
  · have w := Int32.le_iff_toInt_le.mp hc
    exact Or.inr (Or.inl (by omega))
theorem zCpy_len {E : Nat → List Nat} {a b c : Nat} (ha : a + 1440 * c ≤ zT) : ((zF (zCpy E b a (1440 * c)) 0 zT).length : Int) = zDN E a b c := by
  have l1 := congrArg List.length (zCpy_F (E := E) (a := b) (b := a) (n := 1440 * c) ha)
  have l2 := congrArg List.length (zF_cut3 (E := E) ha)
  have l3 := congrArg List.length (zCpy_M (E := E) (a := b) (b := a) (n := 1440 * c))
  rw [List.length_append, List.length_append] at l1 l2
  rw [List.length_map, List.length_map] at l3
  unfold zDN
  omega
/-- what was counted -/
theorem zmore {S : yS} {D : yD} {m : Nat} {q many fr : Int32} {E : Nat → List Nat} (h : zQm S D m q many E) (h8 : zK8 E) (q0 : 0 ≤ q.toInt) (q7 : q.toInt ≤ 7) (f0 : 0 ≤ fr.toInt) (f9 : fr.toInt ≤ 89) : ycn (yPm S D m fr) many.toInt.toNat = (zF E (zy q fr) 1440).length := by
  have hx : ∀ (i x : Nat), (zF E (129600 * q.toInt.toNat) 129600)[i]? = some x → yPm S D m fr i = zIn (zy q fr) (zy q fr + 1440) x := fun i x hx => by
    have a := (h.2 i x hx).1
    have b := zF_mem h8 _ (List.mem_of_getElem? hx)
    have d : (D.2.2.2.1 (S.2.2.1 m 40) i / 1440 : Int32).toInt = (D.2.2.2.1 (S.2.2.1 m 40) i).toInt / 1440 := tdiv' rfl rfl (by decide +kernel : (1440 : Int32).toInt = 1440) (by omega) (by omega)
    unfold yPm zIn
    refine decide_eq_decide.mpr ⟨fun w => ?_, fun w => Int32.toInt_inj.mp ?_⟩
    · have w := congrArg Int32.toInt w
      show 129600 * q.toInt.toNat + 1440 * fr.toInt.toNat ≤ x / 8 ∧ x / 8 < 129600 * q.toInt.toNat + 1440 * fr.toInt.toNat + 1440
      omega
    · have w : 129600 * q.toInt.toNat + 1440 * fr.toInt.toNat ≤ x / 8 ∧ x / 8 < 129600 * q.toInt.toNat + 1440 * fr.toInt.toNat + 1440 := w
      omega
  rw [show many.toInt.toNat = (zF E (129600 * q.toInt.toNat) 129600).length by have := h.1; omega, zycn_all hx, zF_in2 h8 (by show 129600 * q.toInt.toNat ≤ 129600 * q.toInt.toNat + 1440 * fr.toInt.toNat; omega) (by show 129600 * q.toInt.toNat + 1440 * fr.toInt.toNat + 1440 ≤ _; omega)]
theorem zless {S : yS} {D : yD} {m : Nat} {p to : Int32} {E : Nat → List Nat} (h : zEm S D m E) (p0 : 0 ≤ p.toInt) (p7 : p.toInt ≤ 7) (t0 : 0 ≤ to.toInt) (t9 : to.toInt ≤ 89) : ycn (yPl S D m p to) (D.1 m 1).toInt.toNat = (zF E (zy p to) 1440).length := by
  have hx : ∀ (i x : Nat), (zF E 0 zT)[i]? = some x → yPl S D m p to i = zIn (zy p to) (zy p to + 1440) x := fun i x hx => by
    have a := (h.2.2 i x hx).n (zFi h.1 hx)
    have d : (D.2.2.2.1 (S.2.2.1 m 16) i / 1440 : Int32).toInt = (D.2.2.2.1 (S.2.2.1 m 16) i).toInt / 1440 := tdiv' rfl rfl (by decide +kernel : (1440 : Int32).toInt = 1440) (by omega) (by omega)
    unfold yPl zIn
    refine decide_eq_decide.mpr ⟨fun w => ?_, fun w => ⟨Int32.toInt_inj.mp ?_, Int32.toInt_inj.mp ?_⟩⟩
    · have w1 := congrArg Int32.toInt w.1
      have w2 := congrArg Int32.toInt w.2
      show 129600 * p.toInt.toNat + 1440 * to.toInt.toNat ≤ x / 8 ∧ x / 8 < 129600 * p.toInt.toNat + 1440 * to.toInt.toNat + 1440
      omega
    · have w : 129600 * p.toInt.toNat + 1440 * to.toInt.toNat ≤ x / 8 ∧ x / 8 < 129600 * p.toInt.toNat + 1440 * to.toInt.toNat + 1440 := w
      omega
    · have w : 129600 * p.toInt.toNat + 1440 * to.toInt.toNat ≤ x / 8 ∧ x / 8 < 129600 * p.toInt.toNat + 1440 * to.toInt.toNat + 1440 := w
      omega
  have hT : zy p to + 1440 ≤ zT := by have z := zT_eq; show 129600 * p.toInt.toNat + 1440 * to.toInt.toNat + 1440 ≤ _; omega
  rw [show (D.1 m 1).toInt.toNat = (zF E 0 zT).length by have := h.2.1; omega, zycn_all hx, zF_in h.1 hT]
/-- where the next day stands, on both sides -/
theorem zM3.pos {S : yS} {d0 d : yD} {m : Nat} {p dd q e n many came stop to fr : Int32} {E : Nat → List Nat} (h : zM3 S d0 d m p dd q e n many came stop) (hE : zEm S d0 m E) (hC : zCo S d0 m p dd q e n) (e1 : to = dd + came) (e2 : fr = e + came) (hP : to.toInt < yOf S d0 m p.toInt.toNat 2) (hQ : fr.toInt < yOf S d0 m q.toInt.toNat 2) : (to.toInt = dd.toInt + came.toInt ∧ fr.toInt = e.toInt + came.toInt ∧ 0 ≤ came.toInt ∧ to.toInt ≤ 89 ∧ fr.toInt ≤ 89) ∧ (zy p to = zy p dd + 1440 * came.toInt.toNat ∧ zy q fr = zy q e + 1440 * came.toInt.toNat) ∧ zy p to + 1440 ≤ zT ∧ zF (zCpy E (zy q e) (zy p dd) (1440 * came.toInt.toNat)) (zy p to) 1440 = zF E (zy p to) 1440 := by
  obtain ⟨⟨a1, a2, a3, a4, a5⟩, b, c, g, -⟩ := h E hE hC
  obtain ⟨⟨p0, p7⟩, ⟨q0, q7⟩, d0', e0', n0, n9, hdd, hee, h9, h9'⟩ := hC
  have t1 : to.toInt = dd.toInt + came.toInt := tadd e1 rfl rfl (by omega) (by omega)
  have t2 : fr.toInt = e.toInt + came.toInt := tadd e2 rfl rfl (by omega) (by omega)
  have x1 : zy p to = zy p dd + 1440 * came.toInt.toNat := by show 129600 * p.toInt.toNat + 1440 * to.toInt.toNat = 129600 * p.toInt.toNat + 1440 * dd.toInt.toNat + _; omega
  have x2 : zy q fr = zy q e + 1440 * came.toInt.toNat := by show 129600 * q.toInt.toNat + 1440 * fr.toInt.toNat = 129600 * q.toInt.toNat + 1440 * e.toInt.toNat + _; omega
  exact ⟨⟨t1, t2, a2, by omega, by omega⟩, ⟨x1, x2⟩, by have z := zT_eq; show 129600 * p.toInt.toNat + 1440 * to.toInt.toNat + 1440 ≤ _; omega, zF_cg _ (fun y h1 h2 => if_neg (by omega))⟩
theorem zM3.N {S : yS} {d0 d : yD} {m : Nat} {p dd q e n many came stop to fr more less : Int32} {E : Nat → List Nat} (h : zM3 S d0 d m p dd q e n many came stop) (hE : zEm S d0 m E) (hC : zCo S d0 m p dd q e n) (e1 : to = dd + came) (e2 : fr = e + came) (hP : to.toInt < yOf S d0 m p.toInt.toNat 2) (hQ : fr.toInt < yOf S d0 m q.toInt.toNat 2) (hmo : more.toInt = (ycn (yPm S d m fr) many.toInt.toNat : Int)) (hle : less.toInt = (ycn (yPl S d m p to) (d.1 m 1).toInt.toNat : Int)) : zDN E (zy p dd) (zy q e) (came.toInt.toNat + 1) = (d.1 m 1).toInt - less.toInt + more.toInt := by
  obtain ⟨⟨t1, t2, c0, t9, f9⟩, ⟨x1, x2⟩, hT, hF⟩ := h.pos hE hC e1 e2 hP hQ
  obtain ⟨⟨⟨a1, a1'⟩, a2, a3, a4, a5⟩, b, c, g, -⟩ := h E hE hC
  obtain ⟨⟨p0, p7⟩, ⟨q0, q7⟩, d0', e0', n0, n9, hdd, hee, h9, h9'⟩ := hC
  have l1 := zmore a1 hE.1 q0 q7 (fr := fr) (by omega) f9
  have l2 := zless c p0 p7 (to := to) (by omega) t9
  rw [hF] at l2
  have l3 := zCpy_len (E := E) (a := zy p dd) (b := zy q e) (c := came.toInt.toNat) (by omega)
  rw [zDN.succ, ← x1, ← x2, ← l3, ← c.2.1]
  omega
theorem zM3.s5 {S : yS} {d0 d : yD} {m : Nat} {p dd q e n many came stop to fr more less : Int32} (h : zM3 S d0 d m p dd q e n many came stop) (e1 : to = dd + came) (e2 : fr = e + came) (hP : to.toInt < yOf S d0 m p.toInt.toNat 2) (hQ : fr.toInt < yOf S d0 m q.toInt.toNat 2) (hmo : more.toInt = (ycn (yPm S d m fr) many.toInt.toNat : Int)) (hle : less.toInt = (ycn (yPl S d m p to) (d.1 m 1).toInt.toNat : Int)) (hgt : 5000 < (d.1 m 1).toInt - less.toInt + more.toInt) (s5 : Int32) : zM3 S d0 d m p dd q e n many came s5 := fun E hE hC => by
  have hN := h.N hE hC e1 e2 hP hQ hmo hle
  obtain ⟨a, b, c, g, -⟩ := h E hE hC
  exact ⟨a, b, c, g, Or.inr (Or.inr (Or.inr (by omega)))⟩
/-- the day's EVENTS brought in, so far -/
def zGr (E : Nat → List Nat) (Q : List Nat) (s t : Nat) : Nat → List Nat := fun y => if t ≤ y ∧ y < t + 1440 then E y ++ ((Q.filter (fun x => decide (x / 8 + t = y + s))).map (fun x => x % 8)) else E y
theorem zGr_nil {E : Nat → List Nat} {s t : Nat} : zGr E [] s t = E := funext fun y => by
  unfold zGr
  by_cases c : t ≤ y ∧ y < t + 1440
  · rw [if_pos c]; exact List.append_nil _
  · rw [if_neg c]
theorem zGr_no {E : Nat → List Nat} {Q : List Nat} {s t x : Nat} (h : ¬ (s ≤ x / 8 ∧ x / 8 < s + 1440)) : zGr E (Q ++ [x]) s t = zGr E Q s t := funext fun y => by
  unfold zGr
  by_cases c : t ≤ y ∧ y < t + 1440
  · rw [if_pos c, if_pos c, List.filter_append, List.filter_cons_of_neg (fun w => by have w := of_decide_eq_true w; omega), List.filter_nil, List.append_nil]
  · rw [if_neg c, if_neg c]
theorem zGr_yes {E : Nat → List Nat} {Q : List Nat} {s t x : Nat} (h : s ≤ x / 8 ∧ x / 8 < s + 1440) : zGr E (Q ++ [x]) s t = zIns (zGr E Q s t) (t + (x / 8 - s)) (x % 8) := funext fun y => by
  by_cases e : y = t + (x / 8 - s)
  · subst e
    show zGr E (Q ++ [x]) s t (t + (x / 8 - s)) = if t + (x / 8 - s) = t + (x / 8 - s) then zGr E Q s t (t + (x / 8 - s)) ++ [x % 8] else _
    rw [if_pos rfl]
    unfold zGr
    rw [if_pos (by omega), if_pos (by omega), List.filter_append, List.filter_cons_of_pos (by exact decide_eq_true (by omega)), List.filter_nil, List.map_append, List.append_assoc]
    rfl
  · show zGr E (Q ++ [x]) s t y = if y = t + (x / 8 - s) then _ else zGr E Q s t y
    rw [if_neg e]
    unfold zGr
    by_cases c : t ≤ y ∧ y < t + 1440
    · rw [if_pos c, if_pos c, List.filter_append, List.filter_cons_of_neg (fun w => by have w := of_decide_eq_true w; omega), List.filter_nil, List.append_nil]
    · rw [if_neg c, if_neg c]
theorem zGr_all {E : Nat → List Nat} (h8 : zK8 E) {A a b c : Nat} (hA : A ≤ b + 1440 * c) (hB : b + 1440 * c + 1440 ≤ A + 129600) : zGr (zClr (zCpy E b a (1440 * c)) (a + 1440 * c) 1440) (zF E A 129600) (b + 1440 * c) (a + 1440 * c) = zCpy E b a (1440 * (c + 1)) := funext fun y => by
  unfold zGr zClr zCpy
  by_cases k : a + 1440 * c ≤ y ∧ y < a + 1440 * c + 1440
  · rw [if_pos k, if_pos k, if_pos (by omega), List.nil_append]
    have q := zF_view h8 (A := A) (z := y - a + b) 129600
    rw [if_pos (by omega)] at q
    rw [← q]
    refine congrArg (List.map (fun x => x % 8)) (List.filter_congr (fun x _ => decide_eq_decide.mpr (by omega)))
  · rw [if_neg k, if_neg k]
    by_cases k2 : a ≤ y ∧ y < a + 1440 * c
    · rw [if_pos k2, if_pos (by omega)]
    · rw [if_neg k2, if_neg (by omega)]
def zM4 (S : yS) (d0 d : yD) (m : Nat) (p dd q e n came to fr k : Int32) : Prop := ∀ E, zEm S d0 m E → zCo S d0 m p dd q e n → 0 ≤ k.toInt ∧ k.toInt ≤ ((zF E (129600 * q.toInt.toNat) 129600).length : Int) ∧ zEm S d m (zGr (zClr (zCpy E (zy q e) (zy p dd) (1440 * came.toInt.toNat)) (zy p to) 1440) ((zF E (129600 * q.toInt.toNat) 129600).take k.toInt.toNat) (zy q fr) (zy p to))
theorem zM4.ini {S : yS} {d0 d u : yD} {m : Nat} {p dd q e n many came stop to fr f g r : Int32} {b0 : Int32} (h : zM3 S d0 d m p dd q e n many came stop) (e1 : to = dd + came) (e2 : fr = e + came) (hP : to.toInt < yOf S d0 m p.toInt.toNat 2) (hQ : fr.toInt < yOf S d0 m q.toInt.toNat 2) (ef : f = 1440 * to) (eb : b0 = 1440 * to) (eg : g = b0 + 1440) (hc : zClV S d u m p f g r) : zM4 S d0 u m p dd q e n came to fr 0 := fun E hE hC => by
  obtain ⟨⟨t1, t2, c0, t9, f9⟩, ⟨x1, x2⟩, hT, hF⟩ := h.pos hE hC e1 e2 hP hQ
  obtain ⟨⟨⟨a1, a1'⟩, a2, a3, a4, a5⟩, b, c, -, -⟩ := h E hE hC
  obtain ⟨⟨p0, p7⟩, ⟨q0, q7⟩, d0', e0', n0, n9, hdd, hee, h9, h9'⟩ := hC
  have z : (0 : Int32).toInt = 0 := by decide +kernel
  have k1440 : (1440 : Int32).toInt = 1440 := by decide +kernel
  have f' : f.toInt = 1440 * to.toInt := tmul ef k1440 rfl (by omega) (by omega)
  have b' : b0.toInt = 1440 * to.toInt := tmul eb k1440 rfl (by omega) (by omega)
  have g' : g.toInt = b0.toInt + 1440 := tadd eg rfl k1440 (by omega) (by omega)
  have q := (hc _ c p0 p7 (by omega) (by omega) (by omega)).1
  rw [show zx p f = zy p to from (show 129600 * p.toInt.toNat + f.toInt.toNat = 129600 * p.toInt.toNat + 1440 * to.toInt.toNat by omega), show (g.toInt - f.toInt).toNat = 1440 by omega] at q
  rw [z]
  refine ⟨Int.le_refl _, by omega, ?_⟩
  rw [show (0 : Int).toNat = 0 from rfl, List.take_zero, zGr_nil]
  exact q
theorem zM4.no {S : yS} {d0 D d : yD} {m : Nat} {p dd q e n many came to fr k z1 z2 : Int32} (h : zM4 S d0 d m p dd q e n came to fr k) (hq : ∀ E, zEm S d0 m E → zCo S d0 m p dd q e n → zQm S D m q many E ∧ 0 ≤ fr.toInt ∧ fr.toInt ≤ 89) (h40 : d.2.2.2.1 (S.2.2.1 m 40) = D.2.2.2.1 (S.2.2.1 m 40)) (c : ¬ many ≤ k) (e1 : z1 = d.2.2.2.1 (S.2.2.1 m 40) k.toNatClampNeg) (e2 : z2 = z1 / 1440) (cn : ¬ z2 = fr) (hb : many.toInt ≤ 5000) : zM4 S d0 d m p dd q e n came to fr (k + 1) := fun E hE hC => by
  obtain ⟨a1, a2, a3⟩ := h E hE hC
  obtain ⟨b1, f0, f9⟩ := hq E hE hC
  obtain ⟨-, ⟨q0, q7⟩, -⟩ := hC
  have c1 := Int32.lt_iff_toInt_lt.mp (Int32.not_le.mp c)
  have hk : (k + 1).toInt = k.toInt + 1 := tadd rfl rfl i_one (by omega) (by omega)
  have hj : k.toInt.toNat < (zF E (129600 * q.toInt.toNat) 129600).length := by have := b1.1; omega
  obtain ⟨x, hx⟩ : ∃ x, (zF E (129600 * q.toInt.toNat) 129600)[k.toInt.toNat]? = some x := ⟨_, List.getElem?_eq_getElem hj⟩
  have hm := zF_mem hE.1 _ (List.mem_of_getElem? hx)
  have hz1 : z1.toInt = ((x / 8 % 129600 : Nat) : Int) := by rw [e1, h40]; exact (b1.2 _ x hx).1
  have hz2 : z2.toInt = z1.toInt / 1440 := tdiv' e2 rfl (by decide +kernel : (1440 : Int32).toInt = 1440) (by omega) (by omega)
  have hne : z2.toInt ≠ fr.toInt := fun w => cn (Int32.toInt_inj.mp w)
  refine ⟨by omega, by omega, ?_⟩
  rw [show (k + 1).toInt.toNat = k.toInt.toNat + 1 by omega, ztake hx, zGr_no (by
    show ¬ (129600 * q.toInt.toNat + 1440 * fr.toInt.toNat ≤ x / 8 ∧ x / 8 < 129600 * q.toInt.toNat + 1440 * fr.toInt.toNat + 1440)
    omega)]
  exact a3
theorem zM4.yes {S : yS} {d0 D d u : yD} {m : Nat} {p dd q e n many came to fr k z1 z2 y1 y2 y3 y4 v : Int32} (h : zM4 S d0 d m p dd q e n came to fr k) (hq : ∀ E, zEm S d0 m E → zCo S d0 m p dd q e n → zQm S D m q many E ∧ 0 ≤ fr.toInt ∧ fr.toInt ≤ 89 ∧ 0 ≤ to.toInt ∧ to.toInt ≤ 89) (h40 : d.2.2.2.1 (S.2.2.1 m 40) = D.2.2.2.1 (S.2.2.1 m 40)) (h41 : d.2.2.2.1 (S.2.2.1 m 41) = D.2.2.2.1 (S.2.2.1 m 41)) (c : ¬ many ≤ k) (e1 : z1 = d.2.2.2.1 (S.2.2.1 m 40) k.toNatClampNeg) (e2 : z2 = z1 / 1440) (cn : z2 = fr) (hb : many.toInt ≤ 5000) (f1 : y1 = 1440 * to) (f2 : y2 = d.2.2.2.1 (S.2.2.1 m 40) k.toNatClampNeg) (f3 : y3 = y2 - y2 / 1440 * 1440) (f4 : y4 = y1 + y3) (fv : v = d.2.2.2.1 (S.2.2.1 m 41) k.toNatClampNeg) (hcap : (d.1 m 1).toInt ≤ 4999) (hi : zInV S d u m p y4 v) : zM4 S d0 u m p dd q e n came to fr (k + 1) := fun E hE hC => by
  obtain ⟨a1, a2, a3⟩ := h E hE hC
  obtain ⟨b1, f0, f9, t0, t9⟩ := hq E hE hC
  obtain ⟨⟨p0, p7⟩, ⟨q0, q7⟩, -⟩ := hC
  have k1440 : (1440 : Int32).toInt = 1440 := by decide +kernel
  have c1 := Int32.lt_iff_toInt_lt.mp (Int32.not_le.mp c)
  have hk : (k + 1).toInt = k.toInt + 1 := tadd rfl rfl i_one (by omega) (by omega)
  have hj : k.toInt.toNat < (zF E (129600 * q.toInt.toNat) 129600).length := by have := b1.1; omega
  obtain ⟨x, hx⟩ : ∃ x, (zF E (129600 * q.toInt.toNat) 129600)[k.toInt.toNat]? = some x := ⟨_, List.getElem?_eq_getElem hj⟩
  have hm := zF_mem hE.1 _ (List.mem_of_getElem? hx)
  have hz1 : z1.toInt = ((x / 8 % 129600 : Nat) : Int) := by rw [e1, h40]; exact (b1.2 _ x hx).1
  have hy2 : y2.toInt = ((x / 8 % 129600 : Nat) : Int) := by rw [f2, h40]; exact (b1.2 _ x hx).1
  have hv : v.toInt = ((x % 8 : Nat) : Int) := by rw [fv, h41]; exact (b1.2 _ x hx).2
  have hz2 : z2.toInt = z1.toInt / 1440 := tdiv' e2 rfl k1440 (by omega) (by omega)
  have hy3 : y3.toInt = y2.toInt % 1440 := trem f3 rfl k1440 (by omega) (by omega)
  have hy1 : y1.toInt = 1440 * to.toInt := tmul f1 k1440 rfl (by omega) (by omega)
  have hy4 : y4.toInt = y1.toInt + y3.toInt := tadd f4 rfl rfl (by omega) (by omega)
  rw [cn] at hz2
  have hr : zy q fr ≤ x / 8 ∧ x / 8 < zy q fr + 1440 := by
    show 129600 * q.toInt.toNat + 1440 * fr.toInt.toNat ≤ x / 8 ∧ x / 8 < 129600 * q.toInt.toNat + 1440 * fr.toInt.toNat + 1440
    omega
  have hl := a3.2.1
  have g := hi _ a3 p0 p7 (by omega) (by omega) (by omega) (by omega) (by omega)
  rw [show zx p y4 = zy p to + (x / 8 - zy q fr) from (show 129600 * p.toInt.toNat + y4.toInt.toNat = 129600 * p.toInt.toNat + 1440 * to.toInt.toNat + (x / 8 - (129600 * q.toInt.toNat + 1440 * fr.toInt.toNat)) by
    have hr1 : 129600 * q.toInt.toNat + 1440 * fr.toInt.toNat ≤ x / 8 := hr.1
    omega), show v.toInt.toNat = x % 8 by omega] at g
  refine ⟨by omega, by omega, ?_⟩
  rw [show (k + 1).toInt.toNat = k.toInt.toNat + 1 by omega, ztake hx, zGr_yes hr]
  exact g
theorem zM3.next {S : yS} {d0 d d4 d5 d6 : yD} {m : Nat} {p dd q e n many came stop to fr more less k i1 i2 v1 v2 : Int32} (h : zM3 S d0 d m p dd q e n many came stop) (hSh : ySh S) (hm : m ∈ S.1) (hkm : S.2.1 m = 9) (hc : ¬ n ≤ came) (e1 : to = dd + came) (e2 : fr = e + came) (hP : to.toInt < yOf S d0 m p.toInt.toNat 2) (hQ : fr.toInt < yOf S d0 m q.toInt.toNat 2) (hmo : more.toInt = (ycn (yPm S d m fr) many.toInt.toNat : Int)) (hle : less.toInt = (ycn (yPl S d m p to) (d.1 m 1).toInt.toNat : Int)) (hgt : (d.1 m 1).toInt - less.toInt + more.toInt ≤ 5000) (h4 : zM4 S d0 d4 m p dd q e n came to fr k) (ck : many ≤ k) (k12 : d4.2.2.2.1 (S.2.2.1 m 12) = d.2.2.2.1 (S.2.2.1 m 12)) (k13 : d4.2.2.2.1 (S.2.2.1 m 13) = d.2.2.2.1 (S.2.2.1 m 13)) (k40 : d6.2.2.2.1 (S.2.2.1 m 40) = d.2.2.2.1 (S.2.2.1 m 40)) (k41 : d6.2.2.2.1 (S.2.2.1 m 41) = d.2.2.2.1 (S.2.2.1 m 41)) (k42 : d6.2.2.2.1 (S.2.2.1 m 42) = d.2.2.2.1 (S.2.2.1 m 42)) (k43 : d6.2.2.2.1 (S.2.2.1 m 43) = d.2.2.2.1 (S.2.2.1 m 43)) (l42 : d4.2.2.2.1 (S.2.2.1 m 42) = d.2.2.2.1 (S.2.2.1 m 42)) (l43 : d5.2.2.2.1 (S.2.2.1 m 43) = d.2.2.2.1 (S.2.2.1 m 43)) (q1 : i1.toInt = 90 * p.toInt + to.toInt) (q2 : i2.toInt = 90 * p.toInt + to.toInt) (ev1 : v1 = d4.2.2.2.1 (S.2.2.1 m 42) fr.toNatClampNeg) (f1 : d5 = ycs d4 (S.2.2.1 m 12) (upd (d4.2.2.2.1 (S.2.2.1 m 12)) i1.toNatClampNeg (vp_nar .short v1))) (ev2 : v2 = d5.2.2.2.1 (S.2.2.1 m 43) fr.toNatClampNeg) (f2 : d6 = ycs d5 (S.2.2.1 m 13) (upd (d5.2.2.2.1 (S.2.2.1 m 13)) i2.toNatClampNeg (vp_nar .boolean v2))) (s6 : Int32) (hs6 : s6.toInt = 0) : zM3 S d0 d6 m p dd q e n many (came + 1) s6 := fun E hE hC => by
  have hN := h.N hE hC e1 e2 hP hQ hmo hle
  obtain ⟨⟨t1, t2, c0, t9, f9⟩, ⟨x1, x2⟩, hT, hF⟩ := h.pos hE hC e1 e2 hP hQ
  obtain ⟨⟨⟨a1, a1'⟩, a2, a3, a4, a5⟩, b, c, g, -⟩ := h E hE hC
  obtain ⟨b1, b2, b3⟩ := h4 E hE hC
  obtain ⟨⟨p0, p7⟩, ⟨q0, q7⟩, d0', e0', n0, n9, hdd, hee, h9, h9'⟩ := hC
  have n23 := zn23 hSh hm hkm
  have n56 := zn3 hSh hm hkm
  have hne : ∀ s t : Nat, (s = 12 ∨ s = 13) → (t = 15 ∨ t = 16 ∨ t = 17) → S.2.2.1 m t ≠ S.2.2.1 m s := fun s t hs ht w => by
    have c12 := (ySh.f9_12 hSh m hm hkm).2
    have c13 := (ySh.f9_13 hSh m hm hkm).2
    have c15 := (ySh.f9_15 hSh m hm hkm).2
    have c16 := (ySh.f9_16 hSh m hm hkm).2
    have c17 := (ySh.f9_17 hSh m hm hkm).2
    rcases hs with rfl | rfl <;> rcases ht with rfl | rfl | rfl <;> (first | (rw [w, c12] at c15; cases c15) | (rw [w, c12] at c16; cases c16) | (rw [w, c12] at c17; cases c17) | (rw [w, c13] at c15; cases c15) | (rw [w, c13] at c16; cases c16) | (rw [w, c13] at c17; cases c17))
  have cc := Int32.lt_iff_toInt_lt.mp (Int32.not_le.mp hc)
  have ck' := Int32.le_iff_toInt_le.mp ck
  have hcm : (came + 1).toInt = came.toInt + 1 := tadd rfl rfl i_one (by omega) (by omega)
  have hmn := a1.1
  have ho : ∀ t : Nat, (t = 15 ∨ t = 16 ∨ t = 17) → d6.2.2.2.1 (S.2.2.1 m t) = d4.2.2.2.1 (S.2.2.1 m t) := fun t ht => by
    rw [f2, ycs_ne (hne 13 t (Or.inr rfl) ht), f1, ycs_ne (hne 12 t (Or.inl rfl) ht)]
  have r1 : i1.toNatClampNeg = zDi p to := (show i1.toInt.toNat = 90 * p.toInt.toNat + to.toInt.toNat by omega)
  have r2 : i2.toNatClampNeg = zDi p to := (show i2.toInt.toNat = 90 * p.toInt.toNat + to.toInt.toNat by omega)
  have w1 : d6.2.2.2.1 (S.2.2.1 m 12) = upd (d.2.2.2.1 (S.2.2.1 m 12)) (zDi p to) (vp_nar .short v1) := by rw [f2, ycs_ne n23, f1, ycs_at, r1, k12]
  have w2 : d6.2.2.2.1 (S.2.2.1 m 13) = upd (d.2.2.2.1 (S.2.2.1 m 13)) (zDi p to) (vp_nar .boolean v2) := by rw [f2, ycs_at, f1, ycs_ne (Ne.symm n23), r2, k13]
  have hcn : (came + 1).toInt.toNat = came.toInt.toNat + 1 := by omega
  have hto : zDi p to = zDi p dd + came.toInt.toNat := by show 90 * p.toInt.toNat + to.toInt.toNat = 90 * p.toInt.toNat + dd.toInt.toNat + _; omega
  have hfr : 90 * q.toInt.toNat + fr.toInt.toNat = zDi q e + came.toInt.toNat := by show _ = 90 * q.toInt.toNat + e.toInt.toNat + _; omega
  have hV := a1' fr.toInt.toNat (by omega)
  have u1 : v1 = vp_nar .short (d0.2.2.2.1 (S.2.2.1 m 12) (zDi q e + came.toInt.toNat)) := by rw [ev1, l42, ← hfr]; exact hV.1
  have u2 : v2 = vp_nar .boolean (d0.2.2.2.1 (S.2.2.1 m 13) (zDi q e + came.toInt.toNat)) := by rw [ev2, l43, ← hfr]; exact hV.2
  refine ⟨⟨⟨?_, ?_⟩, by omega, by omega, by omega, by omega⟩, fun j hj => ?_, ?_, fun i => ?_, Or.inl hs6⟩
  · unfold zQm
    rw [k40, k41]; exact a1
  · unfold zKq
    rw [k42, k43]; exact a1'
  · by_cases k : (j : Int) ≤ came.toInt
    · exact b j k
    · obtain rfl : j = came.toInt.toNat + 1 := by omega
      omega
  · rw [hcn]
    rw [List.take_of_length_le (by omega), x1, x2, zGr_all hE.1 (by show 129600 * q.toInt.toNat ≤ 129600 * q.toInt.toNat + 1440 * e.toInt.toNat + _; omega) (by show 129600 * q.toInt.toNat + 1440 * e.toInt.toNat + 1440 * came.toInt.toNat + 1440 ≤ _; omega)] at b3
    exact b3.cg (by rw [f2, f1]; rfl) (ho 15 (Or.inl rfl)) (ho 16 (Or.inr (Or.inl rfl))) (ho 17 (Or.inr (Or.inr rfl)))
  · rw [w1, w2, zupd, zupd, hcn]
    obtain ⟨g1, g2⟩ := g i
    by_cases k : i = zDi p to
    · rw [if_pos k, if_pos k, if_pos (by omega), if_pos (by omega), show i - zDi p dd = came.toInt.toNat by omega, u1, u2]
      exact ⟨rfl, rfl⟩
    · rw [if_neg k, if_neg k, g1, g2]
      by_cases k2 : zDi p dd ≤ i ∧ i < zDi p dd + came.toInt.toNat
      · rw [if_pos k2, if_pos k2, if_pos (by omega), if_pos (by omega)]; exact ⟨rfl, rfl⟩
      · rw [if_neg k2, if_neg k2, if_neg (by omega), if_neg (by omega)]; exact ⟨rfl, rfl⟩
/-- what a copy answers and does -/
def zMC (S : yS) (d u : yD) (m : Nat) (p dd q e n r : Int32) : Prop := ∀ E, zEm S d m E → zCo S d m p dd q e n → (0 ≤ r.toInt ∧ r.toInt ≤ n.toInt ∧ dd.toInt + r.toInt ≤ yOf S d m p.toInt.toNat 2 ∧ e.toInt + r.toInt ≤ yOf S d m q.toInt.toNat 2) ∧ (∀ j : Nat, (j : Int) ≤ r.toInt → zDN E (zy p dd) (zy q e) j ≤ 5000) ∧ zEm S u m (zCpy E (zy q e) (zy p dd) (1440 * r.toInt.toNat)) ∧ zKC S d u m p dd q e r.toInt.toNat ∧ (r.toInt = n.toInt ∨ dd.toInt + r.toInt = yOf S d m p.toInt.toNat 2 ∨ e.toInt + r.toInt = yOf S d m q.toInt.toNat 2 ∨ 5000 < zDN E (zy p dd) (zy q e) (r.toInt.toNat + 1))
theorem zM3.fin {S : yS} {d0 d u : yD} {m : Nat} {p dd q e n many came stop : Int32} (h : zM3 S d0 d m p dd q e n many came stop) (hc : n ≤ came ∨ stop.toInt ≠ 0) (hme : zMe S d u m) : zMC S d0 u m p dd q e n came := fun E hE hC => by
  obtain ⟨⟨-, a2, a3, a4, a5⟩, b, c, g, s⟩ := h E hE hC
  refine ⟨⟨a2, a3, a4, a5⟩, b, c.cg hme.1 hme.2.1 hme.2.2.1 hme.2.2.2.1, fun i => ?_, ?_⟩
  · rw [hme.2.2.2.2.1, hme.2.2.2.2.2]; exact g i
  · rcases hc with hc | hc
    · have w := Int32.le_iff_toInt_le.mp hc
      exact Or.inl (by omega)
    · rcases s with s | s
      · exact absurd s hc
      · exact Or.inr s
