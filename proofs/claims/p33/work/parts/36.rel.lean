/-! THE RELATION for contracts: how many, whether there is an image, how many it keeps -/
def yR (S : yS) (d : yD) (q m : Nat) : Prop := d.1 (S.2.2.1 (S.2.2.1 q 0) 0) 6 = d.1 m 0 ∧ d.1 q 4 = d.1 m 20 ∧ (d.1 q 4 = 1 → d.1 (S.2.2.1 (S.2.2.1 q 1) 0) 6 = d.2.2.2.1 (S.2.2.1 m 21) 0)
section YRR
variable {S : yS} {d u1 u2 : yD} {q m : Nat} {M M' F : List Nat}
theorem yT0 (hSh : ySh S) (hq : q ∈ S.1) (hkq : S.2.1 q = 8) : S.2.1 (S.2.2.1 (S.2.2.1 q 0) 0) = 6 ∧ S.2.1 (S.2.2.1 (S.2.2.1 q 1) 0) = 6 := by
  obtain ⟨a1, a2⟩ := ySh.f8_0 hSh q hq hkq
  obtain ⟨b1, b2⟩ := ySh.f8_1 hSh q hq hkq
  exact ⟨(ySh.f0_0 hSh _ a1 a2).2, (ySh.f0_0 hSh _ b1 b2).2⟩
theorem yR.gen (h : yR S d q m) (hSh : ySh S) (hq : q ∈ S.1) (hkq : S.2.1 q = 8) (hm : m ∈ S.1) (hkm : S.2.1 m = 9) (hg1 : yAg S M d u1) (hM : 6 ∉ M ∧ 9 ∉ M ∧ 51 ∉ M) (hi : u1.1 q 4 = d.1 q 4) (hg2 : yAg S M' u1 u2) (hM' : 8 ∉ M' ∧ 6 ∉ M' ∧ 51 ∉ M') (hf : yK F u1 u2 m) (hF : 0 ∉ F ∧ 20 ∉ F) : yR S u2 q m := by
  obtain ⟨t1, t2⟩ := yT0 hSh hq hkq
  have k21 := (ySh.f9_21 hSh m hm hkm).2
  obtain ⟨h1, h2, h3⟩ := h
  have a1 := fun (a : Nat) (ha : S.2.1 a = 6) => ((hg2 a (by rw [ha]; exact hM'.2.1)).1).trans (hg1 a (by rw [ha]; exact hM.1)).1
  have b0 : u1.1 m = d.1 m := (hg1 m (by rw [hkm]; exact hM.2.1)).1
  have b1 : u2.1 m 0 = d.1 m 0 := (hf 0 hF.1).trans (congrFun b0 0)
  have b2 : u2.1 m 20 = d.1 m 20 := (hf 20 hF.2).trans (congrFun b0 20)
  have b3 : u2.1 q 4 = d.1 q 4 := (congrFun (hg2 q (by rw [hkq]; exact hM'.1)).1 4).trans hi
  have b4 : u2.2.2.2.1 (S.2.2.1 m 21) = d.2.2.2.1 (S.2.2.1 m 21) := ((hg2 _ (by rw [k21]; exact hM'.2.2)).2.2.2.1).trans (hg1 _ (by rw [k21]; exact hM.2.2)).2.2.2.1
  unfold yR
  rw [a1 _ t1, a1 _ t2, b1, b2, b3, b4]
  exact ⟨h1, h2, h3⟩
theorem xct {n n' n2 n2' r r2 : Int32} (e : n = n2) (h : (40 ≤ n ∧ r = -1 ∧ n' = n) ∨ (¬ 40 ≤ n ∧ r = n ∧ n' = n + 1)) (h2 : (n2.toInt = 40 ∧ r2.toInt = -1 ∧ n2'.toInt = n2.toInt) ∨ (n2.toInt ≤ 39 ∧ r2.toInt = n2.toInt ∧ n2'.toInt = n2.toInt + 1)) : r = r2 ∧ n' = n2' := by
  subst e
  have m1 : (-1 : Int32).toInt = -1 := by decide +kernel
  have c40 : (40 : Int32).toInt = 40 := by decide +kernel
  rcases h with ⟨h, hr, hn⟩ | ⟨h, hr, hn⟩
  · have q := Int32.le_iff_toInt_le.mp h
    rw [c40] at q
    rcases h2 with ⟨g, gr, gn⟩ | ⟨g, gr, gn⟩
    · exact ⟨Int32.toInt_inj.mp (by rw [hr, m1]; exact gr.symm), Int32.toInt_inj.mp (by rw [hn]; exact gn.symm)⟩
    · omega
  · have q := Int32.lt_iff_toInt_lt.mp (Int32.not_le.mp h)
    rw [c40] at q
    rcases h2 with ⟨g, gr, gn⟩ | ⟨g, gr, gn⟩
    · omega
    · have b : -2 ^ 31 ≤ n.toInt := n.le_toInt
      have q2 : (n + 1).toInt = n.toInt + 1 := tadd rfl rfl (by decide +kernel : (1 : Int32).toInt = 1) (by omega) (by omega)
      exact ⟨Int32.toInt_inj.mp (by rw [hr]; exact gr.symm), Int32.toInt_inj.mp (by rw [hn, q2]; exact gn.symm)⟩
theorem yR.contract (h : yR S d q m) (hSh : ySh S) (hq : q ∈ S.1) (hkq : S.2.1 q = 8) (hm : m ∈ S.1) (hkm : S.2.1 m = 9) (hg1 : yAg S M d u1) (hM : 9 ∉ M ∧ 51 ∉ M) (hg2 : yAg S M' u1 u2) (hM' : 8 ∉ M' ∧ 6 ∉ M' ∧ 51 ∉ M') (hf : yK F u1 u2 m) (hF : 20 ∉ F) {r r2 : Int32}
    (x1 : ((40 ≤ d.1 (S.2.2.1 (S.2.2.1 q 0) 0) 6 ∧ r = -1 ∧ u1.1 (S.2.2.1 (S.2.2.1 q 0) 0) 6 = d.1 (S.2.2.1 (S.2.2.1 q 0) 0) 6) ∨ (¬ 40 ≤ d.1 (S.2.2.1 (S.2.2.1 q 0) 0) 6 ∧ r = d.1 (S.2.2.1 (S.2.2.1 q 0) 0) 6 ∧ u1.1 (S.2.2.1 (S.2.2.1 q 0) 0) 6 = d.1 (S.2.2.1 (S.2.2.1 q 0) 0) 6 + 1)) ∧ u1.1 (S.2.2.1 (S.2.2.1 q 1) 0) 6 = d.1 (S.2.2.1 (S.2.2.1 q 1) 0) 6 ∧ u1.1 q 4 = d.1 q 4)
    (x2 : ((u1.1 m 0).toInt = 40 ∧ r2.toInt = -1 ∧ (u2.1 m 0).toInt = (u1.1 m 0).toInt) ∨ ((u1.1 m 0).toInt ≤ 39 ∧ r2.toInt = (u1.1 m 0).toInt ∧ (u2.1 m 0).toInt = (u1.1 m 0).toInt + 1)) : r = r2 ∧ yR S u2 q m := by
  obtain ⟨t1, t2⟩ := yT0 hSh hq hkq
  have k21 := (ySh.f9_21 hSh m hm hkm).2
  obtain ⟨h1, h2, h3⟩ := h
  have b0 : u1.1 m = d.1 m := (hg1 m (by rw [hkm]; exact hM.1)).1
  have b2 : u2.1 m 20 = d.1 m 20 := (hf 20 hF).trans (congrFun b0 20)
  have b3 : u2.1 q 4 = d.1 q 4 := (congrFun (hg2 q (by rw [hkq]; exact hM'.1)).1 4).trans x1.2.2
  have b4 : u2.2.2.2.1 (S.2.2.1 m 21) = d.2.2.2.1 (S.2.2.1 m 21) := ((hg2 _ (by rw [k21]; exact hM'.2.2)).2.2.2.1).trans (hg1 _ (by rw [k21]; exact hM.2)).2.2.2.1
  have a1 := fun (a : Nat) (ha : S.2.1 a = 6) => (hg2 a (by rw [ha]; exact hM'.2.1)).1
  obtain ⟨e1, e2⟩ := xct (h1.trans (congrFun b0 0).symm) x1.1 x2
  refine ⟨e1, ?_⟩
  unfold yR
  rw [a1 _ t1, a1 _ t2, b2, b3, b4, x1.2.1]
  exact ⟨e2, h2, h3⟩
theorem yR.image (h : yR S d q m) (hSh : ySh S) (hq : q ∈ S.1) (hkq : S.2.1 q = 8) (hm : m ∈ S.1) (hkm : S.2.1 m = 9) (hg1 : yAg S M d u1) (hM : 9 ∉ M) (hg2 : yAg S M' u1 u2) (hM' : 8 ∉ M' ∧ 6 ∉ M') {r : Int32}
    (x1 : u1.1 q 4 = 1 ∧ u1.1 (S.2.2.1 (S.2.2.1 q 1) 0) 6 = d.1 (S.2.2.1 (S.2.2.1 q 0) 0) 6 ∧ u1.1 (S.2.2.1 (S.2.2.1 q 0) 0) 6 = d.1 (S.2.2.1 (S.2.2.1 q 0) 0) 6 ∧ r = 1)
    {r2 : Int32} (x2 : u2.1 m 20 = 1 ∧ u2.2.2.2.1 (S.2.2.1 m 21) 0 = u1.1 m 0 ∧ u2.1 m 0 = u1.1 m 0 ∧ r2 = 1) : r = r2 ∧ yR S u2 q m := by
  obtain ⟨t1, t2⟩ := yT0 hSh hq hkq
  obtain ⟨h1, h2, h3⟩ := h
  have b0 : u1.1 m 0 = d.1 m 0 := congrFun (hg1 m (by rw [hkm]; exact hM)).1 0
  have b3 : u2.1 q 4 = u1.1 q 4 := congrFun (hg2 q (by rw [hkq]; exact hM'.1)).1 4
  have a1 := fun (a : Nat) (ha : S.2.1 a = 6) => (hg2 a (by rw [ha]; exact hM'.2)).1
  refine ⟨x1.2.2.2.trans x2.2.2.2.symm, ?_⟩
  unfold yR
  rw [a1 _ t1, a1 _ t2, b3, x1.1, x1.2.1, x1.2.2.1, x2.1, x2.2.1, x2.2.2.1, b0]
  exact ⟨h1, rfl, fun _ => h1⟩
theorem yR.back (h : yR S d q m) (hPo : yPo S d) (hSh : ySh S) (hq : q ∈ S.1) (hkq : S.2.1 q = 8) (hm : m ∈ S.1) (hkm : S.2.1 m = 9) (hg1 : yAg S M d u1) (hM : 9 ∉ M ∧ 51 ∉ M) (hg2 : yAg S M' u1 u2) (hM' : 8 ∉ M' ∧ 6 ∉ M' ∧ 51 ∉ M') (hf : yK F u1 u2 m) (hF : 20 ∉ F) {r : Int32}
    (x1 : ((d.1 q 4 = 0 ∧ r = 0 ∧ u1.1 (S.2.2.1 (S.2.2.1 q 0) 0) 6 = d.1 (S.2.2.1 (S.2.2.1 q 0) 0) 6) ∨ (¬ d.1 q 4 = 0 ∧ r = 1 ∧ u1.1 (S.2.2.1 (S.2.2.1 q 0) 0) 6 = d.1 (S.2.2.1 (S.2.2.1 q 1) 0) 6)) ∧ u1.1 (S.2.2.1 (S.2.2.1 q 1) 0) 6 = d.1 (S.2.2.1 (S.2.2.1 q 1) 0) 6 ∧ u1.1 q 4 = d.1 q 4)
    {r2 : Int32} (x2 : (u1.1 m 20 = 0 ∧ u2.1 m 0 = u1.1 m 0 ∧ r2 = 0) ∨ (¬ u1.1 m 20 = 0 ∧ u2.1 m 0 = u1.2.2.2.1 (S.2.2.1 m 21) 0 ∧ r2 = 1)) : r = r2 ∧ yR S u2 q m := by
  obtain ⟨t1, t2⟩ := yT0 hSh hq hkq
  have k21 := (ySh.f9_21 hSh m hm hkm).2
  obtain ⟨h1, h2, h3⟩ := h
  have b0 : u1.1 m = d.1 m := (hg1 m (by rw [hkm]; exact hM.1)).1
  have b2 : u2.1 m 20 = d.1 m 20 := (hf 20 hF).trans (congrFun b0 20)
  have b3 : u2.1 q 4 = d.1 q 4 := (congrFun (hg2 q (by rw [hkq]; exact hM'.1)).1 4).trans x1.2.2
  have c4 : u1.2.2.2.1 (S.2.2.1 m 21) = d.2.2.2.1 (S.2.2.1 m 21) := (hg1 _ (by rw [k21]; exact hM.2)).2.2.2.1
  have b4 : u2.2.2.2.1 (S.2.2.1 m 21) = d.2.2.2.1 (S.2.2.1 m 21) := ((hg2 _ (by rw [k21]; exact hM'.2.2)).2.2.2.1).trans c4
  have a1 := fun (a : Nat) (ha : S.2.1 a = 6) => (hg2 a (by rw [ha]; exact hM'.2.1)).1
  rw [b0, c4] at x2
  have e3 : r = r2 ∧ u1.1 (S.2.2.1 (S.2.2.1 q 0) 0) 6 = u2.1 m 0 := by
    rcases x1.1 with ⟨i, er, e⟩ | ⟨i, er, e⟩
    · rcases x2 with ⟨j, e2, er2⟩ | ⟨j, e2, er2⟩
      · exact ⟨er.trans er2.symm, by rw [e, e2]; exact h1⟩
      · exact absurd (h2.symm.trans i) j
    · rcases x2 with ⟨j, e2, er2⟩ | ⟨j, e2, er2⟩
      · exact absurd (h2.trans j) i
      · have hb := (hPo.b hq hkq (k := 4) rfl).resolve_left i
        exact ⟨er.trans er2.symm, by rw [e, e2]; exact h3 hb⟩
  refine ⟨e3.1, ?_⟩
  unfold yR
  rw [a1 _ t1, a1 _ t2, b2, b3, b4, x1.2.1]
  exact ⟨e3.2, h2, h3⟩
theorem yR.ini (h : zIni S d) (hSh : ySh S) (hq : q ∈ S.1) (hkq : S.2.1 q = 8) (hm : m ∈ S.1) (hkm : S.2.1 m = 9) : yR S d q m := by
  obtain ⟨a1, a2⟩ := ySh.f8_0 hSh q hq hkq
  have a3 := (ySh.f0_0 hSh _ a1 a2).1
  have c : d.1 q 4 = 0 := h.i0 hq (by decide)
  refine ⟨(h.i0 a3 (by decide)).trans (h.i0 hm (by decide)).symm, c.trans (h.i0 hm (by decide)).symm, fun e => absurd (c.symm.trans e) (by decide +kernel)⟩
end YRR
theorem xinL {i : Int32} {L : Nat} (h0 : 0 ≤ i.toInt) (h1 : i.toInt < (L : Int)) : vp_in i L := by
  rw [vp_in_iff]; omega
theorem xlen {L : Nat} (h : L ≤ 3584) : (Int32.ofNat L).toInt = (L : Int) := nI_toInt (by omega)
/-! THE CLAIM OUT OF ONE WALK OF THE LAW'S BODY. Your part is whole_start (and what it stands on); all else here is the same for every law, but numbers. -/
def R_law : String := "LaytimeDeskLaw"
def lw_P (b : Addr) (xs : List Int32) (args : Array Value) (s : State) : Prop := args = #[.ref b] ∧ s.IntsAt b xs ∧ xs.length ≤ 3584 ∧ (Jvm.Cond.and given_1 narrow_1).before args s = true
def lw_Q (_ : Array Value) (s : State) (o : Outcome) (t : State) : Prop := o = .returned (some (.int 1)) ∧ Framed s o t [] 600000 7302250
def lw_Z (below : List Frame) (a : Array Value) (s : State) : State → Prop := fun t => ∃ o, t.status = .running ∧ Ended t below o ∧ lw_Q a s o t
/-- the law's own end, with 1 on the stack, nothing written that was there before, its room as the claim has it -/
theorem lw_ret {p : Program} {l : Launch} {e : Env} {s : State} {m : MethodId} {below : List Frame} {meth : Method} {c : Code} {b : Nat} (hx : p.tables.exec = Jvm.exec) (hb : c.code = code) (hr : meth.sig.returnType = ret) (hlocks : meth.locks = false) {pc : Nat} {H : Heap} {ls : Array Slot} (hdg : decode code pc = .ok (.ireturn, 1)) : W p l e room_1 s m #[Value.ref b] below meth c H [] 600000 7302250 (lw_Z below #[Value.ref b] s) (F0 m pc ls [.int 1]) := by
  intro T hT X
  obtain ⟨fs, hret, hrun, hended, hW, hframe⟩ := X.leave (v := some (.int 1)) (hlocks := hlocks) (fun h => by rw [hr] at h; cases h)
  have hmeth' : T.vm.method? m = some meth := X.method'
  refine ⟨T.setFrames fs, ?_, .returned (some (.int 1)), hrun, hended, rfl, ⟨_, rfl⟩, hW, hframe⟩
  jvm_step X.here [X.here.top, hx, hb, hdg, hmeth', hr, ret, narrow_b1]
  (try refine ⟨rfl, ?_⟩); (try refine ⟨rfl, ?_⟩)
  first | (intro acts; rw [hret _ acts rfl rfl rfl]) | rw [hret _ _ rfl rfl rfl]
  exact Steps.refl _
/-- what holds at the law's entry: the machine, the code, the tables' words (any of lw_tbl by 'hts w (by decide +kernel)'), the script of L ints xs at the cell b, what the Statement gives of the start (any of its parts by flat_of_before) -/
def lw_At (p : Program) (s : State) (m : MethodId) (meth : Method) (c : Code) (b L : Nat) (xs : Nat → Int32) : Prop :=
  p.tables.exec = Jvm.exec ∧ c.code = code ∧ meth.sig.returnType = ret ∧ c.maxLocals = 4 ∧ s.vm.findClass R_law = some m.cls ∧ (∀ w ∈ lw_tbl, w.before #[Value.ref b] s = true) ∧ va_X b L xs s s.heap ∧ b < s.heap.size ∧ meth.locks = false ∧ (Jvm.Cond.and given_1 narrow_1).before #[Value.ref b] s = true
theorem xarr {s : State} {args : Array Value} {ty : FieldType} (hob : ∀ C, ty ≠ .object C) (h : (Cond.arrayClass ty).before args s = true) : ∃ cA, ArrOfT s cA ty ∧ va_RA s cA ty := by
  obtain ⟨cA, kA, comp, hf, hk, hkind⟩ := Cond.arrayClass_spec h
  refine ⟨cA, fun n z => ⟨(fun k h => by cases h), kA, hk, comp, hkind⟩, ?_⟩
  cases ty with
  | object C => exact absurd rfl (hob C)
  | _ => exact hf
theorem xarrO {s : State} {C : String} (h : va_AO C s) : ∃ cA, ArrOfT s cA (.object C) ∧ va_RA s cA (.object C) := by
  obtain ⟨comp, cA, kA, h1, h2, h3, h4, h5⟩ := Cond.arrayOver_spec h
  exact ⟨cA, fun n z => ⟨(fun k h => by cases h), kA, h3, comp, h4⟩, kA, comp, h3, h4, h1, h5⟩
