/-! The frame of my own: one list of words for all methods (wsT), one list of classes, worlds as lists of cells, three kinds of contracts, call rows. -/
abbrev xcl : List vw_C := [(RX0, TX0, 6), (RX1, TX1, 4), (RX2, TX2, 3), (RX3, TX3, 16), (RX4, TX4, 11), (RX5, TX5, 7), (RX6, TX6, 7), (RX7, TX7, 18), (RX8, TX8, 6), (RX9, TX9, 67)]
abbrev xG : Type := va_G × (Nat → ClassId)
abbrev xty (G : xG) : List (ClassId × FieldType) := [(G.2 0, .int), (G.2 1, .byte), (G.2 2, .short), (G.2 3, .boolean), (G.2 4, .long), (G.2 5, .object RX4), (G.2 6, .object RX7), (G.2 7, .object RX5)]
/-- what the tables say beside the words: links between nest mates, array classes of objects -/
def xN (U : State) : Prop := va_Nw (.methodLinkNest RX0 20 yX2_init RX8) U ∧ va_Nw (.methodLinkNest RX0 27 yX1_init RX8) U ∧ va_Nw (.methodLinkNest RX0 38 yX4_init RX8) U ∧ va_Nw (.methodLinkNest RX3 34 yX5_init RX8) U ∧ va_Nw (.methodLinkNest RX6 36 yX8_put RX8) U ∧ va_Nw (.methodLinkNest RX2 19 yX8_at RX8) U ∧ va_Nw (.methodLinkNest RX2 35 yX8_slide RX8) U ∧ va_Nw (.methodLinkNest RX4 53 yX8_at RX8) U ∧ va_Nw (.methodLinkNest RX2 39 yX8_put RX8) U ∧ va_Nw (.methodLinkNest RX6 40 yX8_at RX8) U ∧ va_Nw (.methodLinkNest RX2 56 yX8_within RX8) U ∧ va_Nw (.methodLinkNest RX7 83 yX8_rowOf RX8) U ∧ va_Nw (.methodLinkNest RX7 95 yX8_at RX8) U ∧ va_Nw (.methodLinkNest RX7 99 yX8_within RX8) U ∧ va_Nw (.methodLinkNest RX7 103 yX8_put RX8) U ∧ va_Nw (.methodLinkNest RX1 25 yX8_put RX8) U ∧ va_Nw (.methodLinkNest RX3 197 yX8_at RX8) U ∧ va_Nw (.methodLinkNest RX6 48 yX8_copyAll RX8) U ∧ va_Nw (.methodLinkNest RX1 29 yX8_copyAll RX8) U ∧ va_Nw (.methodLinkNest RX4 66 yX8_copyAll RX8) U ∧ va_AO RX4 U ∧ va_AO RX7 U ∧ va_AO RX5 U
theorem xN.warm {s U : State} (hW : s.WarmedH U.vm) (h : xN s) : xN U := by
  obtain ⟨h0, h1, h2, h3, h4, h5, h6, h7, h8, h9, h10, h11, h12, h13, h14, h15, h16, h17, h18, h19, a0, a1, a2⟩ := h
  exact ⟨va_Nw.warmM hW h0, va_Nw.warmM hW h1, va_Nw.warmM hW h2, va_Nw.warmM hW h3, va_Nw.warmM hW h4, va_Nw.warmM hW h5, va_Nw.warmM hW h6, va_Nw.warmM hW h7, va_Nw.warmM hW h8, va_Nw.warmM hW h9, va_Nw.warmM hW h10, va_Nw.warmM hW h11, va_Nw.warmM hW h12, va_Nw.warmM hW h13, va_Nw.warmM hW h14, va_Nw.warmM hW h15, va_Nw.warmM hW h16, va_Nw.warmM hW h17, va_Nw.warmM hW h18, va_Nw.warmM hW h19, va_AO.moved hW.alike a0, va_AO.moved hW.alike a1, va_AO.moved hW.alike a2⟩
theorem xN.same {u U : State} (hv : u.vm = U.vm) (h : xN u) : xN U := by
  obtain ⟨h0, h1, h2, h3, h4, h5, h6, h7, h8, h9, h10, h11, h12, h13, h14, h15, h16, h17, h18, h19, a0, a1, a2⟩ := h
  have hA : u.vm.Alike U.vm := by rw [hv]; exact Vm.Alike.refl _
  exact ⟨va_Nw.same rfl hv h0, va_Nw.same rfl hv h1, va_Nw.same rfl hv h2, va_Nw.same rfl hv h3, va_Nw.same rfl hv h4, va_Nw.same rfl hv h5, va_Nw.same rfl hv h6, va_Nw.same rfl hv h7, va_Nw.same rfl hv h8, va_Nw.same rfl hv h9, va_Nw.same rfl hv h10, va_Nw.same rfl hv h11, va_Nw.same rfl hv h12, va_Nw.same rfl hv h13, va_Nw.same rfl hv h14, va_Nw.same rfl hv h15, va_Nw.same rfl hv h16, va_Nw.same rfl hv h17, va_Nw.same rfl hv h18, va_Nw.same rfl hv h19, va_AO.moved hA a0, va_AO.moved hA a1, va_AO.moved hA a2⟩
theorem xN.n0 {U : State} (h : xN U) : va_Nw (.methodLinkNest RX0 20 yX2_init RX8) U := h.1
theorem xN.n1 {U : State} (h : xN U) : va_Nw (.methodLinkNest RX0 27 yX1_init RX8) U := h.2.1
theorem xN.n2 {U : State} (h : xN U) : va_Nw (.methodLinkNest RX0 38 yX4_init RX8) U := h.2.2.1
theorem xN.n3 {U : State} (h : xN U) : va_Nw (.methodLinkNest RX3 34 yX5_init RX8) U := h.2.2.2.1
theorem xN.n4 {U : State} (h : xN U) : va_Nw (.methodLinkNest RX6 36 yX8_put RX8) U := h.2.2.2.2.1
theorem xN.n5 {U : State} (h : xN U) : va_Nw (.methodLinkNest RX2 19 yX8_at RX8) U := h.2.2.2.2.2.1
theorem xN.n6 {U : State} (h : xN U) : va_Nw (.methodLinkNest RX2 35 yX8_slide RX8) U := h.2.2.2.2.2.2.1
theorem xN.n7 {U : State} (h : xN U) : va_Nw (.methodLinkNest RX4 53 yX8_at RX8) U := h.2.2.2.2.2.2.2.1
theorem xN.n8 {U : State} (h : xN U) : va_Nw (.methodLinkNest RX2 39 yX8_put RX8) U := h.2.2.2.2.2.2.2.2.1
theorem xN.n9 {U : State} (h : xN U) : va_Nw (.methodLinkNest RX6 40 yX8_at RX8) U := h.2.2.2.2.2.2.2.2.2.1
theorem xN.n10 {U : State} (h : xN U) : va_Nw (.methodLinkNest RX2 56 yX8_within RX8) U := h.2.2.2.2.2.2.2.2.2.2.1
theorem xN.n11 {U : State} (h : xN U) : va_Nw (.methodLinkNest RX7 83 yX8_rowOf RX8) U := h.2.2.2.2.2.2.2.2.2.2.2.1
theorem xN.n12 {U : State} (h : xN U) : va_Nw (.methodLinkNest RX7 95 yX8_at RX8) U := h.2.2.2.2.2.2.2.2.2.2.2.2.1
theorem xN.n13 {U : State} (h : xN U) : va_Nw (.methodLinkNest RX7 99 yX8_within RX8) U := h.2.2.2.2.2.2.2.2.2.2.2.2.2.1
theorem xN.n14 {U : State} (h : xN U) : va_Nw (.methodLinkNest RX7 103 yX8_put RX8) U := h.2.2.2.2.2.2.2.2.2.2.2.2.2.2.1
theorem xN.n15 {U : State} (h : xN U) : va_Nw (.methodLinkNest RX1 25 yX8_put RX8) U := h.2.2.2.2.2.2.2.2.2.2.2.2.2.2.2.1
theorem xN.n16 {U : State} (h : xN U) : va_Nw (.methodLinkNest RX3 197 yX8_at RX8) U := h.2.2.2.2.2.2.2.2.2.2.2.2.2.2.2.2.1
theorem xN.n17 {U : State} (h : xN U) : va_Nw (.methodLinkNest RX6 48 yX8_copyAll RX8) U := h.2.2.2.2.2.2.2.2.2.2.2.2.2.2.2.2.2.1
theorem xN.n18 {U : State} (h : xN U) : va_Nw (.methodLinkNest RX1 29 yX8_copyAll RX8) U := h.2.2.2.2.2.2.2.2.2.2.2.2.2.2.2.2.2.2.1
theorem xN.n19 {U : State} (h : xN U) : va_Nw (.methodLinkNest RX4 66 yX8_copyAll RX8) U := h.2.2.2.2.2.2.2.2.2.2.2.2.2.2.2.2.2.2.2.1
theorem xN.aoP {U : State} (h : xN U) : va_AO RX4 U := h.2.2.2.2.2.2.2.2.2.2.2.2.2.2.2.2.2.2.2.2.1
theorem xN.aoW {U : State} (h : xN U) : va_AO RX7 U := h.2.2.2.2.2.2.2.2.2.2.2.2.2.2.2.2.2.2.2.2.2.1
theorem xN.aoS {U : State} (h : xN U) : va_AO RX5 U := h.2.2.2.2.2.2.2.2.2.2.2.2.2.2.2.2.2.2.2.2.2.2
/-- the words are good: a callee finds its own among its caller's -/
theorem wsT_good : ∀ w ∈ wsT, goodWord w = true := fun _ h => (List.mem_filter.mp h).2
abbrev wq (y : MethodName) (b : ByteArray) (n : Nat) (r : Option FieldType) : List Cond := .code y b n r :: wsT
theorem gq {y : MethodName} {b : ByteArray} {n : Nat} {r : Option FieldType} (h : Cond.code y b n r ∈ wsT) : GoodIn wsT (wq y b n r) := fun w hw => by
  rcases List.mem_cons.mp hw with rfl | hw
  · exact ⟨h, good_of_word (wsT_good _ h)⟩
  · exact ⟨hw, good_of_word (wsT_good _ hw)⟩
def xB (G : xG) (sz : Nat) (ws : va_W) (U : State) : Prop := U.heap.size = sz ∧ va_P G.1 xcl ws U.heap ∧ va_K G.1 xcl (xty G) U ∧ va_D (fun _ => True) ws ∧ xN U
theorem xB_blind {G : xG} {sz : Nat} {ws : va_W} {av : List Value} : FrameBlind (va_Pc av (xB G sz ws)) := fun a U g mk q => by
  obtain ⟨q0, q1, qP, qK, qD, qN⟩ := q
  exact ⟨q0, q1, qP, va_K.moved (u := U) (U := U.calling g mk a) (Vm.Alike.refl U.vm) qK, qD, xN.same rfl qN⟩
abbrev xRm (fr lo mc ms : Nat) : Room := { frames := fr, cells := mc, slots := ms, locals := lo }
/-- a contract of a method that reads alone, with an int or boolean for an answer -/
abbrev xRi (l : Launch) (G : xG) (y : MethodName) (cc : ByteArray) (n : Nat) (r : Option FieldType) (fr lo : Nat) (av : List Value) (wc : va_W) (post : Int32 → Prop) : Prop :=
  ∀ sz : Nat, Met l y (wq y cc n r) (xRm fr lo 0 0) (va_Pc av (xB G sz wc)) (vp_Si post) 0 0 (fun _ => False)
/-- .. with an object for an answer -/
abbrev xRr (l : Launch) (G : xG) (y : MethodName) (cc : ByteArray) (n : Nat) (r : Option FieldType) (fr lo : Nat) (av : List Value) (wc : va_W) (post : Nat → Prop) : Prop :=
  ∀ sz : Nat, Met l y (wq y cc n r) (xRm fr lo 0 0) (va_Pc av (xB G sz wc)) (va_Sr post (fun k => .ref k)) 0 0 (fun _ => False)
/-- a contract of a method that writes, too: u tells what its cells are behind it -/
abbrev xWi (l : Launch) (G : xG) (y : MethodName) (cc : ByteArray) (n : Nat) (r : Option FieldType) (fr lo mc ms : Nat) (av : List Value) (wc : va_W) {S : Type} (post : Int32 → S → Prop) (w1 : S → va_W) : Prop :=
  ∀ sz : Nat, Met l y (wq y cc n r) (xRm fr lo mc ms) (va_Pc av (xB G sz wc)) (va_Qi post (fun u t => va_P G.1 xcl (w1 u) t.heap ∧ va_D (va_A wc sz) (w1 u)) (va_A wc sz)) mc ms (va_A wc sz)
abbrev xWl (l : Launch) (G : xG) (y : MethodName) (cc : ByteArray) (n : Nat) (r : Option FieldType) (fr lo mc ms : Nat) (av : List Value) (wc : va_W) {S : Type} (post : Int64 → S → Prop) (w1 : S → va_W) : Prop :=
  ∀ sz : Nat, Met l y (wq y cc n r) (xRm fr lo mc ms) (va_Pc av (xB G sz wc)) (va_Ql post (fun u t => va_P G.1 xcl (w1 u) t.heap ∧ va_D (va_A wc sz) (w1 u)) (va_A wc sz)) mc ms (va_A wc sz)
abbrev xWv (l : Launch) (G : xG) (y : MethodName) (cc : ByteArray) (n : Nat) (r : Option FieldType) (fr lo mc ms : Nat) (av : List Value) (wc : va_W) {S : Type} (post : S → Prop) (w1 : S → va_W) : Prop :=
  ∀ sz : Nat, Met l y (wq y cc n r) (xRm fr lo mc ms) (va_Pc av (xB G sz wc)) (va_Qv post (fun u t => va_P G.1 xcl (w1 u) t.heap ∧ va_D (va_A wc sz) (w1 u)) (va_A wc sz)) mc ms (va_A wc sz)
/-- the start of a method's walk -/
theorem xstart {l : Launch} {G : xG} {y : MethodName} {cc : ByteArray} {n : Nat} {r : Option FieldType} {fr lo mc ms : Nat} {av : List Value} {wc : va_W} {Qc : Array Value → State → Outcome → State → Prop} {A : Nat → Prop} {sz : Nat} (hy : plainName y.cls = true) (hn : (lg_sl av).length ≤ n)
    (body : ∀ (p : Program) (e : Env) (s : State) (m : MethodId) (args : Array Value) (below : List Frame) (meth : Method) (c : Code) (ls : Array Slot), CallFix p m c cc n s args wsT y.cls → meth.sig.returnType = r → meth.locks = false → meth.name = y.name → s.heap.size = sz → va_P G.1 xcl wc s.heap → va_K G.1 xcl (xty G) s → va_D (fun _ => True) wc → xN s → lv_has ls n (lv_args 0 av) →
      W p l e (xRm fr lo mc ms) s m args below meth c s.heap [] 0 0 (MQ below Qc args s mc ms A) (F0 m 0 ls [])) : Met l y (wq y cc n r) (xRm fr lo mc ms) (va_Pc av (xB G sz wc)) Qc mc ms A := by
  refine Met.ofW (cc := cc) (maxL := n) (ret := r) hy rfl ?_
  intro p e s m args below meth c s₁ B hml hv
  obtain ⟨rfl, hsz, hP, hK, hD, hN⟩ := hv
  have hts := atoms_spec (ws := wq y cc n r) B.pre
  have hown : s.vm.findClass y.cls = some m.cls := findClass_of_methodNamed B.named
  have hl := lv_entry av (n := n) hn
  rw [lg_entry_eq]
  exact body p e s m _ below meth c _ ⟨B.exec, B.bytes, hml, hown, fun w h => hts w (List.mem_cons_of_mem _ h)⟩ B.returns B.notSynchronized (name_of_methodNamed B.named B.method).1 hsz hP hK hD hN hl
/-- a method that can be called on an object: its words -/
def xVok (y : MethodName) (cc : ByteArray) (n : Nat) (r : Option FieldType) (k : Nat) : Prop := (Cond.code y cc n r ∈ wsT ∧ Cond.initialized y.cls ∈ wsT ∧ (y.cls ≠ "java/lang/invoke/MethodHandle" ∧ y.cls ≠ "java/lang/invoke/VarHandle" ∧ (parseMethodDescriptor y.desc).map (fun d => d.parameters.length) = some k)) ∧ Cond.instanceMethod y ∈ wsT ∧ Cond.selects y.cls y y ∈ wsT
def xSok (y : MethodName) (cc : ByteArray) (n : Nat) (r : Option FieldType) (k : Nat) : Prop := (Cond.code y cc n r ∈ wsT ∧ Cond.initialized y.cls ∈ wsT ∧ (y.cls ≠ "java/lang/invoke/MethodHandle" ∧ y.cls ≠ "java/lang/invoke/VarHandle" ∧ (parseMethodDescriptor y.desc).map (fun d => d.parameters.length) = some k)) ∧ Cond.static y ∈ wsT
def xIok (y : MethodName) (cc : ByteArray) (n : Nat) (k : Nat) : Prop := (Cond.code y cc n none ∈ wsT ∧ Cond.initialized y.cls ∈ wsT ∧ (y.cls ≠ "java/lang/invoke/MethodHandle" ∧ y.cls ≠ "java/lang/invoke/VarHandle" ∧ (parseMethodDescriptor y.desc).map (fun d => d.parameters.length) = some k)) ∧ Cond.instanceMethod y ∈ wsT ∧ y.name = "<init>"
section XK
variable {p : Program} {l : Launch} {e : Env} {R : Room} {s : State} {m : MethodId} {args : Array Value} {below : List Frame} {meth : Method} {c : Code} {H : Heap} {locs : List Loc} {cells slots : Nat} {Q : State → Prop}
variable {cc : ByteArray} {nL pc idx : Nat} {ls : Array Slot} {rest : List Value} {G : xG} {ws wc wr : va_W} {A0 : Nat → Prop} {H0 : Heap} {own : String}
variable {y : MethodName} {bytes : ByteArray} {maxL k fr lo mc ms : Nat} {ret : Option FieldType} {As : List Value}
/-- the words of a call -/
theorem xcallB (C0 : CallFix p m c cc nL s args wsT own) (h : Cond.code y bytes maxL ret ∈ wsT ∧ Cond.initialized y.cls ∈ wsT ∧ (y.cls ≠ "java/lang/invoke/MethodHandle" ∧ y.cls ≠ "java/lang/invoke/VarHandle" ∧ (parseMethodDescriptor y.desc).map (fun d => d.parameters.length) = some k)) (hlk : Cond.methodLink own idx y ∈ wsT) (hR : fr + 1 ≤ R.frames ∧ 8 + (maxL + 11) + lo ≤ R.locals) : CallB R s args own idx y bytes maxL ret (wq y bytes maxL ret) (xRm fr lo mc ms) mc ms k :=
  callB_of k C0.2.2.2.2 (gq h.1) rfl rfl rfl (C0.2.2.2.2 _ h.2.1) (C0.2.2.2.2 _ hlk) h.2.2 hR
theorem xcallN {host : String} (C0 : CallFix p m c cc nL s args wsT own) (h : Cond.code y bytes maxL ret ∈ wsT ∧ Cond.initialized y.cls ∈ wsT ∧ (y.cls ≠ "java/lang/invoke/MethodHandle" ∧ y.cls ≠ "java/lang/invoke/VarHandle" ∧ (parseMethodDescriptor y.desc).map (fun d => d.parameters.length) = some k)) (hlk : va_Nw (.methodLinkNest own idx y host) s) (hR : fr + 1 ≤ R.frames ∧ 8 + (maxL + 11) + lo ≤ R.locals) : va_CN R s args own idx y host bytes maxL ret (wq y bytes maxL ret) (xRm fr lo mc ms) mc ms k :=
  va_cnB k C0.2.2.2.2 (gq h.1) rfl rfl rfl hlk (C0.2.2.2.2 _ h.2.1) h.2.2 hR
/-- the callee's start out of the caller's world -/
theorem xpre (hP : va_P G.1 xcl ws H) (hD : va_D A0 ws) (hK : va_K G.1 xcl (xty G) s) (hN : xN s) (isC : List Nat) (hC : isC.map (fun i => ws[i]?) = wc.map some) (hnC : va_nd isC = true) (As : List Value) : PreS s H (va_Pc As (xB G H.size wc)) As := by
  have hPc : va_P G.1 xcl wc H := hP.by (fun k => (isC[k]?).getD 0) (fun k q hk => by
    obtain ⟨i, h1, h2⟩ := va_in_of isC hC hk
    show ws[(isC[k]?).getD 0]? = some q
    rw [h1]; exact h2)
  exact ⟨xB_blind, fun U hU hW => ⟨rfl, by rw [hU], by rw [hU]; exact hPc, va_K.moved hW.alike hK, (hD.sub isC hnC hC).weaken (fun _ _ _ _ => trivial), hN.warm hW⟩⟩
theorem xpreV {b rq ci : Nat} {fs : List Value} {q : vw_C} (hP : va_P G.1 xcl ws H) (hD : va_D A0 ws) (hK : va_K G.1 xcl (xty G) s) (hN : xN s) (isC : List Nat) (hC : isC.map (fun i => ws[i]?) = wc.map some) (hnC : va_nd isC = true) (he : ws[rq]? = some (b, .inr (ci, fs))) (hc : xcl[ci]? = some q) (hq : q.1 = y.cls) : PreV s H y.cls b (va_Pc (.ref b :: As) (xB G H.size wc)) As := by
  have h1 := xpre hP hD hK hN isC hC hnC (.ref b :: As)
  refine ⟨h1.1, ?_, h1.2⟩
  rw [← hq]
  exact va_recv hK hP hc he
variable {pi : Int32 → Prop}
/-- calls of readers: on an object, static, static of a nest mate -/
theorem xVri {b rq ci : Nat} {fs : List Value} {q : vw_C} (C0 : CallFix p m c cc nL s args wsT own) (hM : xRi l G y bytes maxL ret fr lo (.ref b :: As) wc pi) (hk : xVok y bytes maxL ret k) (hlk : Cond.methodLink own idx y ∈ wsT) (hR : fr + 1 ≤ R.frames ∧ 8 + (maxL + 11) + lo ≤ R.locals)
    (hP : va_P G.1 xcl ws H) (hD : va_D A0 ws) (hK : va_K G.1 xcl (xty G) s) (hN : xN s) (isC : List Nat) (hC : isC.map (fun i => ws[i]?) = wc.map some) (hnC : va_nd isC = true) (he : ws[rq]? = some (b, .inr (ci, fs))) (hc : xcl[ci]? = some q) (hq : q.1 = y.cls)
    (hn : As.length = k) (hls : ls.size = nL) {st : List Value} (hst : st = As.reverse ++ .ref b :: rest) (hw : (rest.map fun v => v.category).sum ≤ 8) (hf : cells ≤ R.cells ∧ slots ≤ R.slots) (hd : decode cc pc = .ok (.invokevirtual idx, 3))
    (kk : ∀ r : Int32, pi r → W p l e R s m args below meth c H locs cells slots Q (F0 m (pc + 3) ls (.int r :: rest))) : W p l e R s m args below meth c H locs cells slots Q (F0 m pc ls st) :=
  vp_callSi (W.runV C0 (hM H.size) ⟨xcallB C0 hk.1 hlk hR, C0.2.2.2.2 _ hk.2.1, C0.2.2.2.2 _ hk.2.2⟩ (xpreV hP hD hK hN isC hC hnC he hc hq) rfl hn hls hst (lv_room hw) hd hf) kk
theorem xSri (C0 : CallFix p m c cc nL s args wsT own) (hM : xRi l G y bytes maxL ret fr lo As wc pi) (hk : xSok y bytes maxL ret k) (hlk : Cond.methodLink own idx y ∈ wsT) (hR : fr + 1 ≤ R.frames ∧ 8 + (maxL + 11) + lo ≤ R.locals)
    (hP : va_P G.1 xcl ws H) (hD : va_D A0 ws) (hK : va_K G.1 xcl (xty G) s) (hN : xN s) (isC : List Nat) (hC : isC.map (fun i => ws[i]?) = wc.map some) (hnC : va_nd isC = true)
    (hn : As.length = k) (hls : ls.size = nL) {st : List Value} (hst : st = As.reverse ++ rest) (hw : (rest.map fun v => v.category).sum ≤ 8) (hf : cells ≤ R.cells ∧ slots ≤ R.slots) (hd : decode cc pc = .ok (.invokestatic idx, 3))
    (kk : ∀ r : Int32, pi r → W p l e R s m args below meth c H locs cells slots Q (F0 m (pc + 3) ls (.int r :: rest))) : W p l e R s m args below meth c H locs cells slots Q (F0 m pc ls st) :=
  vp_callSi (W.runS C0 (hM H.size) ⟨xcallB C0 hk.1 hlk hR, C0.2.2.2.2 _ hk.2⟩ (xpre hP hD hK hN isC hC hnC As) rfl hn hls hst (lv_room hw) hd hf) kk
theorem xVrr {pr : Nat → Prop} {b rq ci : Nat} {fs : List Value} {q : vw_C} (C0 : CallFix p m c cc nL s args wsT own) (hM : xRr l G y bytes maxL ret fr lo (.ref b :: As) wc pr) (hk : xVok y bytes maxL ret k) (hlk : Cond.methodLink own idx y ∈ wsT) (hR : fr + 1 ≤ R.frames ∧ 8 + (maxL + 11) + lo ≤ R.locals)
    (hP : va_P G.1 xcl ws H) (hD : va_D A0 ws) (hK : va_K G.1 xcl (xty G) s) (hN : xN s) (isC : List Nat) (hC : isC.map (fun i => ws[i]?) = wc.map some) (hnC : va_nd isC = true) (he : ws[rq]? = some (b, .inr (ci, fs))) (hc : xcl[ci]? = some q) (hq : q.1 = y.cls)
    (hn : As.length = k) (hls : ls.size = nL) {st : List Value} (hst : st = As.reverse ++ .ref b :: rest) (hw : (rest.map fun v => v.category).sum ≤ 8) (hf : cells ≤ R.cells ∧ slots ≤ R.slots) (hd : decode cc pc = .ok (.invokevirtual idx, 3))
    (kk : ∀ r : Nat, pr r → W p l e R s m args below meth c H locs cells slots Q (F0 m (pc + 3) ls (.ref r :: rest))) : W p l e R s m args below meth c H locs cells slots Q (F0 m pc ls st) :=
  va_csr (W.runV C0 (hM H.size) ⟨xcallB C0 hk.1 hlk hR, C0.2.2.2.2 _ hk.2.1, C0.2.2.2.2 _ hk.2.2⟩ (xpreV hP hD hK hN isC hC hnC he hc hq) rfl hn hls hst (lv_room hw) hd hf) kk
variable {S : Type} {w1 : S → va_W}
theorem xfree (hD : va_D A0 ws) (hS : va_S A0 H0 H locs) (hA : ∀ q, H0.size ≤ q → A0 q) (isC : List Nat) (hC : isC.map (fun i => ws[i]?) = wc.map some) : ∀ q, va_A wc H.size q → A0 q := va_free hD hS hA isC hC
/-- calls of writers -/
theorem xVwi {pw : Int32 → S → Prop} {b rq ci : Nat} {fs : List Value} {q : vw_C} (C0 : CallFix p m c cc nL s args wsT own) (hM : xWi l G y bytes maxL ret fr lo mc ms (.ref b :: As) wc pw w1) (hk : xVok y bytes maxL ret k) (hlk : Cond.methodLink own idx y ∈ wsT) (hR : fr + 1 ≤ R.frames ∧ 8 + (maxL + 11) + lo ≤ R.locals)
    (hP : va_P G.1 xcl ws H) (hD : va_D A0 ws) (hS : va_S A0 H0 H locs) (hA : ∀ q, H0.size ≤ q → A0 q) (hK : va_K G.1 xcl (xty G) s) (hN : xN s) (isC isR : List Nat) (hC : isC.map (fun i => ws[i]?) = wc.map some) (hRr : isR.map (fun i => ws[i]?) = wr.map some) (hnC : va_nd isC = true) (hnR : va_nd isR = true) (hdis : ∀ i ∈ isR, i ∉ isC) (he : ws[rq]? = some (b, .inr (ci, fs))) (hc : xcl[ci]? = some q) (hq : q.1 = y.cls)
    (hn : As.length = k) (hls : ls.size = nL) {st : List Value} (hst : st = As.reverse ++ .ref b :: rest) (hw : (rest.map fun v => v.category).sum ≤ 8) (hf : cells + mc ≤ R.cells ∧ slots + ms ≤ R.slots) (hd : decode cc pc = .ok (.invokevirtual idx, 3))
    (kk : ∀ (r : Int32) (u : S) (H1 : Heap) (locs1 : List Loc), pw r u → va_P G.1 xcl (wr ++ w1 u) H1 → va_D A0 (wr ++ w1 u) → va_S A0 H0 H1 locs1 → W p l e R s m args below meth c H1 locs1 (cells + mc) (slots + ms) Q (F0 m (pc + 3) ls (.int r :: rest))) : W p l e R s m args below meth c H locs cells slots Q (F0 m pc ls st) := by
  have hF := xfree hD hS hA isC hC
  refine va_calli (va_runV C0 (hM H.size) ⟨xcallB C0 hk.1 hlk hR, C0.2.2.2.2 _ hk.2.1, C0.2.2.2.2 _ hk.2.2⟩ (xpreV hP hD hK hN isC hC hnC he hc hq) rfl hn hls hst (lv_room hw) hd hf) hS (fun q _ h => hF q h) hF (fun r u t H1 locs1 ht hvm hp hB hz1 hk1 hS1 => ?_)
  obtain ⟨hP1, hD1⟩ := hB
  rw [ht] at hP1
  obtain ⟨hP2, hD2⟩ := va_join hP hD isC isR hC hRr hnR hdis hk1 hF hP1 hD1
  exact kk r u H1 locs1 hp hP2 hD2 hS1
theorem xVwl {pw : Int64 → S → Prop} {b rq ci : Nat} {fs : List Value} {q : vw_C} (C0 : CallFix p m c cc nL s args wsT own) (hM : xWl l G y bytes maxL ret fr lo mc ms (.ref b :: As) wc pw w1) (hk : xVok y bytes maxL ret k) (hlk : Cond.methodLink own idx y ∈ wsT) (hR : fr + 1 ≤ R.frames ∧ 8 + (maxL + 11) + lo ≤ R.locals)
    (hP : va_P G.1 xcl ws H) (hD : va_D A0 ws) (hS : va_S A0 H0 H locs) (hA : ∀ q, H0.size ≤ q → A0 q) (hK : va_K G.1 xcl (xty G) s) (hN : xN s) (isC isR : List Nat) (hC : isC.map (fun i => ws[i]?) = wc.map some) (hRr : isR.map (fun i => ws[i]?) = wr.map some) (hnC : va_nd isC = true) (hnR : va_nd isR = true) (hdis : ∀ i ∈ isR, i ∉ isC) (he : ws[rq]? = some (b, .inr (ci, fs))) (hc : xcl[ci]? = some q) (hq : q.1 = y.cls)
    (hn : As.length = k) (hls : ls.size = nL) {st : List Value} (hst : st = As.reverse ++ .ref b :: rest) (hw : (rest.map fun v => v.category).sum ≤ 8) (hf : cells + mc ≤ R.cells ∧ slots + ms ≤ R.slots) (hd : decode cc pc = .ok (.invokevirtual idx, 3))
    (kk : ∀ (r : Int64) (u : S) (H1 : Heap) (locs1 : List Loc), pw r u → va_P G.1 xcl (wr ++ w1 u) H1 → va_D A0 (wr ++ w1 u) → va_S A0 H0 H1 locs1 → W p l e R s m args below meth c H1 locs1 (cells + mc) (slots + ms) Q (F0 m (pc + 3) ls (.long r :: rest))) : W p l e R s m args below meth c H locs cells slots Q (F0 m pc ls st) := by
  have hF := xfree hD hS hA isC hC
  refine va_calll (va_runV C0 (hM H.size) ⟨xcallB C0 hk.1 hlk hR, C0.2.2.2.2 _ hk.2.1, C0.2.2.2.2 _ hk.2.2⟩ (xpreV hP hD hK hN isC hC hnC he hc hq) rfl hn hls hst (lv_room hw) hd hf) hS (fun q _ h => hF q h) hF (fun r u t H1 locs1 ht hvm hp hB hz1 hk1 hS1 => ?_)
  obtain ⟨hP1, hD1⟩ := hB
  rw [ht] at hP1
  obtain ⟨hP2, hD2⟩ := va_join hP hD isC isR hC hRr hnR hdis hk1 hF hP1 hD1
  exact kk r u H1 locs1 hp hP2 hD2 hS1
theorem xVwv {pw : S → Prop} {b rq ci : Nat} {fs : List Value} {q : vw_C} (C0 : CallFix p m c cc nL s args wsT own) (hM : xWv l G y bytes maxL ret fr lo mc ms (.ref b :: As) wc pw w1) (hk : xVok y bytes maxL ret k) (hlk : Cond.methodLink own idx y ∈ wsT) (hR : fr + 1 ≤ R.frames ∧ 8 + (maxL + 11) + lo ≤ R.locals)
    (hP : va_P G.1 xcl ws H) (hD : va_D A0 ws) (hS : va_S A0 H0 H locs) (hA : ∀ q, H0.size ≤ q → A0 q) (hK : va_K G.1 xcl (xty G) s) (hN : xN s) (isC isR : List Nat) (hC : isC.map (fun i => ws[i]?) = wc.map some) (hRr : isR.map (fun i => ws[i]?) = wr.map some) (hnC : va_nd isC = true) (hnR : va_nd isR = true) (hdis : ∀ i ∈ isR, i ∉ isC) (he : ws[rq]? = some (b, .inr (ci, fs))) (hc : xcl[ci]? = some q) (hq : q.1 = y.cls)
    (hn : As.length = k) (hls : ls.size = nL) {st : List Value} (hst : st = As.reverse ++ .ref b :: rest) (hw : (rest.map fun v => v.category).sum ≤ 8) (hf : cells + mc ≤ R.cells ∧ slots + ms ≤ R.slots) (hd : decode cc pc = .ok (.invokevirtual idx, 3))
    (kk : ∀ (u : S) (H1 : Heap) (locs1 : List Loc), pw u → va_P G.1 xcl (wr ++ w1 u) H1 → va_D A0 (wr ++ w1 u) → va_S A0 H0 H1 locs1 → W p l e R s m args below meth c H1 locs1 (cells + mc) (slots + ms) Q (F0 m (pc + 3) ls rest)) : W p l e R s m args below meth c H locs cells slots Q (F0 m pc ls st) := by
  have hF := xfree hD hS hA isC hC
  refine va_callv (va_runV C0 (hM H.size) ⟨xcallB C0 hk.1 hlk hR, C0.2.2.2.2 _ hk.2.1, C0.2.2.2.2 _ hk.2.2⟩ (xpreV hP hD hK hN isC hC hnC he hc hq) rfl hn hls hst (lv_room hw) hd hf) hS (fun q _ h => hF q h) hF (fun u t H1 locs1 ht hvm hp hB hz1 hk1 hS1 => ?_)
  obtain ⟨hP1, hD1⟩ := hB
  rw [ht] at hP1
  obtain ⟨hP2, hD2⟩ := va_join hP hD isC isR hC hRr hnR hdis hk1 hF hP1 hD1
  exact kk u H1 locs1 hp hP2 hD2 hS1
theorem xSwv {pw : S → Prop} (C0 : CallFix p m c cc nL s args wsT own) (hM : xWv l G y bytes maxL ret fr lo mc ms As wc pw w1) (hk : xSok y bytes maxL ret k) (hlk : Cond.methodLink own idx y ∈ wsT) (hR : fr + 1 ≤ R.frames ∧ 8 + (maxL + 11) + lo ≤ R.locals)
    (hP : va_P G.1 xcl ws H) (hD : va_D A0 ws) (hS : va_S A0 H0 H locs) (hA : ∀ q, H0.size ≤ q → A0 q) (hK : va_K G.1 xcl (xty G) s) (hN : xN s) (isC isR : List Nat) (hC : isC.map (fun i => ws[i]?) = wc.map some) (hRr : isR.map (fun i => ws[i]?) = wr.map some) (hnC : va_nd isC = true) (hnR : va_nd isR = true) (hdis : ∀ i ∈ isR, i ∉ isC)
    (hn : As.length = k) (hls : ls.size = nL) {st : List Value} (hst : st = As.reverse ++ rest) (hw : (rest.map fun v => v.category).sum ≤ 8) (hf : cells + mc ≤ R.cells ∧ slots + ms ≤ R.slots) (hd : decode cc pc = .ok (.invokestatic idx, 3))
    (kk : ∀ (u : S) (H1 : Heap) (locs1 : List Loc), pw u → va_P G.1 xcl (wr ++ w1 u) H1 → va_D A0 (wr ++ w1 u) → va_S A0 H0 H1 locs1 → W p l e R s m args below meth c H1 locs1 (cells + mc) (slots + ms) Q (F0 m (pc + 3) ls rest)) : W p l e R s m args below meth c H locs cells slots Q (F0 m pc ls st) := by
  have hF := xfree hD hS hA isC hC
  refine va_callv (va_runS C0 (hM H.size) ⟨xcallB C0 hk.1 hlk hR, C0.2.2.2.2 _ hk.2⟩ (xpre hP hD hK hN isC hC hnC As) rfl hn hls hst (lv_room hw) hd hf) hS (fun q _ h => hF q h) hF (fun u t H1 locs1 ht hvm hp hB hz1 hk1 hS1 => ?_)
  obtain ⟨hP1, hD1⟩ := hB
  rw [ht] at hP1
  obtain ⟨hP2, hD2⟩ := va_join hP hD isC isR hC hRr hnR hdis hk1 hF hP1 hD1
  exact kk u H1 locs1 hp hP2 hD2 hS1
theorem xSNwv {host : String} {pw : S → Prop} (C0 : CallFix p m c cc nL s args wsT own) (hM : xWv l G y bytes maxL ret fr lo mc ms As wc pw w1) (hk : xSok y bytes maxL ret k) (hlk : va_Nw (.methodLinkNest own idx y host) s) (hR : fr + 1 ≤ R.frames ∧ 8 + (maxL + 11) + lo ≤ R.locals)
    (hP : va_P G.1 xcl ws H) (hD : va_D A0 ws) (hS : va_S A0 H0 H locs) (hA : ∀ q, H0.size ≤ q → A0 q) (hK : va_K G.1 xcl (xty G) s) (hN : xN s) (isC isR : List Nat) (hC : isC.map (fun i => ws[i]?) = wc.map some) (hRr : isR.map (fun i => ws[i]?) = wr.map some) (hnC : va_nd isC = true) (hnR : va_nd isR = true) (hdis : ∀ i ∈ isR, i ∉ isC)
    (hn : As.length = k) (hls : ls.size = nL) {st : List Value} (hst : st = As.reverse ++ rest) (hw : (rest.map fun v => v.category).sum ≤ 8) (hf : cells + mc ≤ R.cells ∧ slots + ms ≤ R.slots) (hd : decode cc pc = .ok (.invokestatic idx, 3))
    (kk : ∀ (u : S) (H1 : Heap) (locs1 : List Loc), pw u → va_P G.1 xcl (wr ++ w1 u) H1 → va_D A0 (wr ++ w1 u) → va_S A0 H0 H1 locs1 → W p l e R s m args below meth c H1 locs1 (cells + mc) (slots + ms) Q (F0 m (pc + 3) ls rest)) : W p l e R s m args below meth c H locs cells slots Q (F0 m pc ls st) := by
  have hF := xfree hD hS hA isC hC
  refine va_callv (va_runSN C0 (hM H.size) ⟨xcallN C0 hk.1 hlk hR, C0.2.2.2.2 _ hk.2, trivial⟩ (xpre hP hD hK hN isC hC hnC As) rfl hn hls hst (lv_room hw) hd hf) hS (fun q _ h => hF q h) hF (fun u t H1 locs1 ht hvm hp hB hz1 hk1 hS1 => ?_)
  obtain ⟨hP1, hD1⟩ := hB
  rw [ht] at hP1
  obtain ⟨hP2, hD2⟩ := va_join hP hD isC isR hC hRr hnR hdis hk1 hF hP1 hD1
  exact kk u H1 locs1 hp hP2 hD2 hS1
/-- constructors -/
theorem xI {pw : S → Prop} {b : Nat} (C0 : CallFix p m c cc nL s args wsT own) (hM : xWv l G y bytes maxL none fr lo mc ms (.ref b :: As) wc pw w1) (hk : xIok y bytes maxL k) (hlk : Cond.methodLink own idx y ∈ wsT) (hR : fr + 1 ≤ R.frames ∧ 8 + (maxL + 11) + lo ≤ R.locals)
    (hP : va_P G.1 xcl ws H) (hD : va_D A0 ws) (hS : va_S A0 H0 H locs) (hA : ∀ q, H0.size ≤ q → A0 q) (hK : va_K G.1 xcl (xty G) s) (hN : xN s) (isC isR : List Nat) (hC : isC.map (fun i => ws[i]?) = wc.map some) (hRr : isR.map (fun i => ws[i]?) = wr.map some) (hnC : va_nd isC = true) (hnR : va_nd isR = true) (hdis : ∀ i ∈ isR, i ∉ isC)
    (hn : As.length = k) (hls : ls.size = nL) {st : List Value} (hst : st = As.reverse ++ .ref b :: rest) (hw : (rest.map fun v => v.category).sum ≤ 8) (hf : cells + mc ≤ R.cells ∧ slots + ms ≤ R.slots) (hd : decode cc pc = .ok (.invokespecial idx, 3))
    (kk : ∀ (u : S) (H1 : Heap) (locs1 : List Loc), pw u → va_P G.1 xcl (wr ++ w1 u) H1 → va_D A0 (wr ++ w1 u) → va_S A0 H0 H1 locs1 → W p l e R s m args below meth c H1 locs1 (cells + mc) (slots + ms) Q (F0 m (pc + 3) ls rest)) : W p l e R s m args below meth c H locs cells slots Q (F0 m pc ls st) := by
  have hF := xfree hD hS hA isC hC
  refine va_callv (va_runI C0 (hM H.size) ⟨xcallB C0 hk.1 hlk hR, hk.2.2, C0.2.2.2.2 _ hk.2.1⟩ (xpre hP hD hK hN isC hC hnC (.ref b :: As)) rfl hn hls hst (lv_room hw) hd hf) hS (fun q _ h => hF q h) hF (fun u t H1 locs1 ht hvm hp hB hz1 hk1 hS1 => ?_)
  obtain ⟨hP1, hD1⟩ := hB
  rw [ht] at hP1
  obtain ⟨hP2, hD2⟩ := va_join hP hD isC isR hC hRr hnR hdis hk1 hF hP1 hD1
  exact kk u H1 locs1 hp hP2 hD2 hS1
theorem xIN {host : String} {pw : S → Prop} {b : Nat} (C0 : CallFix p m c cc nL s args wsT own) (hM : xWv l G y bytes maxL none fr lo mc ms (.ref b :: As) wc pw w1) (hk : xIok y bytes maxL k) (hlk : va_Nw (.methodLinkNest own idx y host) s) (hR : fr + 1 ≤ R.frames ∧ 8 + (maxL + 11) + lo ≤ R.locals)
    (hP : va_P G.1 xcl ws H) (hD : va_D A0 ws) (hS : va_S A0 H0 H locs) (hA : ∀ q, H0.size ≤ q → A0 q) (hK : va_K G.1 xcl (xty G) s) (hN : xN s) (isC isR : List Nat) (hC : isC.map (fun i => ws[i]?) = wc.map some) (hRr : isR.map (fun i => ws[i]?) = wr.map some) (hnC : va_nd isC = true) (hnR : va_nd isR = true) (hdis : ∀ i ∈ isR, i ∉ isC)
    (hn : As.length = k) (hls : ls.size = nL) {st : List Value} (hst : st = As.reverse ++ .ref b :: rest) (hw : (rest.map fun v => v.category).sum ≤ 8) (hf : cells + mc ≤ R.cells ∧ slots + ms ≤ R.slots) (hd : decode cc pc = .ok (.invokespecial idx, 3))
    (kk : ∀ (u : S) (H1 : Heap) (locs1 : List Loc), pw u → va_P G.1 xcl (wr ++ w1 u) H1 → va_D A0 (wr ++ w1 u) → va_S A0 H0 H1 locs1 → W p l e R s m args below meth c H1 locs1 (cells + mc) (slots + ms) Q (F0 m (pc + 3) ls rest)) : W p l e R s m args below meth c H locs cells slots Q (F0 m pc ls st) := by
  have hF := xfree hD hS hA isC hC
  refine va_callv (va_runIN C0 (hM H.size) ⟨xcallN C0 hk.1 hlk hR, hk.2.2, C0.2.2.2.2 _ hk.2.1⟩ (xpre hP hD hK hN isC hC hnC (.ref b :: As)) rfl hn hls hst (lv_room hw) hd hf) hS (fun q _ h => hF q h) hF (fun u t H1 locs1 ht hvm hp hB hz1 hk1 hS1 => ?_)
  obtain ⟨hP1, hD1⟩ := hB
  rw [ht] at hP1
  obtain ⟨hP2, hD2⟩ := va_join hP hD isC isR hC hRr hnR hdis hk1 hF hP1 hD1
  exact kk u H1 locs1 hp hP2 hD2 hS1
/-- new arrays, their class the one that is known -/
theorem xnewa {ty : FieldType} {t0 : Nat} {cA0 : ClassId} {idx2 : Nat} (C0 : CallFix p m c cc nL s args wsT own) {atype : ArrayType} (harr : Cond.arrayClass (newarray.typeOf atype) ∈ wsT) (hty : newarray.typeOf atype = ty) (hob : ∀ C, ty ≠ .object C) (hK : va_K G.1 xcl (xty G) s) (ht : (xty G)[t0]? = some (cA0, ty)) (hP : va_P G.1 xcl ws H) (hD : va_D A0 ws) (hS : va_S A0 H0 H locs) (hA : ∀ q, H0.size ≤ q → A0 q)
    {n : Int32} {N' : Nat} {a0 : vp_A} (ha : ∀ cA : ClassId, vp_cell cA a0 = arrV cA N' (fun _ => defaultValue ty)) (hn : ¬ n < 0) (hN' : n.toNatClampNeg = N') (hbytes : N' * componentBytes ty ≤ 536870912) (hcells : cells + 1 ≤ R.cells) (hslots : slots + N' ≤ R.slots) (hdg : decode cc pc = .ok (.newarray atype, 2))
    (kk : ∀ (q : Nat) (H1 : Heap), va_P G.1 xcl (ws ++ [(q, .inl (cA0, a0))]) H1 → va_D A0 (ws ++ [(q, .inl (cA0, a0))]) → va_S A0 H0 H1 locs → W p l e R s m args below meth c H1 locs (cells + 1) (slots + N') Q (F0 m (pc + 2) ls (.ref q :: rest))) : W p l e R s m args below meth c H locs cells slots Q (F0 m pc ls (.int n :: rest)) := by
  refine va_newa C0.1 C0.2.1 (C0.2.2.2.2 _ harr) hty hK hP hD hS hA ha hn hN' hbytes hcells hslots hdg (fun q cA H1 hK1 hP1 hD1 hS1 => ?_)
  have e : cA = cA0 := by
    have h1 := (hK1.2 (xty G).length (cA, ty) (by simp)).2
    have h2 := (hK.2 t0 _ ht).2
    cases ty with
    | object C => exact absurd rfl (hob C)
    | _ => exact Option.some.inj (h1.symm.trans h2)
  subst e
  exact kk q H1 hP1 hD1 hS1
theorem xnewq {C : String} {t0 : Nat} {cA0 : ClassId} (C0 : CallFix p m c cc nL s args wsT own) (hcl : Cond.classLink own idx C ∈ wsT) (hover : va_AO C s) (hK : va_K G.1 xcl (xty G) s) (ht : (xty G)[t0]? = some (cA0, .object C)) (hP : va_P G.1 xcl ws H) (hD : va_D A0 ws) (hS : va_S A0 H0 H locs) (hA : ∀ q, H0.size ≤ q → A0 q)
    {n : Int32} {N' : Nat} (hn : ¬ n < 0) (hN' : n.toNatClampNeg = N') (hbytes : N' * 4 ≤ 536870912) (hcells : cells + 1 ≤ R.cells) (hslots : slots + N' ≤ R.slots) (hdg : decode cc pc = .ok (.anewarray idx, 3))
    (kk : ∀ (q : Nat) (H1 : Heap), va_P G.1 xcl (ws ++ [(q, .inl (cA0, N', .inr (.inr (.inr (.inr (fun _ => none))))))]) H1 → va_D A0 (ws ++ [(q, .inl (cA0, N', .inr (.inr (.inr (.inr (fun _ => none))))))]) → va_S A0 H0 H1 locs → W p l e R s m args below meth c H1 locs (cells + 1) (slots + N') Q (F0 m (pc + 3) ls (.ref q :: rest))) : W p l e R s m args below meth c H locs cells slots Q (F0 m pc ls (.int n :: rest)) := by
  refine va_newq C0.1 C0.2.1 C0.2.2.2.1 (C0.2.2.2.2 _ hcl) hover hK hP hD hS hA hn hN' hbytes hcells hslots hdg (fun q cA H1 hK1 hP1 hD1 hS1 => ?_)
  have e : cA = cA0 := by
    obtain ⟨_, _, _, _, _, h1⟩ := (hK1.2 (xty G).length (cA, .object C) (by simp)).2
    obtain ⟨_, _, _, _, _, h2⟩ := (hK.2 t0 _ ht).2
    exact Option.some.inj (h1.symm.trans h2)
  subst e
  exact kk q H1 hP1 hD1 hS1
end XK
