section
/-- the classes that the law catches, and which is none of which -/
def wkExs : List String := ["java/lang/IllegalArgumentException", "java/lang/IllegalStateException", "java/lang/IndexOutOfBoundsException", "java/lang/UnsupportedOperationException", "java/util/NoSuchElementException"]
def wkNcs : List (String × String) := [("java/lang/IllegalArgumentException", "java/lang/IllegalStateException"), ("java/lang/IllegalArgumentException", "java/lang/IndexOutOfBoundsException"), ("java/lang/IllegalArgumentException", "java/lang/UnsupportedOperationException"), ("java/lang/IllegalArgumentException", "java/util/NoSuchElementException"), ("java/lang/IllegalStateException", "java/lang/IllegalArgumentException"), ("java/lang/IllegalStateException", "java/lang/IndexOutOfBoundsException"), ("java/lang/IllegalStateException", "java/lang/UnsupportedOperationException"), ("java/lang/IllegalStateException", "java/util/NoSuchElementException"), ("java/lang/IndexOutOfBoundsException", "java/lang/IllegalArgumentException"), ("java/lang/IndexOutOfBoundsException", "java/lang/IllegalStateException"), ("java/lang/IndexOutOfBoundsException", "java/lang/UnsupportedOperationException"), ("java/lang/IndexOutOfBoundsException", "java/util/NoSuchElementException"), ("java/lang/UnsupportedOperationException", "java/lang/IllegalArgumentException"), ("java/lang/UnsupportedOperationException", "java/lang/IllegalStateException"), ("java/lang/UnsupportedOperationException", "java/lang/IndexOutOfBoundsException"), ("java/lang/UnsupportedOperationException", "java/util/NoSuchElementException"), ("java/util/NoSuchElementException", "java/lang/IllegalArgumentException"), ("java/util/NoSuchElementException", "java/lang/IllegalStateException"), ("java/util/NoSuchElementException", "java/lang/IndexOutOfBoundsException"), ("java/util/NoSuchElementException", "java/lang/UnsupportedOperationException")]
def wkCast (g : wkG) : Prop := ∀ (A : Nat → Prop) (U : State) (H : Heap), wkRo g A U H → (∀ E ∈ wkExs, va_Nw (.castable E E) U) ∧ ∀ x ∈ wkNcs, va_Nc x.1 x.2 U
/-- the walking method's own table -/
def wkHt (X : wkX) (hh : List (Nat × Nat × Nat × Nat)) : Prop := match X with
  | (_, _, _, _, _, _, _, _, c, _, _, _, _, _) => c.exceptionTable.toList = tableOf hh
theorem wkIf {c : Prop} [Decidable c] {a b : Prop} (h : if c then a else b) : c ∧ a ∨ ¬ c ∧ b := by
  by_cases q : c
  · rw [if_pos q] at h
    exact Or.inl ⟨q, h⟩
  · rw [if_neg q] at h
    exact Or.inr ⟨q, h⟩
theorem wk_ofWT {l : Launch} {y : MethodName} {ws ws' : List Cond} {rm : Room} {Pc : Array Value → State → Prop} {Qc : Array Value → State → Outcome → State → Prop} {mc ms : Nat} {free : Addr → Prop} {cc : ByteArray} {maxL : Nat} {ret : Option FieldType} {hh : List (Nat × Nat × Nat × Nat)}
    (hy : plainFor y = true) (hw : ws = Cond.codeWith y cc maxL ret hh :: ws')
    (body : ∀ p e s m args below meth c s₁, BodyLoose p l y (headSpec ws rm) cc maxL ret e s m args below meth c s₁ → c.maxLocals = maxL → c.exceptionTable.toList = tableOf hh → Pc args s →
      W p l e (headSpec ws rm).room s m args below meth c s.heap [] 0 0 (MQ below Qc args s mc ms free) (entryFrame m args maxL)) : Met l y ws rm Pc Qc mc ms free := by
  refine MetFree.of_bodySF (code := cc) (maxLocals := maxL) (ret := ret) hy ?_ ?_
  · intro args s m h hn
    obtain ⟨m9, meth, c, hn9, h1, h2, h3, h4, -, h5, h6, -⟩ := Cond.codeWith_spec (atoms_spec (ws := ws) h _ (by rw [hw]; exact List.mem_cons_self))
    cases hn.symm.trans hn9
    exact ⟨meth, c, h1, h2, h3, h4, h5, h6⟩
  · intro p e s m args below meth c s₁ B hml hP _
    have hh0 : s₁.heap = s.heap := by rw [B.state]; rfl
    obtain ⟨t, a1, o, b1, b2, b3⟩ := body p e s m args below meth c s₁ B hml (vx_table (x := y) B (atoms_spec (ws := ws) B.pre _ (by rw [hw]; exact List.mem_cons_self))) hP s₁ hh0 (Stand.of_body B)
    exact ⟨t, o, a1, b1, b2, ⟨b3.1, b3.2⟩⟩

set_option maxHeartbeats 1000000 in
theorem wkMet_ofT {l : Launch} {g : wkG} {y : MethodName} {ws ws' : List Cond} {d k n : Nat} {as : List Value} {S : wPS} {Post : Option Value → wPS → Prop} {cc : ByteArray} {maxL : Nat} {ret : Option FieldType} {hh : List (Nat × Nat × Nat × Nat)}
    (hy : plainFor y = true) (hw : ws = Cond.codeWith y cc maxL ret hh :: ws') (hlen : (lg_sl as).length ≤ maxL)
    (body : ∀ X : wkX, wkXg X = g → wkC X cc y.cls maxL ws → wkRm X d k n → wkHt X hh → wkEnd l X cc maxL ret k n Post → wkGo l X maxL 0 0 0 S (wkEnt as maxL) []) : wkMet l g y ws d k n as S Post := by
  intro D cy sz
  refine wk_ofWT (cc := cc) (maxL := maxL) (ret := ret) (hh := hh) hy hw ?_
  intro p e s m args below meth c s₁ B hml htab hv
  obtain ⟨rfl, hz, hP, hK, hD, hNw, hG⟩ := hv
  have hts := atoms_spec (ws := ws) B.pre
  have hown : s.vm.findClass y.cls = some m.cls := findClass_of_methodNamed B.named
  have hA : ∀ q : Nat, s.heap.size ≤ q → va_A (va_pl S.L (wkF cy S)) sz q := fun q hq => Or.inr (by omega)
  have h := body (p, e, { frames := d, cells := k, slots := n, locals := 80 * d }, s, m, as.toArray, below, meth, c, MQ below (fun _ u oc t => (∃ (v : Option Value) (S' : wPS), oc = .returned v ∧ Post v S' ∧ va_P D vwCl (va_pl S'.L (wkF cy S')) t.heap ∧ va_D (va_A (va_pl S.L (wkF cy S)) sz) (va_pl S'.L (wkF cy S'))) ∧ va_F (va_A (va_pl S.L (wkF cy S)) sz) u t) as.toArray s k n (va_A (va_pl S.L (wkF cy S)) sz), D, va_A (va_pl S.L (wkF cy S)) sz, cy, g) rfl
    ⟨⟨B.exec, B.bytes, hml, hown, hts⟩, hK, hA, hNw, hG⟩ rfl htab ?_
  · rw [lg_entry_eq]
    exact h s.heap [] _ hP hD.self va_S.rf (wkEnt_ok hlen)
  · have hr := B.returns
    unfold wkEnd
    split
    · intro cells slots pc S' lv h1 h2 hd hp H locs ls hP hD hS hl
      exact W.widen h1 h2 (W.vret B.exec B.bytes hr (fun t ht _ => ⟨⟨none, S', rfl, hp, by rw [ht]; exact hP, hD⟩, hS.F ht⟩) hS.2.2 hd B.notSynchronized)
    · intro cells slots pc S' lv x h1 h2 hd hp H locs ls hP hD hS hl
      exact W.widen h1 h2 (W.lret B.exec B.bytes hr (fun t ht _ => ⟨⟨some (.long x), S', rfl, hp, by rw [ht]; exact hP, hD⟩, hS.F ht⟩) hS.2.2 hd B.notSynchronized)
    · intro cells slots pc S' lv x h1 h2 hd hp H locs ls hP hD hS hl
      exact W.widen h1 h2 (W.iret B.exec B.bytes hr (fun t ht _ => ⟨⟨some (.int x), S', rfl, hp, by rw [ht]; exact hP, hD⟩, hS.F ht⟩) hS.2.2 hd B.notSynchronized)
    · intro cells slots pc S' lv x h1 h2 hd hn hp H locs ls hP hD hS hl
      exact W.widen h1 h2 (W.zret B.exec B.bytes hr hn (fun t ht _ => ⟨⟨some (.int x), S', rfl, hp, by rw [ht]; exact hP, hD⟩, hS.F ht⟩) hS.2.2 hd B.notSynchronized)
    · intro cells slots pc S' lv x h1 h2 hd hn hp H locs ls hP hD hS hl
      exact W.widen h1 h2 (W.zret B.exec B.bytes hr hn (fun t ht _ => ⟨⟨some (.int x), S', rfl, hp, by rw [ht]; exact hP, hD⟩, hS.F ht⟩) hS.2.2 hd B.notSynchronized)
    · intro cells slots pc S' lv x h1 h2 hd hn hp H locs ls hP hD hS hl
      exact W.widen h1 h2 (W.zret B.exec B.bytes hr hn (fun t ht _ => ⟨⟨some (.int x), S', rfl, hp, by rw [ht]; exact hP, hD⟩, hS.F ht⟩) hS.2.2 hd B.notSynchronized)
    · intro cells slots pc S' lv a h1 h2 hd hp H locs ls hP hD hS hl
      exact W.widen h1 h2 (W.aret B.exec B.bytes hr (Or.inl ⟨_, rfl⟩) (Or.inr ⟨_, rfl⟩) (fun t ht _ => ⟨⟨some (.ref a), S', rfl, hp, by rw [ht]; exact hP, hD⟩, hS.F ht⟩) hS.2.2 hd B.notSynchronized)
    · intro cells slots pc S' lv a h1 h2 hd hp H locs ls hP hD hS hl
      exact W.widen h1 h2 (W.aret B.exec B.bytes hr (Or.inr ⟨_, rfl⟩) (Or.inr ⟨_, rfl⟩) (fun t ht _ => ⟨⟨some (.ref a), S', rfl, hp, by rw [ht]; exact hP, hD⟩, hS.F ht⟩) hS.2.2 hd B.notSynchronized)
    · trivial
variable {l : Launch} {X : wkX} {cc : ByteArray} {own : String} {nL : Nat} {Ts : List Cond} {cells slots pc : Nat} {S : wPS} {lv : wkLv} {st rest : List Value}
set_option maxHeartbeats 1000000 in
/-- a virtual call under handlers -/
theorem wk_callVH (C : wkC X cc own nL Ts) {hh : List (Nat × Nat × Nat × Nat)} (hT : wkHt X hh) (hcs : wkCast (wkXg X)) {d k n : Nat} (hR : wkRm X d k n) {y : MethodName} {bytes : ByteArray} {maxL d0 k0 n0 b index cnt ci N : Nat} {ret : Option FieldType} {ws ws' : List Cond} {As : List Value} {T : u_T} {fs : List Value} {Post : Option Value → wPS → Prop} {PX : String → wPS → Prop}
    (hM : wkMetX l (wkXg X) y ws d0 k0 n0 (.ref b :: As) S Post PX) (hw : ws = Cond.code y bytes maxL ret :: ws') (hg : GoodIn Ts (wsV own index y.cls y ws)) (hd0 : d0 + 1 ≤ d) (hmax : maxL ≤ 60)
    (hL : b ∈ S.L) (he : ∀ cy : Nat → ClassId, wkF cy S b = .inr (ci, fs)) (hc : vwCl[ci]? = some (y.cls, T, N)) (hpl : y.cls ≠ "java/lang/invoke/MethodHandle" ∧ y.cls ≠ "java/lang/invoke/VarHandle" ∧ (parseMethodDescriptor y.desc).map (fun d => d.parameters.length) = some cnt)
    (hn : As.length = cnt) (hst : st = As.reverse ++ .ref b :: rest) (hcat : (rest.map fun v => v.category).sum ≤ 8) (hk : cells + k0 ≤ k) (hs : slots + n0 ≤ n) (hd : decode cc pc = .ok (.invokevirtual index, 3))
    (kx : ∀ (E : String) (S' : wPS), PX E S' → ∃ (pre suf : List (Nat × Nat × Nat × Nat)) (a b h ct : Nat), hh = pre ++ (a, b, h, ct) :: suf ∧ (∀ z ∈ pre, z.2.2.2 ≠ 0 ∧ ∃ nm : String, Cond.classLink own z.2.2.2 nm ∈ Ts ∧ (E, nm) ∈ wkNcs) ∧ covers ⟨a, b, h, ct⟩ pc = true ∧ ct ≠ 0 ∧ Cond.classLink own ct E ∈ Ts ∧ E ∈ wkExs ∧ ∀ q : Nat, wkGo l X nL (cells + k0) (slots + n0) h S' lv [.ref q])
    (kk : ∀ (v : Option Value) (S' : wPS), Post v S' → wkGo l X nL (cells + k0) (slots + n0) (pc + 3) S' lv (v.toList ++ rest)) : wkGo l X nL cells slots pc S lv st := by
  obtain ⟨p, e, R, s, m, args, below, meth, c, Q, D, A, cy, g⟩ := X
  intro H locs ls hP hD hS hl
  obtain ⟨⟨hx, hb, hml, hown, hts⟩, hK, hA, hNw, hG⟩ := C
  have hR : R = { frames := d, cells := k, slots := n, locals := 80 * d } := hR
  subst hR
  subst hst
  obtain ⟨q, -, hq⟩ := wkAt hL (he cy)
  have htab : c.exceptionTable.toList = tableOf hh := hT
  have hcq := hcs A s s.heap hG
  refine wk_backX (as := (Value.ref b :: As).toArray) hA hD hS hl (vx_runV (As := As) (rest := rest) ⟨hx, hb, hml, hown, hts⟩ (hM D cy H.size) (cwV cnt hts hg hw rfl rfl ⟨rfl, hpl⟩ ⟨hd0, ?_⟩) ⟨wk_blind, va_recv hK hP hc hq, fun U hU hW => ⟨rfl, by rw [hU], by rw [hU]; exact hP, va_K.moved hW.alike hK, hD.weaken (fun _ _ _ _ => trivial), wkNw.warm hW hNw, wkRo.call hG hS hD hW hU⟩⟩ rfl hn hl.1 rfl (lv_room hcat) hd ⟨hk, hs⟩) kk
    (fun S' E ce q H1 locs1 hp hP1 hD1 hS1 hce hcv hcl => ?_)
  · show 8 + (maxL + 11) + 80 * d0 ≤ 80 * d
    omega
  · obtain ⟨pre, suf, a, b, h, ct, e1, hpass, h1, h2, h3, h4, hgo⟩ := kx E S' hp
    refine vx_catch hown (tableOf pre) ⟨a, b, h, ct⟩ (tableOf suf) (by rw [htab, e1]; simp [tableOf]) (fun z hz => ?_) h1 h2 (hts _ h3) (va_Nw.use rfl (hcq.1 E h4)) hce hcv hcl (hgo q H1 locs1 ls hP1 hD1 hS1 hl)
    obtain ⟨w, hw1, rfl⟩ := List.mem_map.mp hz
    obtain ⟨z0, nm, l1, l2⟩ := hpass w hw1
    exact Or.inr ⟨z0, nm, hts _ l1, hcq.2 _ l2⟩
set_option maxHeartbeats 1000000 in
/-- a static call of a method with a table -/
theorem wk_callT (C : wkC X cc own nL Ts) {d k n : Nat} (hR : wkRm X d k n) {y : MethodName} {bytes : ByteArray} {maxL d0 k0 n0 index cnt : Nat} {ret : Option FieldType} {hh : List (Nat × Nat × Nat × Nat)} {ws ws' : List Cond} {As : List Value} {Post : Option Value → wPS → Prop}
    (hM : wkMet l (wkXg X) y ws d0 k0 n0 As S Post) (hw : ws = Cond.codeWith y bytes maxL ret hh :: ws') (hg : GoodIn Ts (va_wsS own index y ws)) (hd0 : d0 + 1 ≤ d) (hmax : maxL ≤ 60)
    (hpl : y.cls ≠ "java/lang/invoke/MethodHandle" ∧ y.cls ≠ "java/lang/invoke/VarHandle" ∧ (parseMethodDescriptor y.desc).map (fun d => d.parameters.length) = some cnt)
    (hn : As.length = cnt) (hst : st = As.reverse ++ rest) (hcat : (rest.map fun v => v.category).sum ≤ 8) (hk : cells + k0 ≤ k) (hs : slots + n0 ≤ n) (hd : decode cc pc = .ok (.invokestatic index, 3))
    (kk : ∀ (v : Option Value) (S' : wPS), Post v S' → wkGo l X nL (cells + k0) (slots + n0) (pc + 3) S' lv (v.toList ++ rest)) : wkGo l X nL cells slots pc S lv st := by
  obtain ⟨p, e, R, s, m, args, below, meth, c, Q, D, A, cy, g⟩ := X
  intro H locs ls hP hD hS hl
  obtain ⟨⟨hx, hb, hml, hown, hts⟩, hK, hA, hNw, hG⟩ := C
  have hR : R = { frames := d, cells := k, slots := n, locals := 80 * d } := hR
  subst hR
  subst hst
  refine wk_back (as := As.toArray) hA hD hS hl (vx_runSW (As := As) (rest := rest) ⟨hx, hb, hml, hown, hts⟩ (hM D cy H.size) (vx_cwSW cnt hts hg hw rfl rfl hpl ⟨hd0, ?_⟩) ⟨wk_blind, fun U hU hW => ⟨rfl, by rw [hU], by rw [hU]; exact hP, va_K.moved hW.alike hK, hD.weaken (fun _ _ _ _ => trivial), wkNw.warm hW hNw, wkRo.call hG hS hD hW hU⟩⟩ rfl hn hl.1 rfl (lv_room hcat) hd ⟨hk, hs⟩) kk
  show 8 + (maxL + 11) + 80 * d0 ≤ 80 * d
  omega
set_option maxHeartbeats 1000000 in
/-- a call of a constructor by an ordinary link -/
theorem wk_callIL (C : wkC X cc own nL Ts) {d k n : Nat} (hR : wkRm X d k n) {y : MethodName} {bytes : ByteArray} {maxL d0 k0 n0 b index cnt : Nat} {ws ws' : List Cond} {As : List Value} {Post : Option Value → wPS → Prop}
    (hM : wkMet l (wkXg X) y ws d0 k0 n0 (.ref b :: As) S Post) (hw : ws = Cond.code y bytes maxL none :: ws') (hg : GoodIn Ts ws) (hlink : Cond.methodLink own index y ∈ Ts) (hnm : y.name = "<init>") (hins : Cond.instanceMethod y ∈ Ts) (hini : Cond.initialized y.cls ∈ Ts) (hd0 : d0 + 1 ≤ d) (hmax : maxL ≤ 60)
    (hpl : y.cls ≠ "java/lang/invoke/MethodHandle" ∧ y.cls ≠ "java/lang/invoke/VarHandle" ∧ (parseMethodDescriptor y.desc).map (fun d => d.parameters.length) = some cnt)
    (hn : As.length = cnt) (hst : st = As.reverse ++ .ref b :: rest) (hcat : (rest.map fun v => v.category).sum ≤ 8) (hk : cells + k0 ≤ k) (hs : slots + n0 ≤ n) (hd : decode cc pc = .ok (.invokespecial index, 3))
    (kk : ∀ (v : Option Value) (S' : wPS), Post v S' → wkGo l X nL (cells + k0) (slots + n0) (pc + 3) S' lv (v.toList ++ rest)) : wkGo l X nL cells slots pc S lv st := by
  obtain ⟨p, e, R, s, m, args, below, meth, c, Q, D, A, cy, g⟩ := X
  intro H locs ls hP hD hS hl
  obtain ⟨⟨hx, hb, hml, hown, hts⟩, hK, hA, hNw, hG⟩ := C
  have hR : R = { frames := d, cells := k, slots := n, locals := 80 * d } := hR
  subst hR
  subst hst
  refine wk_back (as := (Value.ref b :: As).toArray) hA hD hS hl (va_runI (As := As) (rest := rest) ⟨hx, hb, hml, hown, hts⟩ (hM D cy H.size) (cwI cnt hts hg hw rfl rfl (hts _ hini) (hts _ hlink) (hts _ hins) hnm hpl ⟨hd0, ?_⟩) ⟨wk_blind, fun U hU hW => ⟨rfl, by rw [hU], by rw [hU]; exact hP, va_K.moved hW.alike hK, hD.weaken (fun _ _ _ _ => trivial), wkNw.warm hW hNw, wkRo.call hG hS hD hW hU⟩⟩ rfl hn hl.1 rfl (lv_room hcat) hd ⟨hk, hs⟩) kk
  show 8 + (maxL + 11) + 80 * d0 ≤ 80 * d
  omega
/-- the law's argument is read alone: at 8, as long as 9 tells, its numbers from 100 on -/
def wkArg (g : wkG) : Prop := ∀ (A : Nat → Prop) (U : State) (H : Heap), wkRo g A U H → va_T .int (g.1 8) (g.1 9) (fun j => .int (Int32.ofNat (g.1 (100 + j)))) A U H
theorem wk_alen (C : wkC X cc own nL Ts) (harg : wkArg (wkXg X)) {a : Nat} {v : Int32} (ha : a = (wkXg X).1 8) (hv : Int32.ofNat ((wkXg X).1 9) = v) (hd : decode cc pc = .ok (.arraylength, 1)) (k : wkGo l X nL cells slots (pc + 1) S lv (.int v :: rest)) : wkGo l X nL cells slots pc S lv (.ref a :: rest) := by
  obtain ⟨p, e, R, s, m, args, below, meth, c, Q, D, A, cy, g⟩ := X
  intro H locs ls hP hD hS hl
  obtain ⟨⟨hx, hb, hml, hown, hts⟩, hK, hA, hNw, hG⟩ := C
  subst ha
  exact va_tlen hx hb (harg A s s.heap hG) hS hv hd (k H locs ls hP hD hS hl)
theorem wk_aald (C : wkC X cc own nL Ts) (harg : wkArg (wkXg X)) {a : Nat} {j v : Int32} (ha : a = (wkXg X).1 8) (hin : vp_in j ((wkXg X).1 9)) (hv : Int32.ofNat ((wkXg X).1 (100 + j.toNatClampNeg)) = v) (hd : decode cc pc = .ok (.iaload, 1)) (k : wkGo l X nL cells slots (pc + 1) S lv (.int v :: rest)) : wkGo l X nL cells slots pc S lv (.int j :: .ref a :: rest) := by
  obtain ⟨p, e, R, s, m, args, below, meth, c, Q, D, A, cy, g⟩ := X
  intro H locs ls hP hD hS hl
  obtain ⟨⟨hx, hb, hml, hown, hts⟩, hK, hA, hNw, hG⟩ := C
  subst ha
  subst hv
  exact va_ti hx hb (harg A s s.heap hG) hS hin rfl hd (k H locs ls hP hD hS hl)
/-- the law's own constant string is the same object -/
def wkStrL (g : wkG) : Prop := ∀ (A : Nat → Prop) (U : State) (H : Heap), wkRo g A U H → vk_R "WitnessworksLaw" 228 "mfplsdnrgwax" (g.1 5) U
theorem wk_ldcL (C : wkC X cc own nL Ts) (hstrL : wkStrL (wkXg X)) (ho : own = "WitnessworksLaw") (hd : decode cc pc = .ok (.ldc 228, 2)) (k : wkGo l X nL cells slots (pc + 2) S lv (.ref ((wkXg X).1 5) :: rest)) : wkGo l X nL cells slots pc S lv rest := by
  obtain ⟨p, e, R, s, m, args, below, meth, c, Q, D, A, cy, g⟩ := X
  intro H locs ls hP hD hS hl
  obtain ⟨⟨hx, hb, hml, hown, hts⟩, hK, hA, hNw, hG⟩ := C
  subst ho
  exact va_ldcS hx hb hown (hstrL A s s.heap hG) hd (k H locs ls hP hD hS hl)
theorem wkEndX_no {k n : Nat} : wkEndX l X cc nL k n (fun _ _ => False) := by
  obtain ⟨p, e, R, s, m, args, below, meth, c, Q, D, A, cy, g⟩ := X
  intro cells slots pc S ls rest E ce q H locs _ _ _ h
  exact h.elim
end
