section
/-- the letters of the kinds, as bytes -/
def wkKd (j : Nat) : Int32 := ([109, 102, 112, 108, 115, 100, 110, 114, 103, 119, 97, 120] : List Int32).getD j 0
/-- the formatter: null where the mark at 10 is 0 -/
def wkFm (g : wkG) : Value := if g.1 10 = 0 then .null else .ref (g.1 7)
theorem wkFm_or (g : wkG) : wkFm g = .null ∨ wkFm g = .ref (g.1 7) := by
  unfold wkFm
  by_cases h : g.1 10 = 0
  · exact Or.inl (if_pos h)
  · exact Or.inr (if_neg h)
/-- what is read alone holds the constant string: the object at 5, its bytes at 6, the formatter of the JDK's checks at 7 -/
def wkStr (g : wkG) : Prop := ∀ (A : Nat → Prop) (U : State) (H : Heap), wkRo g A U H → vk_R "Witnessworks" 64 "mfplsdnrgwax" (g.1 5) U ∧ va_O "java/lang/String" (g.1 5) A U H ∧ va_OF "java/lang/String" "value" "[B" (.ref (g.1 6)) (g.1 5) A U H ∧ va_OF "java/lang/String" "coder" "B" (.int 0) (g.1 5) A U H ∧
  va_Z "java/lang/String" "COMPACT_STRINGS" "Z" (.int 1) A U H ∧ va_T .byte (g.1 6) 12 (fun j => .int (wkKd j)) A U H ∧ va_Z "jdk/internal/util/Preconditions" "SIOOBE_FORMATTER" "Ljava/util/function/BiFunction;" (wkFm g) A U H
variable {l : Launch} {X : wkX} {cc : ByteArray} {own : String} {nL : Nat} {Ts : List Cond} {cells slots pc : Nat} {S : wPS} {lv : wkLv} {st rest : List Value}
theorem wk_ldcS (C : wkC X cc own nL Ts) (hstr : wkStr (wkXg X)) (ho : own = "Witnessworks") (hd : decode cc pc = .ok (.ldc 64, 2)) (k : wkGo l X nL cells slots (pc + 2) S lv (.ref ((wkXg X).1 5) :: rest)) : wkGo l X nL cells slots pc S lv rest := by
  obtain ⟨p, e, R, s, m, args, below, meth, c, Q, D, A, cy, g⟩ := X
  intro H locs ls hP hD hS hl
  obtain ⟨⟨hx, hb, hml, hown, hts⟩, hK, hA, hNw, hG⟩ := C
  subst ho
  exact va_ldcS hx hb hown (hstr A s s.heap hG).1 hd (k H locs ls hP hD hS hl)
theorem wk_sval (C : wkC X cc own nL Ts) (hstr : wkStr (wkXg X)) {a index : Nat} (ha : a = (wkXg X).1 5) (hlink : Cond.fieldLink own index "java/lang/String" "value" "[B" ∈ Ts) (hd : decode cc pc = .ok (.getfield index, 3)) (k : wkGo l X nL cells slots (pc + 3) S lv (.ref ((wkXg X).1 6) :: rest)) : wkGo l X nL cells slots pc S lv (.ref a :: rest) := by
  obtain ⟨p, e, R, s, m, args, below, meth, c, Q, D, A, cy, g⟩ := X
  intro H locs ls hP hD hS hl
  obtain ⟨⟨hx, hb, hml, hown, hts⟩, hK, hA, hNw, hG⟩ := C
  subst ha
  obtain ⟨cf, k0, i, f, cell, h1, h2, h3, h4, h5, -⟩ := ((hstr A s s.heap hG).2.2.1).kept hS.2.1
  exact W.getf hx hb hown (hts _ hlink) h1 h2 h3 h4 h5 rfl rfl hd (k H locs ls hP hD hS hl)
theorem wk_scod (C : wkC X cc own nL Ts) (hstr : wkStr (wkXg X)) {a index : Nat} (ha : a = (wkXg X).1 5) (hlink : Cond.fieldLink own index "java/lang/String" "coder" "B" ∈ Ts) (hd : decode cc pc = .ok (.getfield index, 3)) (k : wkGo l X nL cells slots (pc + 3) S lv (.int 0 :: rest)) : wkGo l X nL cells slots pc S lv (.ref a :: rest) := by
  obtain ⟨p, e, R, s, m, args, below, meth, c, Q, D, A, cy, g⟩ := X
  intro H locs ls hP hD hS hl
  obtain ⟨⟨hx, hb, hml, hown, hts⟩, hK, hA, hNw, hG⟩ := C
  subst ha
  obtain ⟨cf, k0, i, f, cell, h1, h2, h3, h4, h5, -⟩ := ((hstr A s s.heap hG).2.2.2.1).kept hS.2.1
  exact W.getf hx hb hown (hts _ hlink) h1 h2 h3 h4 h5 rfl rfl hd (k H locs ls hP hD hS hl)
theorem wk_scmp (C : wkC X cc own nL Ts) (hstr : wkStr (wkXg X)) {index : Nat} (hlink : Cond.fieldLink own index "java/lang/String" "COMPACT_STRINGS" "Z" ∈ Ts) (hd : decode cc pc = .ok (.getstatic index, 3)) (k : wkGo l X nL cells slots (pc + 3) S lv (.int 1 :: rest)) : wkGo l X nL cells slots pc S lv rest := by
  obtain ⟨p, e, R, s, m, args, below, meth, c, Q, D, A, cy, g⟩ := X
  intro H locs ls hP hD hS hl
  obtain ⟨⟨hx, hb, hml, hown, hts⟩, hK, hA, hNw, hG⟩ := C
  exact va_gets hx hb (hstr A s s.heap hG).2.2.2.2.1 hS hown (hts _ hlink) (fun x h => h) hd (k H locs ls hP hD hS hl)
theorem wk_ssio (C : wkC X cc own nL Ts) (hstr : wkStr (wkXg X)) {index : Nat} (hlink : Cond.fieldLink own index "jdk/internal/util/Preconditions" "SIOOBE_FORMATTER" "Ljava/util/function/BiFunction;" ∈ Ts) (hd : decode cc pc = .ok (.getstatic index, 3)) (k : wkGo l X nL cells slots (pc + 3) S lv (wkFm (wkXg X) :: rest)) : wkGo l X nL cells slots pc S lv rest := by
  obtain ⟨p, e, R, s, m, args, below, meth, c, Q, D, A, cy, g⟩ := X
  intro H locs ls hP hD hS hl
  obtain ⟨⟨hx, hb, hml, hown, hts⟩, hK, hA, hNw, hG⟩ := C
  exact va_gets hx hb (hstr A s s.heap hG).2.2.2.2.2.2 hS hown (hts _ hlink) (fun x h => h) hd (k H locs ls hP hD hS hl)
theorem wk_sbal (C : wkC X cc own nL Ts) (hstr : wkStr (wkXg X)) {a : Nat} {j v : Int32} (ha : a = (wkXg X).1 6) (hin : vp_in j 12) (hv : wkKd j.toNatClampNeg = v) (hd : decode cc pc = .ok (.baload, 1)) (k : wkGo l X nL cells slots (pc + 1) S lv (.int v :: rest)) : wkGo l X nL cells slots pc S lv (.int j :: .ref a :: rest) := by
  obtain ⟨p, e, R, s, m, args, below, meth, c, Q, D, A, cy, g⟩ := X
  intro H locs ls hP hD hS hl
  obtain ⟨⟨hx, hb, hml, hown, hts⟩, hK, hA, hNw, hG⟩ := C
  subst ha
  subst hv
  exact va_tb hx hb (hstr A s s.heap hG).2.2.2.2.2.1 hS hin rfl hd (k H locs ls hP hD hS hl)
theorem wk_slen (C : wkC X cc own nL Ts) (hstr : wkStr (wkXg X)) {a : Nat} (ha : a = (wkXg X).1 6) (hd : decode cc pc = .ok (.arraylength, 1)) (k : wkGo l X nL cells slots (pc + 1) S lv (.int (12 : Int32) :: rest)) : wkGo l X nL cells slots pc S lv (.ref a :: rest) := by
  obtain ⟨p, e, R, s, m, args, below, meth, c, Q, D, A, cy, g⟩ := X
  intro H locs ls hP hD hS hl
  obtain ⟨⟨hx, hb, hml, hown, hts⟩, hK, hA, hNw, hG⟩ := C
  subst ha
  exact va_tlen hx hb (hstr A s s.heap hG).2.2.2.2.2.1 hS (by decide) hd (k H locs ls hP hD hS hl)
theorem wk_i2b (C : wkC X cc own nL Ts) {x v : Int32} (hd : decode cc pc = .ok (.i2b, 1)) (hv : x.toInt8.toInt32 = v) (k : wkGo l X nL cells slots (pc + 1) S lv (.int v :: rest)) : wkGo l X nL cells slots pc S lv (.int x :: rest) := by
  obtain ⟨p, e, R, s, m, args, below, meth, c, Q, D, A, cy, g⟩ := X
  intro H locs ls hP hD hS hl
  obtain ⟨⟨hx, hb, hml, hown, hts⟩, hK, hA, hNw, hG⟩ := C
  exact lv_i2b hx hb hd hv (k H locs ls hP hD hS hl)
set_option maxHeartbeats 1000000 in
theorem wk_callVS (C : wkC X cc own nL Ts) (hstr : wkStr (wkXg X)) {d k n : Nat} (hR : wkRm X d k n) {y : MethodName} {bytes : ByteArray} {maxL d0 k0 n0 b index cnt : Nat} {ret : Option FieldType} {ws ws' : List Cond} {As : List Value} {Post : Option Value → wPS → Prop}
    (hM : wkMet l (wkXg X) y ws d0 k0 n0 (.ref b :: As) S Post) (hw : ws = Cond.code y bytes maxL ret :: ws') (hg : GoodIn Ts (wsV own index y.cls y ws)) (hd0 : d0 + 1 ≤ d) (hmax : maxL ≤ 60)
    (hb5 : b = (wkXg X).1 5) (hys : y.cls = "java/lang/String") (hpl : y.cls ≠ "java/lang/invoke/MethodHandle" ∧ y.cls ≠ "java/lang/invoke/VarHandle" ∧ (parseMethodDescriptor y.desc).map (fun d => d.parameters.length) = some cnt)
    (hn : As.length = cnt) (hst : st = As.reverse ++ .ref b :: rest) (hcat : (rest.map fun v => v.category).sum ≤ 8) (hk : cells + k0 ≤ k) (hs : slots + n0 ≤ n) (hd : decode cc pc = .ok (.invokevirtual index, 3))
    (kk : ∀ (v : Option Value) (S' : wPS), Post v S' → wkGo l X nL (cells + k0) (slots + n0) (pc + 3) S' lv (v.toList ++ rest)) : wkGo l X nL cells slots pc S lv st := by
  obtain ⟨p, e, R, s, m, args, below, meth, c, Q, D, A, cy, g⟩ := X
  intro H locs ls hP hD hS hl
  obtain ⟨⟨hx, hb, hml, hown, hts⟩, hK, hA, hNw, hG⟩ := C
  have hR : R = { frames := d, cells := k, slots := n, locals := 80 * d } := hR
  subst hR
  subst hst
  have ho : ∃ cell : Cell, H[b]? = some cell ∧ cell.vm.isStatics = false ∧ s.vm.findClass y.cls = some cell.cls := by
    rw [hys, hb5]
    exact va_Orecv (hstr A s s.heap hG).2.1 hS
  refine wk_back (as := (Value.ref b :: As).toArray) hA hD hS hl (va_runV (As := As) (rest := rest) ⟨hx, hb, hml, hown, hts⟩ (hM D cy H.size) (cwV cnt hts hg hw rfl rfl ⟨rfl, hpl⟩ ⟨hd0, ?_⟩) ⟨wk_blind, ho, fun U hU hW => ⟨rfl, by rw [hU], by rw [hU]; exact hP, va_K.moved hW.alike hK, hD.weaken (fun _ _ _ _ => trivial), wkNw.warm hW hNw, wkRo.call hG hS hD hW hU⟩⟩ rfl hn hl.1 rfl (lv_room hcat) hd ⟨hk, hs⟩) kk
  show 8 + (maxL + 11) + 80 * d0 ≤ 80 * d
  omega
end
