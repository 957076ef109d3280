section
def wkSn (i : Nat) : String := match i with
  | 0 => "LEAST_SIZE"
  | 1 => "MOST_SIZE"
  | 2 => "LEAST_BOUND"
  | 3 => "MOST_BOUND"
  | _ => "MOST_ITEMS"
def wkTl (i : Nat) : List Int32 := match i with
  | 0 => [1, 2, 1, 1, 1, 1, 1, 1, 2, 1, 1, 1]
  | 1 => [9, 7, 7, 4, 6, 4, 1, 1, 6, 1, 8, 7]
  | 2 => [0, 0, 0, 0, 0, (-40), 2, 0, 0, 0, 0, 0]
  | 3 => [9, 60, 11, 40, 6, 40, 9999, 3, 4, 7, 7, 6]
  | _ => [16, 10, 11, 12, 12, 2, 0, 1, 5, 6, 8, 7]
/-- the numbers of the class's static rows -/
def wkTab (i j : Nat) : Int32 := (wkTl i).getD j 0
/-- the House's links to static rows of its nest mate -/
def wkFs : List (Nat × String) := [(240, "MOST_SIZE"), (243, "MOST_ITEMS"), (266, "MOST_BOUND")]
/-- what is read alone holds the static rows -/
def wkSta (g : wkG) : Prop := (∀ (A : Nat → Prop) (U : State) (H : Heap), wkRo g A U H → ∀ i : Nat, i < 5 → va_Z "Witnessworks" (wkSn i) "[I" (.ref (g.1 i)) A U H ∧ va_T .int (g.1 i) 12 (fun j => .int (wkTab i j)) A U H) ∧
  ∀ (A : Nat → Prop) (U : State) (H : Heap), wkRo g A U H → ∀ w ∈ wkFs, va_Nw (.fieldLinkNest "Witnessworks$House" w.1 "Witnessworks" w.2 "[I" "Witnessworks") U
variable {l : Launch} {X : wkX} {cc : ByteArray} {own : String} {nL : Nat} {Ts : List Cond} {cells slots pc : Nat} {S : wPS} {lv : wkLv} {st rest : List Value}
theorem wk_gets (C : wkC X cc own nL Ts) (hst : wkSta (wkXg X)) {index i : Nat} (hi : i < 5) (hlink : Cond.fieldLink own index "Witnessworks" (wkSn i) "[I" ∈ Ts) (hd : decode cc pc = .ok (.getstatic index, 3)) (k : wkGo l X nL cells slots (pc + 3) S lv (.ref ((wkXg X).1 i) :: rest)) : wkGo l X nL cells slots pc S lv rest := by
  obtain ⟨p, e, R, s, m, args, below, meth, c, Q, D, A, cy, g⟩ := X
  intro H locs ls hP hD hS hl
  obtain ⟨⟨hx, hb, hml, hown, hts⟩, hK, hA, hNw, hG⟩ := C
  exact va_gets hx hb (hst.1 A s s.heap hG i hi).1 hS hown (hts _ hlink) (fun x h => h) hd (k H locs ls hP hD hS hl)
theorem wk_getsN (C : wkC X cc own nL Ts) (ho : own = "Witnessworks$House") (hst : wkSta (wkXg X)) {index i : Nat} (hi : i < 5) (hw : (index, wkSn i) ∈ wkFs) (hd : decode cc pc = .ok (.getstatic index, 3)) (k : wkGo l X nL cells slots (pc + 3) S lv (.ref ((wkXg X).1 i) :: rest)) : wkGo l X nL cells slots pc S lv rest := by
  obtain ⟨p, e, R, s, m, args, below, meth, c, Q, D, A, cy, g⟩ := X
  intro H locs ls hP hD hS hl
  obtain ⟨⟨hx, hb, hml, hown, hts⟩, hK, hA, hNw, hG⟩ := C
  subst ho
  have h1 : va_Nw (.fieldLinkNest "Witnessworks$House" index "Witnessworks" (wkSn i) "[I" "Witnessworks") s := hst.2 A s s.heap hG (index, wkSn i) hw
  have h2 : (Cond.fieldLinkNest "Witnessworks$House" index "Witnessworks" (wkSn i) "[I" "Witnessworks").before args s = true := va_Nw.use rfl h1
  have h3 := (hst.1 A s s.heap hG i hi).1
  exact va_getsN (ref := "Witnessworks") (host := "Witnessworks") hx hb h3 hS hown h2 (fun x h => h) hd (k H locs ls hP hD hS hl)
theorem wk_tabld (C : wkC X cc own nL Ts) (hst : wkSta (wkXg X)) {i : Nat} {j v : Int32} (hi : i < 5) (hin : vp_in j 12) (hv : wkTab i j.toNatClampNeg = v) (hd : decode cc pc = .ok (.iaload, 1)) (k : wkGo l X nL cells slots (pc + 1) S lv (.int v :: rest)) : wkGo l X nL cells slots pc S lv (.int j :: .ref ((wkXg X).1 i) :: rest) := by
  obtain ⟨p, e, R, s, m, args, below, meth, c, Q, D, A, cy, g⟩ := X
  intro H locs ls hP hD hS hl
  obtain ⟨⟨hx, hb, hml, hown, hts⟩, hK, hA, hNw, hG⟩ := C
  subst hv
  exact va_ti hx hb (hst.1 A s s.heap hG i hi).2 hS hin rfl hd (k H locs ls hP hD hS hl)
end
