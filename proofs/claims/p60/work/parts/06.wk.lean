/-! THE WALK OVER A POOL: wkGo is W for every heap that holds the pool S; one row an instruction; a method's contract over pools. -/
section
/-- what is read alone: addresses by number, cells that stay, what the tables say -/
abbrev wkG : Type := (Nat → Nat) × (Nat → Option Cell) × (State → Prop)
def wkRo (g : wkG) (A : Nat → Prop) (U : State) (H : Heap) : Prop := (∀ (a : Nat) (c : Cell), g.2.1 a = some c → H[a]? = some c ∧ ¬ A a) ∧ g.2.2 U ∧ ∀ u U' : State, u.WarmedH U'.vm → g.2.2 u → g.2.2 U'
abbrev wkX : Type := Program × Env × Room × State × MethodId × Array Value × List Frame × Method × Code × (State → Prop) × va_G × (Nat → Prop) × (Nat → ClassId) × wkG
abbrev wkLv : Type := List (Option Value)
/-- the locals: what the list names is there -/
def wkLok (ls : Array Slot) (nL : Nat) (lv : wkLv) : Prop := ls.size = nL ∧ lv_wf ls ∧ ∀ (i : Nat) (v : Value), lv[i]? = some (some v) → ls[i]? = some (.val v)
def wkLd (lv : wkLv) (i : Nat) : Option Value := (lv[i]?).getD none
def wkCut (lv : wkLv) (i : Nat) : wkLv := match i with
  | 0 => lv
  | j + 1 => match lv[j]? with
    | some (some v) => if v.category = 2 then lv.set j none else lv
    | _ => lv
def wkS1 (lv : wkLv) (i : Nat) (v : Value) : wkLv := (wkCut lv i).set i (some v)
def wkS2 (lv : wkLv) (i : Nat) (v : Value) : wkLv := ((wkCut lv i).set i (some v)).set (i + 1) none
def wkPr (lv : wkLv) : List (Nat × Value) := (List.range lv.length).filterMap fun i => (wkLd lv i).map fun v => (i, v)
theorem wkLd_get {lv : wkLv} {i : Nat} {v : Value} (h : wkLd lv i = some v) : lv[i]? = some (some v) := by
  unfold wkLd at h
  cases hq : lv[i]? with
  | none => rw [hq] at h; cases h
  | some x => rw [hq] at h; exact congrArg some h
theorem wkLd_at {ls : Array Slot} {nL : Nat} {lv : wkLv} {i : Nat} {v : Value} (h : wkLok ls nL lv) (hv : wkLd lv i = some v) : ls[i]? = some (.val v) := h.2.2 i v (wkLd_get hv)
theorem wkPr_has {ls : Array Slot} {nL : Nat} {lv : wkLv} (h : wkLok ls nL lv) : lv_has ls nL (wkPr lv) := by
  refine ⟨h.1, h.2.1, fun q hq => ?_⟩
  obtain ⟨i, -, hi⟩ := List.mem_filterMap.mp hq
  cases hv : wkLd lv i with
  | none => rw [hv] at hi; cases hi
  | some v =>
    rw [hv] at hi
    cases hi
    exact wkLd_at h hv
theorem wkPr_mem {lv : wkLv} {i : Nat} {v : Value} (h : lv[i]? = some (some v)) : (i, v) ∈ wkPr lv := by
  refine List.mem_filterMap.mpr ⟨i, List.mem_range.mpr (List.getElem?_eq_some_iff.mp h).1, ?_⟩
  unfold wkLd
  rw [h]
  rfl
theorem wkCut_get {lv : wkLv} {i j : Nat} {v : Value} (h : (wkCut lv i)[j]? = some (some v)) : lv[j]? = some (some v) ∧ (j + 1 = i → ¬ v.category = 2) := by
  cases i with
  | zero => exact ⟨h, fun q => absurd q (by omega)⟩
  | succ k =>
    unfold wkCut at h
    cases hk : lv[k]? with
    | none =>
      simp only [hk] at h
      refine ⟨h, fun q => ?_⟩
      have : j = k := by omega
      subst this
      rw [hk] at h
      cases h
    | some x =>
      cases x with
      | none =>
        simp only [hk] at h
        refine ⟨h, fun q => ?_⟩
        have : j = k := by omega
        subst this
        rw [hk] at h
        cases h
      | some w =>
        simp only [hk] at h
        by_cases hc : w.category = 2
        · rw [if_pos hc] at h
          by_cases hj : j = k
          · subst hj
            rw [List.getElem?_set_self (List.getElem?_eq_some_iff.mp hk).1] at h
            cases h
          · rw [List.getElem?_set_ne (Ne.symm hj)] at h
            exact ⟨h, fun q => absurd q (by omega)⟩
        · rw [if_neg hc] at h
          refine ⟨h, fun q => ?_⟩
          have : j = k := by omega
          subst this
          rw [hk] at h
          cases h
          exact hc
theorem wkBack1 {ls' : Array Slot} {nL : Nat} {lv : wkLv} {i : Nat} {v : Value} (h : lv_has ls' nL ((i, v) :: (wkPr lv).filter (fun q => !(q.1 == i) && !(q.1 + 1 == i && q.2.category == 2)))) : wkLok ls' nL (wkS1 lv i v) := by
  refine ⟨h.1, h.2.1, fun j w hj => ?_⟩
  unfold wkS1 at hj
  by_cases hji : j = i
  · subst hji
    have hlt : j < (wkCut lv j).length := by
      have := (List.getElem?_eq_some_iff.mp hj).1
      simpa using this
    rw [List.getElem?_set_self hlt] at hj
    cases hj
    exact h.2.2 _ List.mem_cons_self
  · rw [List.getElem?_set_ne (Ne.symm hji)] at hj
    obtain ⟨h1, h2⟩ := wkCut_get hj
    refine h.2.2 (j, w) (List.mem_cons_of_mem _ (List.mem_filter.mpr ⟨wkPr_mem h1, ?_⟩))
    by_cases hq : j + 1 = i
    · have := h2 hq
      simp [hji, this]
    · simp [hji, hq]
theorem wkBack2 {ls' : Array Slot} {nL : Nat} {lv : wkLv} {i : Nat} {v : Value} (h : lv_has ls' nL ((i, v) :: (wkPr lv).filter (fun q => !(q.1 == i) && (!(q.1 == i + 1) && !(q.1 + 1 == i && q.2.category == 2))))) : wkLok ls' nL (wkS2 lv i v) := by
  refine ⟨h.1, h.2.1, fun j w hj => ?_⟩
  unfold wkS2 at hj
  by_cases hj1 : j = i + 1
  · subst hj1
    have hlt : i + 1 < ((wkCut lv i).set i (some v)).length := by
      have := (List.getElem?_eq_some_iff.mp hj).1
      simpa using this
    rw [List.getElem?_set_self hlt] at hj
    cases hj
  · rw [List.getElem?_set_ne (Ne.symm hj1)] at hj
    by_cases hji : j = i
    · subst hji
      have hlt : j < (wkCut lv j).length := by
        have := (List.getElem?_eq_some_iff.mp hj).1
        simpa using this
      rw [List.getElem?_set_self hlt] at hj
      cases hj
      exact h.2.2 _ List.mem_cons_self
    · rw [List.getElem?_set_ne (Ne.symm hji)] at hj
      obtain ⟨h1, h2⟩ := wkCut_get hj
      refine h.2.2 (j, w) (List.mem_cons_of_mem _ (List.mem_filter.mpr ⟨wkPr_mem h1, ?_⟩))
      by_cases hq : j + 1 = i
      · have := h2 hq
        simp [hji, hj1, this]
      · simp [hji, hj1, hq]
/-- some of what the locals hold is forgotten -/
def wkLe (lv lv' : wkLv) : Prop := ∀ (i : Nat) (v : Value), lv'[i]? = some (some v) → lv[i]? = some (some v)
theorem wkLe.ok {ls : Array Slot} {nL : Nat} {lv lv' : wkLv} (h : wkLok ls nL lv) (hl : wkLe lv lv') : wkLok ls nL lv' := ⟨h.1, h.2.1, fun i v hv => h.2.2 i v (hl i v hv)⟩
/-- decided: place by place -/
def wkLeB : wkLv → wkLv → Bool
  | _, [] => true
  | [], none :: l => wkLeB [] l
  | [], some _ :: _ => false
  | _ :: k, none :: l => wkLeB k l
  | x :: k, some v :: l => decide (x = some v) && wkLeB k l
/-- links to private methods of nest mates -/
def wkNs : List (String × Nat × MethodName × String) := [(RX11, 29, yX3_init, "Witnessworks"), (RX11, 46, yX9_init, "Witnessworks"), (RX11, 63, yX0_init, "Witnessworks"), (RX11, 9, yX4_init, "Witnessworks"), (RX0, 9, yX9_init, "Witnessworks"), (RX1, 50, yX11_has, "Witnessworks"), (RX2, 108, yX11_hangingTogether, "Witnessworks"), (RX2, 114, yX11_has, "Witnessworks"), (RX2, 134, yX11_lowest, "Witnessworks"), (RX3, 28, yX9_init, "Witnessworks"), (RX3, 80, yX11_has, "Witnessworks"), (RX4, 11, yX7_init, "Witnessworks"), (RX4, 20, yX2_init, "Witnessworks"), (RX4, 215, yX11_has, "Witnessworks"), (RX4, 27, yX5_init, "Witnessworks"), (RX4, 34, yX1_init, "Witnessworks"), (RX4, 41, yX8_init, "Witnessworks"), (RX4, 48, yX10_init, "Witnessworks"), (RX4, 55, yX6_init, "Witnessworks"), (RX5, 135, yX11_divisorInCommon, "Witnessworks"), (RX6, 111, yX11_has, "Witnessworks"), (RX6, 124, yX11_lowest, "Witnessworks"), (RX7, 117, yX11_hangingTogether, "Witnessworks"), (RX7, 68, yX11_lowest, "Witnessworks"), (RX7, 72, yX11_has, "Witnessworks"), (RX8, 121, yX11_divisorInCommon, "Witnessworks"), (RX8, 155, yX11_restOfPower, "Witnessworks"), (RX10, 111, yX11_has, "Witnessworks")]
def wkNw (U : State) : Prop := ∀ w ∈ wkNs, va_Nw (.methodLinkNest w.1 w.2.1 w.2.2.1 w.2.2.2) U
theorem wkNw.same {u U : State} (h : u.vm = U.vm) (hZ : wkNw u) : wkNw U := fun w hw => va_Nw.same rfl h (hZ w hw)
theorem wkNw.warm {s U : State} (hW : s.WarmedH U.vm) (hZ : wkNw s) : wkNw U := fun w hw => va_Nw.warmM hW (hZ w hw)
/-- the walk: W over every heap that holds the pool -/
def wkGo (l : Launch) (X : wkX) (nL cells slots pc : Nat) (S : wPS) (lv : wkLv) (st : List Value) : Prop := match X with
  | (p, e, R, s, m, args, below, meth, c, Q, D, A, cy, g) => ∀ (H : Heap) (locs : List Loc) (ls : Array Slot), va_P D vwCl (va_pl S.L (wkF cy S)) H → va_D A (va_pl S.L (wkF cy S)) → va_S A s.heap H locs → wkLok ls nL lv → W p l e R s m args below meth c H locs cells slots Q (F0 m pc ls st)
/-- what stays over a method's walk -/
def wkC (X : wkX) (cc : ByteArray) (own : String) (nL : Nat) (Ts : List Cond) : Prop := match X with
  | (p, _, _, s, m, args, _, _, c, _, D, A, cy, g) => CallFix p m c cc nL s args Ts own ∧ va_K D vwCl (wkTys cy) s ∧ (∀ q : Nat, s.heap.size ≤ q → A q) ∧ wkNw s ∧ wkRo g A s s.heap
def wkXg (X : wkX) : wkG := X.2.2.2.2.2.2.2.2.2.2.2.2.2
theorem wkRo.call {g : wkG} {A : Nat → Prop} {s U : State} {H : Heap} {locs : List Loc} {L : List Nat} {f : Nat → va_E} (h : wkRo g A s s.heap) (hS : va_S A s.heap H locs) (hD : va_D A (va_pl L f)) (hU : s.WarmedH U.vm) (hh : U.heap = H) : wkRo g (va_A (va_pl L f) H.size) U U.heap := by
  refine ⟨fun a c ha => ?_, h.2.2 s U hU h.2.1, h.2.2⟩
  obtain ⟨h1, h2⟩ := h.1 a c ha
  have hlt := (Array.getElem?_eq_some_iff.mp h1).1
  refine ⟨by rw [hh, hS.2.1 a hlt h2]; exact h1, ?_⟩
  rintro (⟨j, x, hj⟩ | hj)
  · exact h2 (hD.2 j _ hj)
  · exact absurd (Nat.lt_of_lt_of_le hlt hS.1) (Nat.not_lt.mpr hj)
/-- its room -/
def wkRm (X : wkX) (d k n : Nat) : Prop := match X with
  | (_, _, R, _) => R = { frames := d, cells := k, slots := n, locals := 80 * d }
end
section
variable {l : Launch} {X : wkX} {cc : ByteArray} {own : String} {nL : Nat} {Ts : List Cond} {cells slots pc : Nat} {S : wPS} {lv : wkLv} {st rest : List Value}
theorem wk_forget {lv' : wkLv} (h : wkLe lv lv') (k : wkGo l X nL cells slots pc S lv' st) : wkGo l X nL cells slots pc S lv st := by
  obtain ⟨p, e, R, s, m, args, below, meth, c, Q, D, A, cy, g⟩ := X
  intro H locs ls hP hD hS hl
  exact k H locs ls hP hD hS (h.ok hl)
theorem wk_widen {k n : Nat} (h1 : cells ≤ k) (h2 : slots ≤ n) (kk : wkGo l X nL k n pc S lv st) : wkGo l X nL cells slots pc S lv st := by
  obtain ⟨p, e, R, s, m, args, below, meth, c, Q, D, A, cy, g⟩ := X
  intro H locs ls hP hD hS hl
  exact W.widen h1 h2 (kk H locs ls hP hD hS hl)
theorem wk_iload (C : wkC X cc own nL Ts) {i : Nat} {x : Int32} (hd : decode cc pc = .ok (.iload i, 2)) (hv : wkLd lv i = some (.int x)) (k : wkGo l X nL cells slots (pc + 2) S lv (.int x :: st)) : wkGo l X nL cells slots pc S lv st := by
  obtain ⟨p, e, R, s, m, args, below, meth, c, Q, D, A, cy, g⟩ := X
  intro H locs ls hP hD hS hl
  obtain ⟨⟨hx, hb, hml, hown, hts⟩, hK, hA, hNw, hG⟩ := C
  exact lv_iload hx hb hd (wkLd_at hl hv) (k H locs ls hP hD hS hl)
theorem wk_iload_n (C : wkC X cc own nL Ts) {j : Fin 4} {i : Nat} {x : Int32} (hd : decode cc pc = .ok (.iload_n j, 1)) (hi : (j : Nat) = i) (hv : wkLd lv i = some (.int x)) (k : wkGo l X nL cells slots (pc + 1) S lv (.int x :: st)) : wkGo l X nL cells slots pc S lv st := by
  obtain ⟨p, e, R, s, m, args, below, meth, c, Q, D, A, cy, g⟩ := X
  intro H locs ls hP hD hS hl
  obtain ⟨⟨hx, hb, hml, hown, hts⟩, hK, hA, hNw, hG⟩ := C
  exact lv_iload_n hx hb hd hi (wkLd_at hl hv) (k H locs ls hP hD hS hl)
theorem wk_lload (C : wkC X cc own nL Ts) {i : Nat} {x : Int64} (hd : decode cc pc = .ok (.lload i, 2)) (hv : wkLd lv i = some (.long x)) (k : wkGo l X nL cells slots (pc + 2) S lv (.long x :: st)) : wkGo l X nL cells slots pc S lv st := by
  obtain ⟨p, e, R, s, m, args, below, meth, c, Q, D, A, cy, g⟩ := X
  intro H locs ls hP hD hS hl
  obtain ⟨⟨hx, hb, hml, hown, hts⟩, hK, hA, hNw, hG⟩ := C
  exact lv_lload hx hb hd (wkLd_at hl hv) (k H locs ls hP hD hS hl)
theorem wk_lload_n (C : wkC X cc own nL Ts) {j : Fin 4} {i : Nat} {x : Int64} (hd : decode cc pc = .ok (.lload_n j, 1)) (hi : (j : Nat) = i) (hv : wkLd lv i = some (.long x)) (k : wkGo l X nL cells slots (pc + 1) S lv (.long x :: st)) : wkGo l X nL cells slots pc S lv st := by
  obtain ⟨p, e, R, s, m, args, below, meth, c, Q, D, A, cy, g⟩ := X
  intro H locs ls hP hD hS hl
  obtain ⟨⟨hx, hb, hml, hown, hts⟩, hK, hA, hNw, hG⟩ := C
  exact lv_lload_n hx hb hd hi (wkLd_at hl hv) (k H locs ls hP hD hS hl)
theorem wk_aload (C : wkC X cc own nL Ts) {i : Nat} {x : Nat} (hd : decode cc pc = .ok (.aload i, 2)) (hv : wkLd lv i = some (.ref x)) (k : wkGo l X nL cells slots (pc + 2) S lv (.ref x :: st)) : wkGo l X nL cells slots pc S lv st := by
  obtain ⟨p, e, R, s, m, args, below, meth, c, Q, D, A, cy, g⟩ := X
  intro H locs ls hP hD hS hl
  obtain ⟨⟨hx, hb, hml, hown, hts⟩, hK, hA, hNw, hG⟩ := C
  exact lv_aload hx hb hd (wkLd_at hl hv) (k H locs ls hP hD hS hl)
theorem wk_aload_n (C : wkC X cc own nL Ts) {j : Fin 4} {i : Nat} {x : Nat} (hd : decode cc pc = .ok (.aload_n j, 1)) (hi : (j : Nat) = i) (hv : wkLd lv i = some (.ref x)) (k : wkGo l X nL cells slots (pc + 1) S lv (.ref x :: st)) : wkGo l X nL cells slots pc S lv st := by
  obtain ⟨p, e, R, s, m, args, below, meth, c, Q, D, A, cy, g⟩ := X
  intro H locs ls hP hD hS hl
  obtain ⟨⟨hx, hb, hml, hown, hts⟩, hK, hA, hNw, hG⟩ := C
  exact lv_aload_n hx hb hd hi (wkLd_at hl hv) (k H locs ls hP hD hS hl)
theorem wk_istore (C : wkC X cc own nL Ts) {i : Nat} {x : Int32} {lv' : wkLv} (hd : decode cc pc = .ok (.istore i, 2)) (hn : i < nL) (hl' : wkS1 lv i (.int x) = lv') (k : wkGo l X nL cells slots (pc + 2) S lv' rest) : wkGo l X nL cells slots pc S lv (.int x :: rest) := by
  obtain ⟨p, e, R, s, m, args, below, meth, c, Q, D, A, cy, g⟩ := X
  intro H locs ls hP hD hS hl
  obtain ⟨⟨hx, hb, hml, hown, hts⟩, hK, hA, hNw, hG⟩ := C
  subst hl'
  exact lv_istore hx hb hd (wkPr_has hl) hn rfl (fun ls' hl' => k H locs ls' hP hD hS (wkBack1 hl'))
theorem wk_istore_n (C : wkC X cc own nL Ts) {j : Fin 4} {i : Nat} {x : Int32} {lv' : wkLv} (hd : decode cc pc = .ok (.istore_n j, 1)) (hi : (j : Nat) = i) (hn : i < nL) (hl' : wkS1 lv i (.int x) = lv') (k : wkGo l X nL cells slots (pc + 1) S lv' rest) : wkGo l X nL cells slots pc S lv (.int x :: rest) := by
  obtain ⟨p, e, R, s, m, args, below, meth, c, Q, D, A, cy, g⟩ := X
  intro H locs ls hP hD hS hl
  obtain ⟨⟨hx, hb, hml, hown, hts⟩, hK, hA, hNw, hG⟩ := C
  subst hl'
  exact lv_istore_n hx hb hd hi (wkPr_has hl) hn rfl (fun ls' hl' => k H locs ls' hP hD hS (wkBack1 hl'))
theorem wk_lstore (C : wkC X cc own nL Ts) {i : Nat} {x : Int64} {lv' : wkLv} (hd : decode cc pc = .ok (.lstore i, 2)) (hn : i + 1 < nL) (hl' : wkS2 lv i (.long x) = lv') (k : wkGo l X nL cells slots (pc + 2) S lv' rest) : wkGo l X nL cells slots pc S lv (.long x :: rest) := by
  obtain ⟨p, e, R, s, m, args, below, meth, c, Q, D, A, cy, g⟩ := X
  intro H locs ls hP hD hS hl
  obtain ⟨⟨hx, hb, hml, hown, hts⟩, hK, hA, hNw, hG⟩ := C
  subst hl'
  exact lv_lstore hx hb hd (wkPr_has hl) hn rfl (fun ls' hl' => k H locs ls' hP hD hS (wkBack2 hl'))
theorem wk_lstore_n (C : wkC X cc own nL Ts) {j : Fin 4} {i : Nat} {x : Int64} {lv' : wkLv} (hd : decode cc pc = .ok (.lstore_n j, 1)) (hi : (j : Nat) = i) (hn : i + 1 < nL) (hl' : wkS2 lv i (.long x) = lv') (k : wkGo l X nL cells slots (pc + 1) S lv' rest) : wkGo l X nL cells slots pc S lv (.long x :: rest) := by
  obtain ⟨p, e, R, s, m, args, below, meth, c, Q, D, A, cy, g⟩ := X
  intro H locs ls hP hD hS hl
  obtain ⟨⟨hx, hb, hml, hown, hts⟩, hK, hA, hNw, hG⟩ := C
  subst hl'
  exact lv_lstore_n hx hb hd hi (wkPr_has hl) hn rfl (fun ls' hl' => k H locs ls' hP hD hS (wkBack2 hl'))
theorem wk_astore (C : wkC X cc own nL Ts) {i : Nat} {x : Nat} {lv' : wkLv} (hd : decode cc pc = .ok (.astore i, 2)) (hn : i < nL) (hl' : wkS1 lv i (.ref x) = lv') (k : wkGo l X nL cells slots (pc + 2) S lv' rest) : wkGo l X nL cells slots pc S lv (.ref x :: rest) := by
  obtain ⟨p, e, R, s, m, args, below, meth, c, Q, D, A, cy, g⟩ := X
  intro H locs ls hP hD hS hl
  obtain ⟨⟨hx, hb, hml, hown, hts⟩, hK, hA, hNw, hG⟩ := C
  subst hl'
  exact lv_astore hx hb hd (wkPr_has hl) hn rfl (fun ls' hl' => k H locs ls' hP hD hS (wkBack1 hl'))
theorem wk_astore_n (C : wkC X cc own nL Ts) {j : Fin 4} {i : Nat} {x : Nat} {lv' : wkLv} (hd : decode cc pc = .ok (.astore_n j, 1)) (hi : (j : Nat) = i) (hn : i < nL) (hl' : wkS1 lv i (.ref x) = lv') (k : wkGo l X nL cells slots (pc + 1) S lv' rest) : wkGo l X nL cells slots pc S lv (.ref x :: rest) := by
  obtain ⟨p, e, R, s, m, args, below, meth, c, Q, D, A, cy, g⟩ := X
  intro H locs ls hP hD hS hl
  obtain ⟨⟨hx, hb, hml, hown, hts⟩, hK, hA, hNw, hG⟩ := C
  subst hl'
  exact lv_astore_n hx hb hd hi (wkPr_has hl) hn rfl (fun ls' hl' => k H locs ls' hP hD hS (wkBack1 hl'))
theorem wk_iinc (C : wkC X cc own nL Ts) {i : Nat} {n : Int} {x v : Int32} {lv' : wkLv} (hd : decode cc pc = .ok (.iinc i n, 3)) (hv : wkLd lv i = some (.int x)) (he : x + Int32.ofInt n = v) (hn : i < nL) (hl' : wkS1 lv i (.int v) = lv') (k : wkGo l X nL cells slots (pc + 3) S lv' rest) : wkGo l X nL cells slots pc S lv rest := by
  obtain ⟨p, e, R, s, m, args, below, meth, c, Q, D, A, cy, g⟩ := X
  intro H locs ls hP hD hS hl
  obtain ⟨⟨hx, hb, hml, hown, hts⟩, hK, hA, hNw, hG⟩ := C
  subst hl'
  obtain ⟨j, hj⟩ := List.getElem?_of_mem (wkPr_mem (wkLd_get hv))
  exact lv_iinc hx hb hd (wkPr_has hl) hj he hn rfl (fun ls' hl' => k H locs ls' hP hD hS (wkBack1 hl'))
theorem wk_iconst (C : wkC X cc own nL Ts) {n : Int} {v : Int32} (hd : decode cc pc = .ok (.iconst n, 1)) (hv : Int32.ofInt n = v) (k : wkGo l X nL cells slots (pc + 1) S lv (.int v :: rest)) : wkGo l X nL cells slots pc S lv rest := by
  obtain ⟨p, e, R, s, m, args, below, meth, c, Q, D, A, cy, g⟩ := X
  intro H locs ls hP hD hS hl
  obtain ⟨⟨hx, hb, hml, hown, hts⟩, hK, hA, hNw, hG⟩ := C
  exact lv_iconst hx hb hd hv (k H locs ls hP hD hS hl)
theorem wk_bipush (C : wkC X cc own nL Ts) {n : Int} {v : Int32} (hd : decode cc pc = .ok (.bipush n, 2)) (hv : (Int8.ofInt n).toInt32 = v) (k : wkGo l X nL cells slots (pc + 2) S lv (.int v :: rest)) : wkGo l X nL cells slots pc S lv rest := by
  obtain ⟨p, e, R, s, m, args, below, meth, c, Q, D, A, cy, g⟩ := X
  intro H locs ls hP hD hS hl
  obtain ⟨⟨hx, hb, hml, hown, hts⟩, hK, hA, hNw, hG⟩ := C
  exact lv_bipush hx hb hd hv (k H locs ls hP hD hS hl)
theorem wk_sipush (C : wkC X cc own nL Ts) {n : Int} {v : Int32} (hd : decode cc pc = .ok (.sipush n, 3)) (hv : (Int16.ofInt n).toInt32 = v) (k : wkGo l X nL cells slots (pc + 3) S lv (.int v :: rest)) : wkGo l X nL cells slots pc S lv rest := by
  obtain ⟨p, e, R, s, m, args, below, meth, c, Q, D, A, cy, g⟩ := X
  intro H locs ls hP hD hS hl
  obtain ⟨⟨hx, hb, hml, hown, hts⟩, hK, hA, hNw, hG⟩ := C
  exact lv_sipush hx hb hd hv (k H locs ls hP hD hS hl)
theorem wk_lconst (C : wkC X cc own nL Ts) {n : Fin 2} {v : Int64} (hd : decode cc pc = .ok (.lconst n, 1)) (hv : Int64.ofNat (n : Nat) = v) (k : wkGo l X nL cells slots (pc + 1) S lv (.long v :: rest)) : wkGo l X nL cells slots pc S lv rest := by
  obtain ⟨p, e, R, s, m, args, below, meth, c, Q, D, A, cy, g⟩ := X
  intro H locs ls hP hD hS hl
  obtain ⟨⟨hx, hb, hml, hown, hts⟩, hK, hA, hNw, hG⟩ := C
  exact lv_lconst hx hb hd hv (k H locs ls hP hD hS hl)
theorem wk_ldc (C : wkC X cc own nL Ts) {i : Nat} {v : Int32} (hw : Cond.constant own i v ∈ Ts) (hd : decode cc pc = .ok (.ldc i, 2)) (k : wkGo l X nL cells slots (pc + 2) S lv (.int v :: rest)) : wkGo l X nL cells slots pc S lv rest := by
  obtain ⟨p, e, R, s, m, args, below, meth, c, Q, D, A, cy, g⟩ := X
  intro H locs ls hP hD hS hl
  obtain ⟨⟨hx, hb, hml, hown, hts⟩, hK, hA, hNw, hG⟩ := C
  exact lv_ldc hx hb hown (hts _ hw) hd (k H locs ls hP hD hS hl)
theorem wk_ldcw (C : wkC X cc own nL Ts) {i : Nat} {v : Int32} (hw : Cond.constant own i v ∈ Ts) (hd : decode cc pc = .ok (.ldc_w i, 3)) (k : wkGo l X nL cells slots (pc + 3) S lv (.int v :: rest)) : wkGo l X nL cells slots pc S lv rest := by
  obtain ⟨p, e, R, s, m, args, below, meth, c, Q, D, A, cy, g⟩ := X
  intro H locs ls hP hD hS hl
  obtain ⟨⟨hx, hb, hml, hown, hts⟩, hK, hA, hNw, hG⟩ := C
  exact lv_ldcw hx hb hown (hts _ hw) hd (k H locs ls hP hD hS hl)
theorem wk_ldc2 (C : wkC X cc own nL Ts) {i : Nat} {v : Int64} (hw : Cond.constantLong own i v ∈ Ts) (hd : decode cc pc = .ok (.ldc2_w i, 3)) (k : wkGo l X nL cells slots (pc + 3) S lv (.long v :: rest)) : wkGo l X nL cells slots pc S lv rest := by
  obtain ⟨p, e, R, s, m, args, below, meth, c, Q, D, A, cy, g⟩ := X
  intro H locs ls hP hD hS hl
  obtain ⟨⟨hx, hb, hml, hown, hts⟩, hK, hA, hNw, hG⟩ := C
  exact lv_ldc2 hx hb hown (hts _ hw) hd (k H locs ls hP hD hS hl)
theorem wk_iadd (C : wkC X cc own nL Ts) {x y v : Int32} (hd : decode cc pc = .ok (.iadd, 1)) (hv : x + y = v) (k : wkGo l X nL cells slots (pc + 1) S lv (.int v :: rest)) : wkGo l X nL cells slots pc S lv (.int y :: .int x :: rest) := by
  obtain ⟨p, e, R, s, m, args, below, meth, c, Q, D, A, cy, g⟩ := X
  intro H locs ls hP hD hS hl
  obtain ⟨⟨hx, hb, hml, hown, hts⟩, hK, hA, hNw, hG⟩ := C
  subst hv
  exact lv_iadd hx hb hd (k H locs ls hP hD hS hl)
theorem wk_isub (C : wkC X cc own nL Ts) {x y v : Int32} (hd : decode cc pc = .ok (.isub, 1)) (hv : x - y = v) (k : wkGo l X nL cells slots (pc + 1) S lv (.int v :: rest)) : wkGo l X nL cells slots pc S lv (.int y :: .int x :: rest) := by
  obtain ⟨p, e, R, s, m, args, below, meth, c, Q, D, A, cy, g⟩ := X
  intro H locs ls hP hD hS hl
  obtain ⟨⟨hx, hb, hml, hown, hts⟩, hK, hA, hNw, hG⟩ := C
  subst hv
  exact lv_isub hx hb hd (k H locs ls hP hD hS hl)
theorem wk_imul (C : wkC X cc own nL Ts) {x y v : Int32} (hd : decode cc pc = .ok (.imul, 1)) (hv : x * y = v) (k : wkGo l X nL cells slots (pc + 1) S lv (.int v :: rest)) : wkGo l X nL cells slots pc S lv (.int y :: .int x :: rest) := by
  obtain ⟨p, e, R, s, m, args, below, meth, c, Q, D, A, cy, g⟩ := X
  intro H locs ls hP hD hS hl
  obtain ⟨⟨hx, hb, hml, hown, hts⟩, hK, hA, hNw, hG⟩ := C
  subst hv
  exact lv_imul hx hb hd (k H locs ls hP hD hS hl)
theorem wk_iand (C : wkC X cc own nL Ts) {x y v : Int32} (hd : decode cc pc = .ok (.iand, 1)) (hv : x &&& y = v) (k : wkGo l X nL cells slots (pc + 1) S lv (.int v :: rest)) : wkGo l X nL cells slots pc S lv (.int y :: .int x :: rest) := by
  obtain ⟨p, e, R, s, m, args, below, meth, c, Q, D, A, cy, g⟩ := X
  intro H locs ls hP hD hS hl
  obtain ⟨⟨hx, hb, hml, hown, hts⟩, hK, hA, hNw, hG⟩ := C
  subst hv
  exact lv_iand hx hb hd (k H locs ls hP hD hS hl)
theorem wk_ior (C : wkC X cc own nL Ts) {x y v : Int32} (hd : decode cc pc = .ok (.ior, 1)) (hv : x ||| y = v) (k : wkGo l X nL cells slots (pc + 1) S lv (.int v :: rest)) : wkGo l X nL cells slots pc S lv (.int y :: .int x :: rest) := by
  obtain ⟨p, e, R, s, m, args, below, meth, c, Q, D, A, cy, g⟩ := X
  intro H locs ls hP hD hS hl
  obtain ⟨⟨hx, hb, hml, hown, hts⟩, hK, hA, hNw, hG⟩ := C
  subst hv
  exact lv_ior hx hb hd (k H locs ls hP hD hS hl)
theorem wk_ixor (C : wkC X cc own nL Ts) {x y v : Int32} (hd : decode cc pc = .ok (.ixor, 1)) (hv : x ^^^ y = v) (k : wkGo l X nL cells slots (pc + 1) S lv (.int v :: rest)) : wkGo l X nL cells slots pc S lv (.int y :: .int x :: rest) := by
  obtain ⟨p, e, R, s, m, args, below, meth, c, Q, D, A, cy, g⟩ := X
  intro H locs ls hP hD hS hl
  obtain ⟨⟨hx, hb, hml, hown, hts⟩, hK, hA, hNw, hG⟩ := C
  subst hv
  exact lv_ixor hx hb hd (k H locs ls hP hD hS hl)
theorem wk_ishl (C : wkC X cc own nL Ts) {x y v : Int32} (hd : decode cc pc = .ok (.ishl, 1)) (hv : x <<< (y &&& 31) = v) (k : wkGo l X nL cells slots (pc + 1) S lv (.int v :: rest)) : wkGo l X nL cells slots pc S lv (.int y :: .int x :: rest) := by
  obtain ⟨p, e, R, s, m, args, below, meth, c, Q, D, A, cy, g⟩ := X
  intro H locs ls hP hD hS hl
  obtain ⟨⟨hx, hb, hml, hown, hts⟩, hK, hA, hNw, hG⟩ := C
  subst hv
  exact lv_ishl hx hb hd (k H locs ls hP hD hS hl)
theorem wk_ishr (C : wkC X cc own nL Ts) {x y v : Int32} (hd : decode cc pc = .ok (.ishr, 1)) (hv : x >>> (y &&& 31) = v) (k : wkGo l X nL cells slots (pc + 1) S lv (.int v :: rest)) : wkGo l X nL cells slots pc S lv (.int y :: .int x :: rest) := by
  obtain ⟨p, e, R, s, m, args, below, meth, c, Q, D, A, cy, g⟩ := X
  intro H locs ls hP hD hS hl
  obtain ⟨⟨hx, hb, hml, hown, hts⟩, hK, hA, hNw, hG⟩ := C
  subst hv
  exact lv_ishr hx hb hd (k H locs ls hP hD hS hl)
theorem wk_iushr (C : wkC X cc own nL Ts) {x y v : Int32} (hd : decode cc pc = .ok (.iushr, 1)) (hv : (x.toUInt32 >>> (y.toUInt32 &&& Int32.toUInt32 31)).toInt32 = v) (k : wkGo l X nL cells slots (pc + 1) S lv (.int v :: rest)) : wkGo l X nL cells slots pc S lv (.int y :: .int x :: rest) := by
  obtain ⟨p, e, R, s, m, args, below, meth, c, Q, D, A, cy, g⟩ := X
  intro H locs ls hP hD hS hl
  obtain ⟨⟨hx, hb, hml, hown, hts⟩, hK, hA, hNw, hG⟩ := C
  exact lv_iushr hx hb hd hv (k H locs ls hP hD hS hl)
theorem wk_idiv (C : wkC X cc own nL Ts) {x y v : Int32} (hd : decode cc pc = .ok (.idiv, 1)) (hne : ¬ y = 0) (hv : x / y = v) (k : wkGo l X nL cells slots (pc + 1) S lv (.int v :: rest)) : wkGo l X nL cells slots pc S lv (.int y :: .int x :: rest) := by
  obtain ⟨p, e, R, s, m, args, below, meth, c, Q, D, A, cy, g⟩ := X
  intro H locs ls hP hD hS hl
  obtain ⟨⟨hx, hb, hml, hown, hts⟩, hK, hA, hNw, hG⟩ := C
  subst hv
  exact lv_idiv hx hb hd hne (k H locs ls hP hD hS hl)
theorem wk_irem (C : wkC X cc own nL Ts) {x y v : Int32} (hd : decode cc pc = .ok (.irem, 1)) (hne : ¬ y = 0) (hv : x - x / y * y = v) (k : wkGo l X nL cells slots (pc + 1) S lv (.int v :: rest)) : wkGo l X nL cells slots pc S lv (.int y :: .int x :: rest) := by
  obtain ⟨p, e, R, s, m, args, below, meth, c, Q, D, A, cy, g⟩ := X
  intro H locs ls hP hD hS hl
  obtain ⟨⟨hx, hb, hml, hown, hts⟩, hK, hA, hNw, hG⟩ := C
  subst hv
  exact lv_irem hx hb hd hne (k H locs ls hP hD hS hl)
theorem wk_ineg (C : wkC X cc own nL Ts) {x v : Int32} (hd : decode cc pc = .ok (.ineg, 1)) (hv : -x = v) (k : wkGo l X nL cells slots (pc + 1) S lv (.int v :: rest)) : wkGo l X nL cells slots pc S lv (.int x :: rest) := by
  obtain ⟨p, e, R, s, m, args, below, meth, c, Q, D, A, cy, g⟩ := X
  intro H locs ls hP hD hS hl
  obtain ⟨⟨hx, hb, hml, hown, hts⟩, hK, hA, hNw, hG⟩ := C
  subst hv
  exact lv_ineg hx hb hd (k H locs ls hP hD hS hl)
theorem wk_ladd (C : wkC X cc own nL Ts) {x y v : Int64} (hd : decode cc pc = .ok (.ladd, 1)) (hv : x + y = v) (k : wkGo l X nL cells slots (pc + 1) S lv (.long v :: rest)) : wkGo l X nL cells slots pc S lv (.long y :: .long x :: rest) := by
  obtain ⟨p, e, R, s, m, args, below, meth, c, Q, D, A, cy, g⟩ := X
  intro H locs ls hP hD hS hl
  obtain ⟨⟨hx, hb, hml, hown, hts⟩, hK, hA, hNw, hG⟩ := C
  subst hv
  exact lv_ladd hx hb hd (k H locs ls hP hD hS hl)
theorem wk_lsub (C : wkC X cc own nL Ts) {x y v : Int64} (hd : decode cc pc = .ok (.lsub, 1)) (hv : x - y = v) (k : wkGo l X nL cells slots (pc + 1) S lv (.long v :: rest)) : wkGo l X nL cells slots pc S lv (.long y :: .long x :: rest) := by
  obtain ⟨p, e, R, s, m, args, below, meth, c, Q, D, A, cy, g⟩ := X
  intro H locs ls hP hD hS hl
  obtain ⟨⟨hx, hb, hml, hown, hts⟩, hK, hA, hNw, hG⟩ := C
  subst hv
  exact lv_lsub hx hb hd (k H locs ls hP hD hS hl)
theorem wk_lmul (C : wkC X cc own nL Ts) {x y v : Int64} (hd : decode cc pc = .ok (.lmul, 1)) (hv : x * y = v) (k : wkGo l X nL cells slots (pc + 1) S lv (.long v :: rest)) : wkGo l X nL cells slots pc S lv (.long y :: .long x :: rest) := by
  obtain ⟨p, e, R, s, m, args, below, meth, c, Q, D, A, cy, g⟩ := X
  intro H locs ls hP hD hS hl
  obtain ⟨⟨hx, hb, hml, hown, hts⟩, hK, hA, hNw, hG⟩ := C
  subst hv
  exact lv_lmul hx hb hd (k H locs ls hP hD hS hl)
theorem wk_lxor (C : wkC X cc own nL Ts) {x y v : Int64} (hd : decode cc pc = .ok (.lxor, 1)) (hv : x ^^^ y = v) (k : wkGo l X nL cells slots (pc + 1) S lv (.long v :: rest)) : wkGo l X nL cells slots pc S lv (.long y :: .long x :: rest) := by
  obtain ⟨p, e, R, s, m, args, below, meth, c, Q, D, A, cy, g⟩ := X
  intro H locs ls hP hD hS hl
  obtain ⟨⟨hx, hb, hml, hown, hts⟩, hK, hA, hNw, hG⟩ := C
  subst hv
  exact lv_lxor hx hb hd (k H locs ls hP hD hS hl)
theorem wk_land (C : wkC X cc own nL Ts) {x y v : Int64} (hd : decode cc pc = .ok (.land, 1)) (hv : x &&& y = v) (k : wkGo l X nL cells slots (pc + 1) S lv (.long v :: rest)) : wkGo l X nL cells slots pc S lv (.long y :: .long x :: rest) := by
  obtain ⟨p, e, R, s, m, args, below, meth, c, Q, D, A, cy, g⟩ := X
  intro H locs ls hP hD hS hl
  obtain ⟨⟨hx, hb, hml, hown, hts⟩, hK, hA, hNw, hG⟩ := C
  subst hv
  exact lv_land hx hb hd (k H locs ls hP hD hS hl)
theorem wk_ldiv (C : wkC X cc own nL Ts) {x y v : Int64} (hd : decode cc pc = .ok (.ldiv, 1)) (hne : ¬ y = 0) (hv : x / y = v) (k : wkGo l X nL cells slots (pc + 1) S lv (.long v :: rest)) : wkGo l X nL cells slots pc S lv (.long y :: .long x :: rest) := by
  obtain ⟨p, e, R, s, m, args, below, meth, c, Q, D, A, cy, g⟩ := X
  intro H locs ls hP hD hS hl
  obtain ⟨⟨hx, hb, hml, hown, hts⟩, hK, hA, hNw, hG⟩ := C
  subst hv
  exact lv_ldiv hx hb hd hne (k H locs ls hP hD hS hl)
theorem wk_lrem (C : wkC X cc own nL Ts) {x y v : Int64} (hd : decode cc pc = .ok (.lrem, 1)) (hne : ¬ y = 0) (hv : x - x / y * y = v) (k : wkGo l X nL cells slots (pc + 1) S lv (.long v :: rest)) : wkGo l X nL cells slots pc S lv (.long y :: .long x :: rest) := by
  obtain ⟨p, e, R, s, m, args, below, meth, c, Q, D, A, cy, g⟩ := X
  intro H locs ls hP hD hS hl
  obtain ⟨⟨hx, hb, hml, hown, hts⟩, hK, hA, hNw, hG⟩ := C
  subst hv
  exact lv_lrem hx hb hd hne (k H locs ls hP hD hS hl)
theorem wk_lneg (C : wkC X cc own nL Ts) {x v : Int64} (hd : decode cc pc = .ok (.lneg, 1)) (hv : -x = v) (k : wkGo l X nL cells slots (pc + 1) S lv (.long v :: rest)) : wkGo l X nL cells slots pc S lv (.long x :: rest) := by
  obtain ⟨p, e, R, s, m, args, below, meth, c, Q, D, A, cy, g⟩ := X
  intro H locs ls hP hD hS hl
  obtain ⟨⟨hx, hb, hml, hown, hts⟩, hK, hA, hNw, hG⟩ := C
  subst hv
  exact lv_lneg hx hb hd (k H locs ls hP hD hS hl)
theorem wk_lshl (C : wkC X cc own nL Ts) {x v : Int64} {y : Int32} (hd : decode cc pc = .ok (.lshl, 1)) (hv : x <<< (y.toInt64 &&& 63) = v) (k : wkGo l X nL cells slots (pc + 1) S lv (.long v :: rest)) : wkGo l X nL cells slots pc S lv (.int y :: .long x :: rest) := by
  obtain ⟨p, e, R, s, m, args, below, meth, c, Q, D, A, cy, g⟩ := X
  intro H locs ls hP hD hS hl
  obtain ⟨⟨hx, hb, hml, hown, hts⟩, hK, hA, hNw, hG⟩ := C
  exact lv_lshl hx hb hd hv (k H locs ls hP hD hS hl)
theorem wk_lcmp (C : wkC X cc own nL Ts) {x y : Int64} {v : Int32} (hd : decode cc pc = .ok (.lcmp, 1)) (hv : lg_cmp x y = v) (k : wkGo l X nL cells slots (pc + 1) S lv (.int v :: rest)) : wkGo l X nL cells slots pc S lv (.long y :: .long x :: rest) := by
  obtain ⟨p, e, R, s, m, args, below, meth, c, Q, D, A, cy, g⟩ := X
  intro H locs ls hP hD hS hl
  obtain ⟨⟨hx, hb, hml, hown, hts⟩, hK, hA, hNw, hG⟩ := C
  subst hv
  exact W.lcmp hx hb hd (k H locs ls hP hD hS hl)
theorem wk_i2l (C : wkC X cc own nL Ts) {x : Int32} {v : Int64} (hd : decode cc pc = .ok (.i2l, 1)) (hv : x.toInt64 = v) (k : wkGo l X nL cells slots (pc + 1) S lv (.long v :: rest)) : wkGo l X nL cells slots pc S lv (.int x :: rest) := by
  obtain ⟨p, e, R, s, m, args, below, meth, c, Q, D, A, cy, g⟩ := X
  intro H locs ls hP hD hS hl
  obtain ⟨⟨hx, hb, hml, hown, hts⟩, hK, hA, hNw, hG⟩ := C
  exact lv_i2l hx hb hd hv (k H locs ls hP hD hS hl)
theorem wk_l2i (C : wkC X cc own nL Ts) {x : Int64} {v : Int32} (hd : decode cc pc = .ok (.l2i, 1)) (hv : x.toInt32 = v) (k : wkGo l X nL cells slots (pc + 1) S lv (.int v :: rest)) : wkGo l X nL cells slots pc S lv (.long x :: rest) := by
  obtain ⟨p, e, R, s, m, args, below, meth, c, Q, D, A, cy, g⟩ := X
  intro H locs ls hP hD hS hl
  obtain ⟨⟨hx, hb, hml, hown, hts⟩, hK, hA, hNw, hG⟩ := C
  exact lv_l2i hx hb hd hv (k H locs ls hP hD hS hl)
theorem wk_i2c (C : wkC X cc own nL Ts) {x v : Int32} (hd : decode cc pc = .ok (.i2c, 1)) (hv : (x.toUInt32 % 65536).toInt32 = v) (k : wkGo l X nL cells slots (pc + 1) S lv (.int v :: rest)) : wkGo l X nL cells slots pc S lv (.int x :: rest) := by
  obtain ⟨p, e, R, s, m, args, below, meth, c, Q, D, A, cy, g⟩ := X
  intro H locs ls hP hD hS hl
  obtain ⟨⟨hx, hb, hml, hown, hts⟩, hK, hA, hNw, hG⟩ := C
  exact lv_i2c hx hb hd hv (k H locs ls hP hD hS hl)
theorem wk_dup (C : wkC X cc own nL Ts) {v : Value} (hd : decode cc pc = .ok (.dup, 1)) (hc : v.category = 1) (k : wkGo l X nL cells slots (pc + 1) S lv (v :: v :: rest)) : wkGo l X nL cells slots pc S lv (v :: rest) := by
  obtain ⟨p, e, R, s, m, args, below, meth, c, Q, D, A, cy, g⟩ := X
  intro H locs ls hP hD hS hl
  obtain ⟨⟨hx, hb, hml, hown, hts⟩, hK, hA, hNw, hG⟩ := C
  exact lv_dup hx hb hd hc (k H locs ls hP hD hS hl)
theorem wk_pop (C : wkC X cc own nL Ts) {v : Value} (hd : decode cc pc = .ok (.pop, 1)) (hc : v.category = 1) (k : wkGo l X nL cells slots (pc + 1) S lv rest) : wkGo l X nL cells slots pc S lv (v :: rest) := by
  obtain ⟨p, e, R, s, m, args, below, meth, c, Q, D, A, cy, g⟩ := X
  intro H locs ls hP hD hS hl
  obtain ⟨⟨hx, hb, hml, hown, hts⟩, hK, hA, hNw, hG⟩ := C
  exact lv_pop hx hb hd hc (k H locs ls hP hD hS hl)
theorem wk_dup2 (C : wkC X cc own nL Ts) {v w : Value} (hd : decode cc pc = .ok (.dup2, 1)) (hc : v.category = 1) (hc2 : w.category = 1) (k : wkGo l X nL cells slots (pc + 1) S lv (v :: w :: v :: w :: rest)) : wkGo l X nL cells slots pc S lv (v :: w :: rest) := by
  obtain ⟨p, e, R, s, m, args, below, meth, c, Q, D, A, cy, g⟩ := X
  intro H locs ls hP hD hS hl
  obtain ⟨⟨hx, hb, hml, hown, hts⟩, hK, hA, hNw, hG⟩ := C
  exact lv_dup2_11 hx hb hd hc hc2 (k H locs ls hP hD hS hl)
theorem wk_dup2L (C : wkC X cc own nL Ts) {v : Value} (hd : decode cc pc = .ok (.dup2, 1)) (hc : v.category = 2) (k : wkGo l X nL cells slots (pc + 1) S lv (v :: v :: rest)) : wkGo l X nL cells slots pc S lv (v :: rest) := by
  obtain ⟨p, e, R, s, m, args, below, meth, c, Q, D, A, cy, g⟩ := X
  intro H locs ls hP hD hS hl
  obtain ⟨⟨hx, hb, hml, hown, hts⟩, hK, hA, hNw, hG⟩ := C
  exact lv_dup2_2 hx hb hd hc (k H locs ls hP hD hS hl)
theorem wk_pop2L (C : wkC X cc own nL Ts) {v : Value} (hd : decode cc pc = .ok (.pop2, 1)) (hc : v.category = 2) (k : wkGo l X nL cells slots (pc + 1) S lv rest) : wkGo l X nL cells slots pc S lv (v :: rest) := by
  obtain ⟨p, e, R, s, m, args, below, meth, c, Q, D, A, cy, g⟩ := X
  intro H locs ls hP hD hS hl
  obtain ⟨⟨hx, hb, hml, hown, hts⟩, hK, hA, hNw, hG⟩ := C
  exact lv_pop2_2 hx hb hd hc (k H locs ls hP hD hS hl)
theorem wk_if_eq (C : wkC X cc own nL Ts) {x : Int32} {off : Int} {tgt : Nat} (hd : decode cc pc = .ok (.ifCond .eq off, 3)) (ht : (pc : Int) + off = (tgt : Int)) (kt : x = 0 → wkGo l X nL cells slots tgt S lv rest) (kf : ¬ x = 0 → wkGo l X nL cells slots (pc + 3) S lv rest) : wkGo l X nL cells slots pc S lv (.int x :: rest) := by
  obtain ⟨p, e, R, s, m, args, below, meth, c, Q, D, A, cy, g⟩ := X
  intro H locs ls hP hD hS hl
  obtain ⟨⟨hx, hb, hml, hown, hts⟩, hK, hA, hNw, hG⟩ := C
  exact lv_if_eq hx hb hd ht (fun h => kt h H locs ls hP hD hS hl) (fun h => kf h H locs ls hP hD hS hl)
theorem wk_icmp_eq (C : wkC X cc own nL Ts) {x y : Int32} {off : Int} {tgt : Nat} (hd : decode cc pc = .ok (.if_icmp .eq off, 3)) (ht : (pc : Int) + off = (tgt : Int)) (kt : x = y → wkGo l X nL cells slots tgt S lv rest) (kf : ¬ x = y → wkGo l X nL cells slots (pc + 3) S lv rest) : wkGo l X nL cells slots pc S lv (.int y :: .int x :: rest) := by
  obtain ⟨p, e, R, s, m, args, below, meth, c, Q, D, A, cy, g⟩ := X
  intro H locs ls hP hD hS hl
  obtain ⟨⟨hx, hb, hml, hown, hts⟩, hK, hA, hNw, hG⟩ := C
  exact lv_icmp_eq hx hb hd ht (fun h => kt h H locs ls hP hD hS hl) (fun h => kf h H locs ls hP hD hS hl)
theorem wk_if_ne (C : wkC X cc own nL Ts) {x : Int32} {off : Int} {tgt : Nat} (hd : decode cc pc = .ok (.ifCond .ne off, 3)) (ht : (pc : Int) + off = (tgt : Int)) (kt : ¬ x = 0 → wkGo l X nL cells slots tgt S lv rest) (kf : x = 0 → wkGo l X nL cells slots (pc + 3) S lv rest) : wkGo l X nL cells slots pc S lv (.int x :: rest) := by
  obtain ⟨p, e, R, s, m, args, below, meth, c, Q, D, A, cy, g⟩ := X
  intro H locs ls hP hD hS hl
  obtain ⟨⟨hx, hb, hml, hown, hts⟩, hK, hA, hNw, hG⟩ := C
  exact lv_if_ne hx hb hd ht (fun h => kt h H locs ls hP hD hS hl) (fun h => kf h H locs ls hP hD hS hl)
theorem wk_icmp_ne (C : wkC X cc own nL Ts) {x y : Int32} {off : Int} {tgt : Nat} (hd : decode cc pc = .ok (.if_icmp .ne off, 3)) (ht : (pc : Int) + off = (tgt : Int)) (kt : ¬ x = y → wkGo l X nL cells slots tgt S lv rest) (kf : x = y → wkGo l X nL cells slots (pc + 3) S lv rest) : wkGo l X nL cells slots pc S lv (.int y :: .int x :: rest) := by
  obtain ⟨p, e, R, s, m, args, below, meth, c, Q, D, A, cy, g⟩ := X
  intro H locs ls hP hD hS hl
  obtain ⟨⟨hx, hb, hml, hown, hts⟩, hK, hA, hNw, hG⟩ := C
  exact lv_icmp_ne hx hb hd ht (fun h => kt h H locs ls hP hD hS hl) (fun h => kf h H locs ls hP hD hS hl)
theorem wk_if_lt (C : wkC X cc own nL Ts) {x : Int32} {off : Int} {tgt : Nat} (hd : decode cc pc = .ok (.ifCond .lt off, 3)) (ht : (pc : Int) + off = (tgt : Int)) (kt : x < 0 → wkGo l X nL cells slots tgt S lv rest) (kf : ¬ x < 0 → wkGo l X nL cells slots (pc + 3) S lv rest) : wkGo l X nL cells slots pc S lv (.int x :: rest) := by
  obtain ⟨p, e, R, s, m, args, below, meth, c, Q, D, A, cy, g⟩ := X
  intro H locs ls hP hD hS hl
  obtain ⟨⟨hx, hb, hml, hown, hts⟩, hK, hA, hNw, hG⟩ := C
  exact lv_if_lt hx hb hd ht (fun h => kt h H locs ls hP hD hS hl) (fun h => kf h H locs ls hP hD hS hl)
theorem wk_icmp_lt (C : wkC X cc own nL Ts) {x y : Int32} {off : Int} {tgt : Nat} (hd : decode cc pc = .ok (.if_icmp .lt off, 3)) (ht : (pc : Int) + off = (tgt : Int)) (kt : x < y → wkGo l X nL cells slots tgt S lv rest) (kf : ¬ x < y → wkGo l X nL cells slots (pc + 3) S lv rest) : wkGo l X nL cells slots pc S lv (.int y :: .int x :: rest) := by
  obtain ⟨p, e, R, s, m, args, below, meth, c, Q, D, A, cy, g⟩ := X
  intro H locs ls hP hD hS hl
  obtain ⟨⟨hx, hb, hml, hown, hts⟩, hK, hA, hNw, hG⟩ := C
  exact lv_icmp_lt hx hb hd ht (fun h => kt h H locs ls hP hD hS hl) (fun h => kf h H locs ls hP hD hS hl)
theorem wk_if_ge (C : wkC X cc own nL Ts) {x : Int32} {off : Int} {tgt : Nat} (hd : decode cc pc = .ok (.ifCond .ge off, 3)) (ht : (pc : Int) + off = (tgt : Int)) (kt : 0 ≤ x → wkGo l X nL cells slots tgt S lv rest) (kf : ¬ 0 ≤ x → wkGo l X nL cells slots (pc + 3) S lv rest) : wkGo l X nL cells slots pc S lv (.int x :: rest) := by
  obtain ⟨p, e, R, s, m, args, below, meth, c, Q, D, A, cy, g⟩ := X
  intro H locs ls hP hD hS hl
  obtain ⟨⟨hx, hb, hml, hown, hts⟩, hK, hA, hNw, hG⟩ := C
  exact lv_if_ge hx hb hd ht (fun h => kt h H locs ls hP hD hS hl) (fun h => kf h H locs ls hP hD hS hl)
theorem wk_icmp_ge (C : wkC X cc own nL Ts) {x y : Int32} {off : Int} {tgt : Nat} (hd : decode cc pc = .ok (.if_icmp .ge off, 3)) (ht : (pc : Int) + off = (tgt : Int)) (kt : y ≤ x → wkGo l X nL cells slots tgt S lv rest) (kf : ¬ y ≤ x → wkGo l X nL cells slots (pc + 3) S lv rest) : wkGo l X nL cells slots pc S lv (.int y :: .int x :: rest) := by
  obtain ⟨p, e, R, s, m, args, below, meth, c, Q, D, A, cy, g⟩ := X
  intro H locs ls hP hD hS hl
  obtain ⟨⟨hx, hb, hml, hown, hts⟩, hK, hA, hNw, hG⟩ := C
  exact lv_icmp_ge hx hb hd ht (fun h => kt h H locs ls hP hD hS hl) (fun h => kf h H locs ls hP hD hS hl)
theorem wk_if_gt (C : wkC X cc own nL Ts) {x : Int32} {off : Int} {tgt : Nat} (hd : decode cc pc = .ok (.ifCond .gt off, 3)) (ht : (pc : Int) + off = (tgt : Int)) (kt : 0 < x → wkGo l X nL cells slots tgt S lv rest) (kf : ¬ 0 < x → wkGo l X nL cells slots (pc + 3) S lv rest) : wkGo l X nL cells slots pc S lv (.int x :: rest) := by
  obtain ⟨p, e, R, s, m, args, below, meth, c, Q, D, A, cy, g⟩ := X
  intro H locs ls hP hD hS hl
  obtain ⟨⟨hx, hb, hml, hown, hts⟩, hK, hA, hNw, hG⟩ := C
  exact lv_if_gt hx hb hd ht (fun h => kt h H locs ls hP hD hS hl) (fun h => kf h H locs ls hP hD hS hl)
theorem wk_icmp_gt (C : wkC X cc own nL Ts) {x y : Int32} {off : Int} {tgt : Nat} (hd : decode cc pc = .ok (.if_icmp .gt off, 3)) (ht : (pc : Int) + off = (tgt : Int)) (kt : y < x → wkGo l X nL cells slots tgt S lv rest) (kf : ¬ y < x → wkGo l X nL cells slots (pc + 3) S lv rest) : wkGo l X nL cells slots pc S lv (.int y :: .int x :: rest) := by
  obtain ⟨p, e, R, s, m, args, below, meth, c, Q, D, A, cy, g⟩ := X
  intro H locs ls hP hD hS hl
  obtain ⟨⟨hx, hb, hml, hown, hts⟩, hK, hA, hNw, hG⟩ := C
  exact lv_icmp_gt hx hb hd ht (fun h => kt h H locs ls hP hD hS hl) (fun h => kf h H locs ls hP hD hS hl)
theorem wk_if_le (C : wkC X cc own nL Ts) {x : Int32} {off : Int} {tgt : Nat} (hd : decode cc pc = .ok (.ifCond .le off, 3)) (ht : (pc : Int) + off = (tgt : Int)) (kt : x ≤ 0 → wkGo l X nL cells slots tgt S lv rest) (kf : ¬ x ≤ 0 → wkGo l X nL cells slots (pc + 3) S lv rest) : wkGo l X nL cells slots pc S lv (.int x :: rest) := by
  obtain ⟨p, e, R, s, m, args, below, meth, c, Q, D, A, cy, g⟩ := X
  intro H locs ls hP hD hS hl
  obtain ⟨⟨hx, hb, hml, hown, hts⟩, hK, hA, hNw, hG⟩ := C
  exact lv_if_le hx hb hd ht (fun h => kt h H locs ls hP hD hS hl) (fun h => kf h H locs ls hP hD hS hl)
theorem wk_icmp_le (C : wkC X cc own nL Ts) {x y : Int32} {off : Int} {tgt : Nat} (hd : decode cc pc = .ok (.if_icmp .le off, 3)) (ht : (pc : Int) + off = (tgt : Int)) (kt : x ≤ y → wkGo l X nL cells slots tgt S lv rest) (kf : ¬ x ≤ y → wkGo l X nL cells slots (pc + 3) S lv rest) : wkGo l X nL cells slots pc S lv (.int y :: .int x :: rest) := by
  obtain ⟨p, e, R, s, m, args, below, meth, c, Q, D, A, cy, g⟩ := X
  intro H locs ls hP hD hS hl
  obtain ⟨⟨hx, hb, hml, hown, hts⟩, hK, hA, hNw, hG⟩ := C
  exact lv_icmp_le hx hb hd ht (fun h => kt h H locs ls hP hD hS hl) (fun h => kf h H locs ls hP hD hS hl)
theorem wk_goto (C : wkC X cc own nL Ts) {off : Int} {tgt : Nat} (hd : decode cc pc = .ok (.goto off, 3)) (ht : (pc : Int) + off = (tgt : Int)) (k : wkGo l X nL cells slots tgt S lv rest) : wkGo l X nL cells slots pc S lv rest := by
  obtain ⟨p, e, R, s, m, args, below, meth, c, Q, D, A, cy, g⟩ := X
  intro H locs ls hP hD hS hl
  obtain ⟨⟨hx, hb, hml, hown, hts⟩, hK, hA, hNw, hG⟩ := C
  exact lv_goto hx hb hd ht (k H locs ls hP hD hS hl)
theorem wk_tabOut (C : wkC X cc own nL Ts) {df lo hi : Int} {offs : Array Int} {len : Nat} {x : Int32} {tgt : Nat} (hd : decode cc pc = .ok (.tableswitch df lo hi offs, len)) (h : x.toInt < lo ∨ hi < x.toInt) (ht : (pc : Int) + df = (tgt : Int)) (k : wkGo l X nL cells slots tgt S lv rest) : wkGo l X nL cells slots pc S lv (.int x :: rest) := by
  obtain ⟨p, e, R, s, m, args, below, meth, c, Q, D, A, cy, g⟩ := X
  intro H locs ls hP hD hS hl
  obtain ⟨⟨hx, hb, hml, hown, hts⟩, hK, hA, hNw, hG⟩ := C
  exact lv_tableOut hx hb hd h ht (k H locs ls hP hD hS hl)
theorem wk_tabIn (C : wkC X cc own nL Ts) {df lo hi : Int} {offs : Array Int} {len : Nat} {x : Int32} {off : Int} {tgt : Nat} (hd : decode cc pc = .ok (.tableswitch df lo hi offs, len)) (h1 : ¬ x.toInt < lo) (h2 : ¬ hi < x.toInt) (ho : offs[(x.toInt - lo).toNat]? = some off) (ht : (pc : Int) + off = (tgt : Int)) (k : wkGo l X nL cells slots tgt S lv rest) : wkGo l X nL cells slots pc S lv (.int x :: rest) := by
  obtain ⟨p, e, R, s, m, args, below, meth, c, Q, D, A, cy, g⟩ := X
  intro H locs ls hP hD hS hl
  obtain ⟨⟨hx, hb, hml, hown, hts⟩, hK, hA, hNw, hG⟩ := C
  exact lv_tableIn hx hb hd h1 h2 ho ht (k H locs ls hP hD hS hl)
theorem wk_ifnull (C : wkC X cc own nL Ts) {x : Nat} {off : Int} (hd : decode cc pc = .ok (.ifnull off, 3)) (k : wkGo l X nL cells slots (pc + 3) S lv rest) : wkGo l X nL cells slots pc S lv (.ref x :: rest) := by
  obtain ⟨p, e, R, s, m, args, below, meth, c, Q, D, A, cy, g⟩ := X
  intro H locs ls hP hD hS hl
  obtain ⟨⟨hx, hb, hml, hown, hts⟩, hK, hA, hNw, hG⟩ := C
  exact lv_ifnull hx hb hd (k H locs ls hP hD hS hl)
theorem wkAt {cy : Nat → ClassId} {a : Nat} {x : va_E} (hL : a ∈ S.L) (he : wkF cy S a = x) : ∃ q : Nat, (va_pl S.L (wkF cy S))[q]? = some (a, wkF cy S a) ∧ (va_pl S.L (wkF cy S))[q]? = some (a, x) := by
  obtain ⟨q, hq⟩ := va_pl_get (X := []) (f := wkF cy S) hL
  exact ⟨q, hq, hq.trans (congrArg (fun e => some (a, e)) he)⟩
theorem wkSet {A : Nat → Prop} {cy : Nat → ClassId} {a q : Nat} {x : va_E} {S' : wPS} (hD : va_D A (va_pl S.L (wkF cy S))) (hL : a ∈ S.L) (hq : (va_pl S.L (wkF cy S))[q]? = some (a, wkF cy S a)) (hS : ∀ b : Nat, va_up (wkF cy S) a x b = wkF cy S' b) (hL' : S'.L = S.L) : (va_pl S.L (wkF cy S)).set q (a, x) = va_pl S'.L (wkF cy S') := by
  have h := va_pl_set (X := []) (e := x) hD hL hq
  rw [hL']
  exact h.trans (va_pl_congr hS)
theorem wk_get (C : wkC X cc own nL Ts) {a index ci N : Nat} {Cn ref : String} {T : u_T} {fs : List Value} (hin : ∀ w ∈ u_ws Cn T N, w ∈ Ts) (hL : a ∈ S.L) (he : ∀ cy : Nat → ClassId, wkF cy S a = .inr (ci, fs)) (hc : vwCl[ci]? = some (Cn, T, N)) (j : Nat) (hj : j < N) (hlink : Cond.fieldLink own index ref (T j).2.1 (T j).2.2.1 ∈ Ts) (href : ref = (T j).1) {v : Value} (hv : fs[j]? = some v) (hd : decode cc pc = .ok (.getfield index, 3)) (k : wkGo l X nL cells slots (pc + 3) S lv (v :: rest)) : wkGo l X nL cells slots pc S lv (.ref a :: rest) := by
  obtain ⟨p, e, R, s, m, args, below, meth, c, Q, D, A, cy, g⟩ := X
  intro H locs ls hP hD hS hl
  obtain ⟨⟨hx, hb, hml, hown, hts⟩, hK, hA, hNw, hG⟩ := C
  obtain ⟨q, -, hq⟩ := wkAt hL (he cy)
  exact va_get hx hb hts hin hown hK hP q hq hc j hj (hts _ hlink) (fun x h => by rw [href]; exact h) hv hd (k H locs ls hP hD hS hl)
theorem wk_put (C : wkC X cc own nL Ts) {a index ci N : Nat} {Cn ref : String} {T : u_T} {fs : List Value} (hin : ∀ w ∈ u_ws Cn T N, w ∈ Ts) (hL : a ∈ S.L) (he : ∀ cy : Nat → ClassId, wkF cy S a = .inr (ci, fs)) (hc : vwCl[ci]? = some (Cn, T, N)) (j : Nat) (hj : j < N) (hlink : Cond.fieldLink own index ref (T j).2.1 (T j).2.2.1 ∈ Ts) (href : ref = (T j).1) {ty0 : Nat → FieldType} (hty : ∀ k, k < N → parseFieldDescriptor (T k).2.2.1 = some (ty0 k)) (hnm : ∀ a, a < N → ∀ b, b < N → a ≠ b → (T a).2.1 ≠ (T b).2.1) (hfin : (T j).2.2.2 = false) {ty : FieldType} {v : Value} (hpd : parseFieldDescriptor (T j).2.2.1 = some ty) (hn : narrow ty v = v) (hfit : fits ty v = true) (hlen : j < fs.length) {S' : wPS} (hS' : ∀ (cy : Nat → ClassId) (b : Nat), va_up (wkF cy S) a (.inr (ci, fs.set j v)) b = wkF cy S' b) (hL' : S'.L = S.L) (hd : decode cc pc = .ok (.putfield index, 3)) (k : wkGo l X nL cells slots (pc + 3) S' lv rest) : wkGo l X nL cells slots pc S lv (v :: .ref a :: rest) := by
  obtain ⟨p, e, R, s, m, args, below, meth, c, Q, D, A, cy, g⟩ := X
  intro H locs ls hP hD hS hl
  obtain ⟨⟨hx, hb, hml, hown, hts⟩, hK, hA, hNw, hG⟩ := C
  obtain ⟨q, hq0, hq⟩ := wkAt hL (he cy)
  have hset := wkSet hD hL hq0 (hS' cy) hL'
  refine va_put hx hb hts hin ty0 hty hnm hown hK hP hD hS q hq hc j hj (hts _ hlink) (fun x h => by rw [href]; exact h) hfin hpd hn hfit hlen hd (fun H1 locs1 hP1 hD1 hS1 => ?_)
  rw [hset] at hP1 hD1
  exact k H1 locs1 ls hP1 hD1 hS1 hl
theorem wk_iald (C : wkC X cc own nL Ts) {a : Nat} {i v : Int32} (hL : a ∈ S.L) (hk : S.K a = 13) (hin : vp_in i (S.len a)) (hv : S.rI a i.toNatClampNeg = v) (hd : decode cc pc = .ok (.iaload, 1)) (k : wkGo l X nL cells slots (pc + 1) S lv (.int v :: rest)) : wkGo l X nL cells slots pc S lv (.int i :: .ref a :: rest) := by
  obtain ⟨p, e, R, s, m, args, below, meth, c, Q, D, A, cy, g⟩ := X
  intro H locs ls hP hD hS hl
  obtain ⟨⟨hx, hb, hml, hown, hts⟩, hK, hA, hNw, hG⟩ := C
  subst hv
  obtain ⟨q, -, hq⟩ := wkAt hL (wAt_13 cy S hk)
  exact va_iald hx hb hK hP q 1 hq rfl hin hd (k H locs ls hP hD hS hl)
theorem wk_lald (C : wkC X cc own nL Ts) {a : Nat} {i : Int32} {v : Int64} (hL : a ∈ S.L) (hk : S.K a = 14) (hin : vp_in i (S.len a)) (hv : S.rJ a i.toNatClampNeg = v) (hd : decode cc pc = .ok (.laload, 1)) (k : wkGo l X nL cells slots (pc + 1) S lv (.long v :: rest)) : wkGo l X nL cells slots pc S lv (.int i :: .ref a :: rest) := by
  obtain ⟨p, e, R, s, m, args, below, meth, c, Q, D, A, cy, g⟩ := X
  intro H locs ls hP hD hS hl
  obtain ⟨⟨hx, hb, hml, hown, hts⟩, hK, hA, hNw, hG⟩ := C
  subst hv
  obtain ⟨q, -, hq⟩ := wkAt hL (wAt_14 cy S hk)
  exact va_lald hx hb hK hP q 2 hq rfl hin hd (k H locs ls hP hD hS hl)
theorem wk_iast (C : wkC X cc own nL Ts) {a : Nat} {i x : Int32} {S' : wPS} (hL : a ∈ S.L) (hk : S.K a = 13) (hin : vp_in i (S.len a)) (hS' : wuI S a i x = S') (hd : decode cc pc = .ok (.iastore, 1)) (k : wkGo l X nL cells slots (pc + 1) S' lv rest) : wkGo l X nL cells slots pc S lv (.int x :: .int i :: .ref a :: rest) := by
  obtain ⟨p, e, R, s, m, args, below, meth, c, Q, D, A, cy, g⟩ := X
  intro H locs ls hP hD hS hl
  obtain ⟨⟨hx, hb, hml, hown, hts⟩, hK, hA, hNw, hG⟩ := C
  subst hS'
  obtain ⟨q, hq0, hq⟩ := wkAt hL (wAt_13 cy S hk)
  have hset := wkSet hD hL hq0 (wSt_13 cy S hk (upd (S.rI a) i.toNatClampNeg x)) rfl
  refine va_iast hx hb hK hP hD hS q 1 hq rfl hin hd (fun H1 locs1 hP1 hD1 hS1 => ?_)
  rw [hset] at hP1 hD1
  exact k H1 locs1 ls hP1 hD1 hS1 hl
theorem wk_last (C : wkC X cc own nL Ts) {a : Nat} {i : Int32} {x : Int64} {S' : wPS} (hL : a ∈ S.L) (hk : S.K a = 14) (hin : vp_in i (S.len a)) (hS' : wuJ S a i x = S') (hd : decode cc pc = .ok (.lastore, 1)) (k : wkGo l X nL cells slots (pc + 1) S' lv rest) : wkGo l X nL cells slots pc S lv (.long x :: .int i :: .ref a :: rest) := by
  obtain ⟨p, e, R, s, m, args, below, meth, c, Q, D, A, cy, g⟩ := X
  intro H locs ls hP hD hS hl
  obtain ⟨⟨hx, hb, hml, hown, hts⟩, hK, hA, hNw, hG⟩ := C
  subst hS'
  obtain ⟨q, hq0, hq⟩ := wkAt hL (wAt_14 cy S hk)
  have hset := wkSet hD hL hq0 (wSt_14 cy S hk (vp_updL (S.rJ a) i.toNatClampNeg x)) rfl
  refine va_last hx hb hK hP hD hS q 2 hq rfl hin hd (fun H1 locs1 hP1 hD1 hS1 => ?_)
  rw [hset] at hP1 hD1
  exact k H1 locs1 ls hP1 hD1 hS1 hl
theorem wk_ilen (C : wkC X cc own nL Ts) {a : Nat} {v : Int32} (hL : a ∈ S.L) (hk : S.K a = 13) (hv : Int32.ofNat (S.len a) = v) (hd : decode cc pc = .ok (.arraylength, 1)) (k : wkGo l X nL cells slots (pc + 1) S lv (.int v :: rest)) : wkGo l X nL cells slots pc S lv (.ref a :: rest) := by
  obtain ⟨p, e, R, s, m, args, below, meth, c, Q, D, A, cy, g⟩ := X
  intro H locs ls hP hD hS hl
  obtain ⟨⟨hx, hb, hml, hown, hts⟩, hK, hA, hNw, hG⟩ := C
  obtain ⟨q, -, hq⟩ := wkAt hL (wAt_13 cy S hk)
  exact va_alen hx hb hK hP q 1 hq rfl hv hd (k H locs ls hP hD hS hl)
theorem wk_llen (C : wkC X cc own nL Ts) {a : Nat} {v : Int32} (hL : a ∈ S.L) (hk : S.K a = 14) (hv : Int32.ofNat (S.len a) = v) (hd : decode cc pc = .ok (.arraylength, 1)) (k : wkGo l X nL cells slots (pc + 1) S lv (.int v :: rest)) : wkGo l X nL cells slots pc S lv (.ref a :: rest) := by
  obtain ⟨p, e, R, s, m, args, below, meth, c, Q, D, A, cy, g⟩ := X
  intro H locs ls hP hD hS hl
  obtain ⟨⟨hx, hb, hml, hown, hts⟩, hK, hA, hNw, hG⟩ := C
  obtain ⟨q, -, hq⟩ := wkAt hL (wAt_14 cy S hk)
  exact va_alen hx hb hK hP q 2 hq rfl hv hd (k H locs ls hP hD hS hl)
theorem wk_aaldClaim (C : wkC X cc own nL Ts) {a v : Nat} {i : Int32} (hL : a ∈ S.L) (hk : S.K a = 15) (hin : vp_in i (S.len a)) (hv : S.rA a i.toNatClampNeg = some v) (hd : decode cc pc = .ok (.aaload, 1)) (k : wkGo l X nL cells slots (pc + 1) S lv (.ref v :: rest)) : wkGo l X nL cells slots pc S lv (.int i :: .ref a :: rest) := by
  obtain ⟨p, e, R, s, m, args, below, meth, c, Q, D, A, cy, g⟩ := X
  intro H locs ls hP hD hS hl
  obtain ⟨⟨hx, hb, hml, hown, hts⟩, hK, hA, hNw, hG⟩ := C
  obtain ⟨q, -, hq⟩ := wkAt hL (wAt_15 cy S hk)
  have hlt : i.toNatClampNeg < S.len a := Nat.not_le.mp fun q => hin (Or.inr q)
  exact W.aald (v := .ref v) (ty := .object "Witnessworks$Claim") hx hb (hP q _ hq) ((hK.2 3 _ rfl).1 (S.len a) (fun j => va_rf (S.rA a j))) rfl (fun q => by cases q) (by show ¬ (i < 0 ∨ (arrV _ _ _).slots.size ≤ _); rw [arrV_size]; exact hin) (by show (arrV _ _ _).slots[_]? = _; rw [arrV_read _ _ hlt, hv]; rfl) rfl rfl hd (k H locs ls hP hD hS hl)
theorem wk_aaldEntry (C : wkC X cc own nL Ts) {a v : Nat} {i : Int32} (hL : a ∈ S.L) (hk : S.K a = 16) (hin : vp_in i (S.len a)) (hv : S.rA a i.toNatClampNeg = some v) (hd : decode cc pc = .ok (.aaload, 1)) (k : wkGo l X nL cells slots (pc + 1) S lv (.ref v :: rest)) : wkGo l X nL cells slots pc S lv (.int i :: .ref a :: rest) := by
  obtain ⟨p, e, R, s, m, args, below, meth, c, Q, D, A, cy, g⟩ := X
  intro H locs ls hP hD hS hl
  obtain ⟨⟨hx, hb, hml, hown, hts⟩, hK, hA, hNw, hG⟩ := C
  obtain ⟨q, -, hq⟩ := wkAt hL (wAt_16 cy S hk)
  have hlt : i.toNatClampNeg < S.len a := Nat.not_le.mp fun q => hin (Or.inr q)
  exact W.aald (v := .ref v) (ty := .object "Witnessworks$Entry") hx hb (hP q _ hq) ((hK.2 4 _ rfl).1 (S.len a) (fun j => va_rf (S.rA a j))) rfl (fun q => by cases q) (by show ¬ (i < 0 ∨ (arrV _ _ _).slots.size ≤ _); rw [arrV_size]; exact hin) (by show (arrV _ _ _).slots[_]? = _; rw [arrV_read _ _ hlt, hv]; rfl) rfl rfl hd (k H locs ls hP hD hS hl)
theorem wk_aald_I (C : wkC X cc own nL Ts) {a v : Nat} {i : Int32} (hL : a ∈ S.L) (hk : S.K a = 17) (hin : vp_in i (S.len a)) (hv : S.rA a i.toNatClampNeg = some v) (hd : decode cc pc = .ok (.aaload, 1)) (k : wkGo l X nL cells slots (pc + 1) S lv (.ref v :: rest)) : wkGo l X nL cells slots pc S lv (.int i :: .ref a :: rest) := by
  obtain ⟨p, e, R, s, m, args, below, meth, c, Q, D, A, cy, g⟩ := X
  intro H locs ls hP hD hS hl
  obtain ⟨⟨hx, hb, hml, hown, hts⟩, hK, hA, hNw, hG⟩ := C
  obtain ⟨q, -, hq⟩ := wkAt hL (wAt_17 cy S hk)
  have hlt : i.toNatClampNeg < S.len a := Nat.not_le.mp fun q => hin (Or.inr q)
  exact W.aald (v := .ref v) (ty := .array .int) hx hb (hP q _ hq) ((hK.2 5 _ rfl).1 (S.len a) (fun j => va_rf (S.rA a j))) rfl (fun q => by cases q) (by show ¬ (i < 0 ∨ (arrV _ _ _).slots.size ≤ _); rw [arrV_size]; exact hin) (by show (arrV _ _ _).slots[_]? = _; rw [arrV_read _ _ hlt, hv]; rfl) rfl rfl hd (k H locs ls hP hD hS hl)
theorem wk_aald_J (C : wkC X cc own nL Ts) {a v : Nat} {i : Int32} (hL : a ∈ S.L) (hk : S.K a = 18) (hin : vp_in i (S.len a)) (hv : S.rA a i.toNatClampNeg = some v) (hd : decode cc pc = .ok (.aaload, 1)) (k : wkGo l X nL cells slots (pc + 1) S lv (.ref v :: rest)) : wkGo l X nL cells slots pc S lv (.int i :: .ref a :: rest) := by
  obtain ⟨p, e, R, s, m, args, below, meth, c, Q, D, A, cy, g⟩ := X
  intro H locs ls hP hD hS hl
  obtain ⟨⟨hx, hb, hml, hown, hts⟩, hK, hA, hNw, hG⟩ := C
  obtain ⟨q, -, hq⟩ := wkAt hL (wAt_18 cy S hk)
  have hlt : i.toNatClampNeg < S.len a := Nat.not_le.mp fun q => hin (Or.inr q)
  exact W.aald (v := .ref v) (ty := .array .long) hx hb (hP q _ hq) ((hK.2 6 _ rfl).1 (S.len a) (fun j => va_rf (S.rA a j))) rfl (fun q => by cases q) (by show ¬ (i < 0 ∨ (arrV _ _ _).slots.size ≤ _); rw [arrV_size]; exact hin) (by show (arrV _ _ _).slots[_]? = _; rw [arrV_read _ _ hlt, hv]; rfl) rfl rfl hd (k H locs ls hP hD hS hl)
theorem wk_mmax (C : wkC X cc own nL Ts) {d k n index : Nat} (hR : wkRm X d k n) {x y v : Int32} (h1 : Cond.methodLink own index Lib.Math.max.name ∈ Ts) (h2 : Cond.static Lib.Math.max.name ∈ Ts) (h3 : Cond.initialized "java/lang/Math" ∈ Ts) (h4 : Cond.code Lib.Math.max.name Lib.Math.max.code 2 (some .int) ∈ Ts) (hd1 : 1 ≤ d) (hk : cells ≤ k) (hn : slots ≤ n) (hcat : (rest.map fun v => v.category).sum ≤ 8) (hv : (if x < y then y else x) = v) (hd : decode cc pc = .ok (.invokestatic index, 3)) (kk : wkGo l X nL cells slots (pc + 3) S lv (.int v :: rest)) : wkGo l X nL cells slots pc S lv (.int y :: .int x :: rest) := by
  obtain ⟨p, e, R, s, m, args, below, meth, c, Q, D, A, cy, g⟩ := X
  intro H locs ls hP hD hS hl
  obtain ⟨⟨hx, hb, hml, hown, hts⟩, hK, hA, hNw, hG⟩ := C
  subst hv
  have hR : R = { frames := d, cells := k, slots := n, locals := 80 * d } := hR
  subst hR
  refine va_mmax hx hb (hml.trans hl.1.symm) hown (hts _ h1) (hts _ h2) (hts _ h3) (hts _ h4) hd1 ?_ hk hn hd (kk H locs ls hP hD hS hl)
  show _ ≤ 80 * d
  omega
theorem wk_mmin (C : wkC X cc own nL Ts) {d k n index : Nat} (hR : wkRm X d k n) {x y v : Int32} (h1 : Cond.methodLink own index Lib.Math.min.name ∈ Ts) (h2 : Cond.static Lib.Math.min.name ∈ Ts) (h3 : Cond.initialized "java/lang/Math" ∈ Ts) (h4 : Cond.code Lib.Math.min.name Lib.Math.min.code 2 (some .int) ∈ Ts) (hd1 : 1 ≤ d) (hk : cells ≤ k) (hn : slots ≤ n) (hcat : (rest.map fun v => v.category).sum ≤ 8) (hv : (if y < x then y else x) = v) (hd : decode cc pc = .ok (.invokestatic index, 3)) (kk : wkGo l X nL cells slots (pc + 3) S lv (.int v :: rest)) : wkGo l X nL cells slots pc S lv (.int y :: .int x :: rest) := by
  obtain ⟨p, e, R, s, m, args, below, meth, c, Q, D, A, cy, g⟩ := X
  intro H locs ls hP hD hS hl
  obtain ⟨⟨hx, hb, hml, hown, hts⟩, hK, hA, hNw, hG⟩ := C
  subst hv
  have hR : R = { frames := d, cells := k, slots := n, locals := 80 * d } := hR
  subst hR
  refine va_mmin hx hb (hml.trans hl.1.symm) hown (hts _ h1) (hts _ h2) (hts _ h3) (hts _ h4) hd1 ?_ hk hn hd (kk H locs ls hP hD hS hl)
  show _ ≤ 80 * d
  omega
theorem wk_mabs (C : wkC X cc own nL Ts) {d k n index : Nat} (hR : wkRm X d k n) {x v : Int32} (h1 : Cond.methodLink own index Lib.Math.abs.name ∈ Ts) (h2 : Cond.static Lib.Math.abs.name ∈ Ts) (h3 : Cond.initialized "java/lang/Math" ∈ Ts) (h4 : Cond.code Lib.Math.abs.name Lib.Math.abs.code 1 (some .int) ∈ Ts) (hd1 : 1 ≤ d) (hk : cells ≤ k) (hn : slots ≤ n) (hcat : (rest.map fun v => v.category).sum ≤ 8) (hv : (if 0 ≤ x then x else 0 - x) = v) (hd : decode cc pc = .ok (.invokestatic index, 3)) (kk : wkGo l X nL cells slots (pc + 3) S lv (.int v :: rest)) : wkGo l X nL cells slots pc S lv (.int x :: rest) := by
  obtain ⟨p, e, R, s, m, args, below, meth, c, Q, D, A, cy, g⟩ := X
  intro H locs ls hP hD hS hl
  obtain ⟨⟨hx, hb, hml, hown, hts⟩, hK, hA, hNw, hG⟩ := C
  subst hv
  have hR : R = { frames := d, cells := k, slots := n, locals := 80 * d } := hR
  subst hR
  refine va_mabs hx hb (hml.trans hl.1.symm) hown (hts _ h1) (hts _ h2) (hts _ h3) (hts _ h4) hd1 ?_ hk hn hd (kk H locs ls hP hD hS hl)
  show _ ≤ 80 * d
  omega
theorem wk_mmax_long (C : wkC X cc own nL Ts) {d k n index : Nat} (hR : wkRm X d k n) {x y v : Int64} (h1 : Cond.methodLink own index Lib.MathLoose.max_long.x ∈ Ts) (h2 : Cond.static Lib.MathLoose.max_long.x ∈ Ts) (h3 : Cond.initialized "java/lang/Math" ∈ Ts) (h4 : Cond.code Lib.MathLoose.max_long.x Lib.MathLoose.max_long.code 4 (some .long) ∈ Ts) (hd1 : 1 ≤ d) (hk : cells ≤ k) (hn : slots ≤ n) (hcat : (rest.map fun v => v.category).sum ≤ 8) (hv : (if y < x then x else y) = v) (hd : decode cc pc = .ok (.invokestatic index, 3)) (kk : wkGo l X nL cells slots (pc + 3) S lv (.long v :: rest)) : wkGo l X nL cells slots pc S lv (.long y :: .long x :: rest) := by
  obtain ⟨p, e, R, s, m, args, below, meth, c, Q, D, A, cy, g⟩ := X
  intro H locs ls hP hD hS hl
  obtain ⟨⟨hx, hb, hml, hown, hts⟩, hK, hA, hNw, hG⟩ := C
  subst hv
  have hR : R = { frames := d, cells := k, slots := n, locals := 80 * d } := hR
  subst hR
  refine va_mmax_long hx hb (hml.trans hl.1.symm) hown (hts _ h1) (hts _ h2) (hts _ h3) (hts _ h4) hd1 ?_ hk hn hd (kk H locs ls hP hD hS hl)
  show _ ≤ 80 * d
  omega
theorem wk_mabs_long (C : wkC X cc own nL Ts) {d k n index : Nat} (hR : wkRm X d k n) {x v : Int64} (h1 : Cond.methodLink own index Lib.MathLoose.abs_long.x ∈ Ts) (h2 : Cond.static Lib.MathLoose.abs_long.x ∈ Ts) (h3 : Cond.initialized "java/lang/Math" ∈ Ts) (h4 : Cond.code Lib.MathLoose.abs_long.x Lib.MathLoose.abs_long.code 2 (some .long) ∈ Ts) (hd1 : 1 ≤ d) (hk : cells ≤ k) (hn : slots ≤ n) (hcat : (rest.map fun v => v.category).sum ≤ 8) (hv : (if 0 < x then x else -x) = v) (hd : decode cc pc = .ok (.invokestatic index, 3)) (kk : wkGo l X nL cells slots (pc + 3) S lv (.long v :: rest)) : wkGo l X nL cells slots pc S lv (.long x :: rest) := by
  obtain ⟨p, e, R, s, m, args, below, meth, c, Q, D, A, cy, g⟩ := X
  intro H locs ls hP hD hS hl
  obtain ⟨⟨hx, hb, hml, hown, hts⟩, hK, hA, hNw, hG⟩ := C
  subst hv
  have hR : R = { frames := d, cells := k, slots := n, locals := 80 * d } := hR
  subst hR
  refine va_mabs_long hx hb (hml.trans hl.1.symm) hown (hts _ h1) (hts _ h2) (hts _ h3) (hts _ h4) hd1 ?_ hk hn hd (kk H locs ls hP hD hS hl)
  show _ ≤ 80 * d
  omega
end
section
/-- a method's contract: from the arguments and the pool S it returns a value and a pool of which Post holds; it makes at most k cells of n slots, in frames of depth d -/
def wkMet (l : Launch) (g : wkG) (y : MethodName) (ws : List Cond) (d k n : Nat) (as : List Value) (S : wPS) (Post : Option Value → wPS → Prop) : Prop :=
  ∀ (D : va_G) (cy : Nat → ClassId) (sz : Nat), Met l y ws { frames := d, cells := k, slots := n, locals := 80 * d }
    (va_Pc as (fun U => U.heap.size = sz ∧ va_P D vwCl (va_pl S.L (wkF cy S)) U.heap ∧ va_K D vwCl (wkTys cy) U ∧ va_D (fun _ => True) (va_pl S.L (wkF cy S)) ∧ wkNw U ∧ wkRo g (va_A (va_pl S.L (wkF cy S)) sz) U U.heap))
    (fun _ u oc t => (∃ (v : Option Value) (S' : wPS), oc = .returned v ∧ Post v S' ∧ va_P D vwCl (va_pl S'.L (wkF cy S')) t.heap ∧ va_D (va_A (va_pl S.L (wkF cy S)) sz) (va_pl S'.L (wkF cy S'))) ∧ va_F (va_A (va_pl S.L (wkF cy S)) sz) u t)
    k n (va_A (va_pl S.L (wkF cy S)) sz)
/-- how a method ends, by what it returns -/
def wkEnd (l : Launch) (X : wkX) (cc : ByteArray) (nL : Nat) (ret : Option FieldType) (k n : Nat) (Post : Option Value → wPS → Prop) : Prop := match ret with
  | none => ∀ (cells slots pc : Nat) (S : wPS) (lv : wkLv), cells ≤ k → slots ≤ n → decode cc pc = .ok (.return_, 1) → Post none S → wkGo l X nL cells slots pc S lv []
  | some .long => ∀ (cells slots pc : Nat) (S : wPS) (lv : wkLv) (x : Int64), cells ≤ k → slots ≤ n → decode cc pc = .ok (.lreturn, 1) → Post (some (.long x)) S → wkGo l X nL cells slots pc S lv [.long x]
  | some .int => ∀ (cells slots pc : Nat) (S : wPS) (lv : wkLv) (x : Int32), cells ≤ k → slots ≤ n → decode cc pc = .ok (.ireturn, 1) → Post (some (.int x)) S → wkGo l X nL cells slots pc S lv [.int x]
  | some .boolean => ∀ (cells slots pc : Nat) (S : wPS) (lv : wkLv) (x : Int32), cells ≤ k → slots ≤ n → decode cc pc = .ok (.ireturn, 1) → narrow .boolean (.int x) = .int x → Post (some (.int x)) S → wkGo l X nL cells slots pc S lv [.int x]
  | some .char => ∀ (cells slots pc : Nat) (S : wPS) (lv : wkLv) (x : Int32), cells ≤ k → slots ≤ n → decode cc pc = .ok (.ireturn, 1) → narrow .char (.int x) = .int x → Post (some (.int x)) S → wkGo l X nL cells slots pc S lv [.int x]
  | some .byte => ∀ (cells slots pc : Nat) (S : wPS) (lv : wkLv) (x : Int32), cells ≤ k → slots ≤ n → decode cc pc = .ok (.ireturn, 1) → narrow .byte (.int x) = .int x → Post (some (.int x)) S → wkGo l X nL cells slots pc S lv [.int x]
  | some (.object _) => ∀ (cells slots pc : Nat) (S : wPS) (lv : wkLv) (a : Nat), cells ≤ k → slots ≤ n → decode cc pc = .ok (.areturn, 1) → Post (some (.ref a)) S → wkGo l X nL cells slots pc S lv [.ref a]
  | some (.array _) => ∀ (cells slots pc : Nat) (S : wPS) (lv : wkLv) (a : Nat), cells ≤ k → slots ≤ n → decode cc pc = .ok (.areturn, 1) → Post (some (.ref a)) S → wkGo l X nL cells slots pc S lv [.ref a]
  | some _ => True
/-- locals at a method's entry -/
def wkIn : List Value → wkLv
  | [] => []
  | v :: vs => if v.category = 2 then some v :: none :: wkIn vs else some v :: wkIn vs
def wkEnt (as : List Value) (maxL : Nat) : wkLv := wkIn as ++ List.replicate (maxL - (wkIn as).length) none
theorem wkIn_at : ∀ (vs : List Value) (b i : Nat) (v : Value), (wkIn vs)[i]? = some (some v) → (b + i, v) ∈ lv_args b vs
  | [], _, i, v, h => by simp [wkIn] at h
  | w :: vs, b, i, v, h => by
    unfold wkIn at h
    unfold lv_args
    by_cases hc : w.category = 2
    · rw [if_pos hc] at h
      rw [if_pos hc]
      match i, h with
      | 0, h => cases h; exact List.mem_cons_self
      | 1, h => cases h
      | j + 2, h =>
        have := wkIn_at vs (b + 2) j v h
        rw [show b + 2 + j = b + (j + 2) by omega] at this
        exact List.mem_cons_of_mem _ this
    · rw [if_neg hc] at h
      rw [if_neg hc]
      match i, h with
      | 0, h => cases h; exact List.mem_cons_self
      | j + 1, h =>
        have := wkIn_at vs (b + 1) j v h
        rw [show b + 1 + j = b + (j + 1) by omega] at this
        exact List.mem_cons_of_mem _ this
theorem wkEnt_at {vs : List Value} {n i : Nat} {v : Value} (h : (wkEnt vs n)[i]? = some (some v)) : (wkIn vs)[i]? = some (some v) := by
  unfold wkEnt at h
  by_cases hi : i < (wkIn vs).length
  · rwa [List.getElem?_append_left hi] at h
  · rw [List.getElem?_append_right (by omega)] at h
    have := List.mem_replicate.mp (List.mem_of_getElem? h)
    cases this.2
theorem wkEnt_ok {vs : List Value} {n : Nat} (h : (lg_sl vs).length ≤ n) : wkLok ((lg_sl vs ++ List.replicate (n - (lg_sl vs).length) Slot.unset).toArray) n (wkEnt vs n) := by
  have hl := lv_entry vs h
  refine ⟨hl.1, hl.2.1, fun i v hv => ?_⟩
  have := wkIn_at vs 0 i v (wkEnt_at hv)
  rw [Nat.zero_add] at this
  exact hl.2.2 (i, v) this
theorem wk_ofWF {l : Launch} {y : MethodName} {ws ws' : List Cond} {rm : Room} {Pc : Array Value → State → Prop} {Qc : Array Value → State → Outcome → State → Prop} {mc ms : Nat} {free : Addr → Prop} {cc : ByteArray} {maxL : Nat} {ret : Option FieldType}
    (hy : plainFor y = true) (hw : ws = Cond.code y cc maxL ret :: ws')
    (body : ∀ p e s m args below meth c s₁, BodyLoose p l y (headSpec ws rm) cc maxL ret e s m args below meth c s₁ → c.maxLocals = maxL → Pc args s →
      W p l e (headSpec ws rm).room s m args below meth c s.heap [] 0 0 (MQ below Qc args s mc ms free) (entryFrame m args maxL)) : Met l y ws rm Pc Qc mc ms free := by
  refine MetFree.of_bodySF (code := cc) (maxLocals := maxL) (ret := ret) hy ?_ ?_
  · intro args s m h hn
    obtain ⟨meth, c, h1, h2, h3, h4, h5, h6, -, -⟩ := Cond.code_spec hn (atoms_spec (ws := ws) h _ (by rw [hw]; exact List.mem_cons_self))
    exact ⟨meth, c, h1, h2, h3, h4, h5, h6⟩
  · intro p e s m args below meth c s₁ B hml hP _
    have hh0 : s₁.heap = s.heap := by rw [B.state]; rfl
    obtain ⟨t, a1, o, b1, b2, b3⟩ := body p e s m args below meth c s₁ B hml hP s₁ hh0 (Stand.of_body B)
    exact ⟨t, o, a1, b1, b2, ⟨b3.1, b3.2⟩⟩
set_option maxHeartbeats 1000000 in
theorem wkMet_ofF {l : Launch} {g : wkG} {y : MethodName} {ws ws' : List Cond} {d k n : Nat} {as : List Value} {S : wPS} {Post : Option Value → wPS → Prop} {cc : ByteArray} {maxL : Nat} {ret : Option FieldType}
    (hy : plainFor y = true) (hw : ws = Cond.code y cc maxL ret :: ws') (hlen : (lg_sl as).length ≤ maxL)
    (body : ∀ X : wkX, wkXg X = g → wkC X cc y.cls maxL ws → wkRm X d k n → wkEnd l X cc maxL ret k n Post → wkGo l X maxL 0 0 0 S (wkEnt as maxL) []) : wkMet l g y ws d k n as S Post := by
  intro D cy sz
  refine wk_ofWF (cc := cc) (maxL := maxL) (ret := ret) hy hw ?_
  intro p e s m args below meth c s₁ B hml hv
  obtain ⟨rfl, hz, hP, hK, hD, hNw, hG⟩ := hv
  have hts := atoms_spec (ws := ws) B.pre
  have hown : s.vm.findClass y.cls = some m.cls := findClass_of_methodNamed B.named
  have hA : ∀ q : Nat, s.heap.size ≤ q → va_A (va_pl S.L (wkF cy S)) sz q := fun q hq => Or.inr (by omega)
  have h := body (p, e, { frames := d, cells := k, slots := n, locals := 80 * d }, s, m, as.toArray, below, meth, c, MQ below (fun _ u oc t => (∃ (v : Option Value) (S' : wPS), oc = .returned v ∧ Post v S' ∧ va_P D vwCl (va_pl S'.L (wkF cy S')) t.heap ∧ va_D (va_A (va_pl S.L (wkF cy S)) sz) (va_pl S'.L (wkF cy S'))) ∧ va_F (va_A (va_pl S.L (wkF cy S)) sz) u t) as.toArray s k n (va_A (va_pl S.L (wkF cy S)) sz), D, va_A (va_pl S.L (wkF cy S)) sz, cy, g) rfl
    ⟨⟨B.exec, B.bytes, hml, hown, hts⟩, hK, hA, hNw, hG⟩ rfl ?_
  · rw [lg_entry_eq]
    exact h s.heap [] _ hP hD.self va_S.rf (wkEnt_ok hlen)
  · have hr := B.returns
    unfold wkEnd
    split
    · intro cells slots pc S' lv h1 h2 hd hp H locs ls hP hD hS hl
      exact W.widen h1 h2 (W.vret B.exec B.bytes hr (fun t ht _ => ⟨⟨none, S', rfl, hp, by rw [ht]; exact hP, hD⟩, hS.F ht⟩) hS.2.2 hd B.notSynchronized)
    · intro cells slots pc S' lv x h1 h2 hd hp H locs ls hP hD hS hl
      exact W.widen h1 h2 (W.lret B.exec B.bytes hr (fun t ht _ => ⟨⟨some (.long x), S', rfl, hp, by rw [ht]; exact hP, hD⟩, hS.F ht⟩) hS.2.2 hd B.notSynchronized)
    · intro cells slots pc S' lv x h1 h2 hd hp H locs ls hP hD hS hl
      exact W.widen h1 h2 (W.iret B.exec B.bytes hr (fun t ht _ => ⟨⟨some (.int x), S', rfl, hp, by rw [ht]; exact hP, hD⟩, hS.F ht⟩) hS.2.2 hd B.notSynchronized)
    · intro cells slots pc S' lv x h1 h2 hd hn hp H locs ls hP hD hS hl
      exact W.widen h1 h2 (W.zret B.exec B.bytes hr hn (fun t ht _ => ⟨⟨some (.int x), S', rfl, hp, by rw [ht]; exact hP, hD⟩, hS.F ht⟩) hS.2.2 hd B.notSynchronized)
    · intro cells slots pc S' lv x h1 h2 hd hn hp H locs ls hP hD hS hl
      exact W.widen h1 h2 (W.zret B.exec B.bytes hr hn (fun t ht _ => ⟨⟨some (.int x), S', rfl, hp, by rw [ht]; exact hP, hD⟩, hS.F ht⟩) hS.2.2 hd B.notSynchronized)
    · intro cells slots pc S' lv x h1 h2 hd hn hp H locs ls hP hD hS hl
      exact W.widen h1 h2 (W.zret B.exec B.bytes hr hn (fun t ht _ => ⟨⟨some (.int x), S', rfl, hp, by rw [ht]; exact hP, hD⟩, hS.F ht⟩) hS.2.2 hd B.notSynchronized)
    · intro cells slots pc S' lv a h1 h2 hd hp H locs ls hP hD hS hl
      exact W.widen h1 h2 (W.aret B.exec B.bytes hr (Or.inl ⟨_, rfl⟩) (Or.inr ⟨_, rfl⟩) (fun t ht _ => ⟨⟨some (.ref a), S', rfl, hp, by rw [ht]; exact hP, hD⟩, hS.F ht⟩) hS.2.2 hd B.notSynchronized)
    · intro cells slots pc S' lv a h1 h2 hd hp H locs ls hP hD hS hl
      exact W.widen h1 h2 (W.aret B.exec B.bytes hr (Or.inr ⟨_, rfl⟩) (Or.inr ⟨_, rfl⟩) (fun t ht _ => ⟨⟨some (.ref a), S', rfl, hp, by rw [ht]; exact hP, hD⟩, hS.F ht⟩) hS.2.2 hd B.notSynchronized)
    · trivial
theorem wkMet_of {l : Launch} {g : wkG} {y : MethodName} {ws ws' : List Cond} {d k n : Nat} {as : List Value} {S : wPS} {Post : Option Value → wPS → Prop} {cc : ByteArray} {maxL : Nat} {ret : Option FieldType}
    (hy : plainName y.cls = true) (hw : ws = Cond.code y cc maxL ret :: ws') (hlen : (lg_sl as).length ≤ maxL)
    (body : ∀ X : wkX, wkXg X = g → wkC X cc y.cls maxL ws → wkRm X d k n → wkEnd l X cc maxL ret k n Post → wkGo l X maxL 0 0 0 S (wkEnt as maxL) []) : wkMet l g y ws d k n as S Post := wkMet_ofF (plainFor_of_name hy) hw hlen body
end
section
variable {l : Launch} {X : wkX} {cc : ByteArray} {own : String} {nL : Nat} {Ts : List Cond} {cells slots pc : Nat} {S : wPS} {lv : wkLv} {st rest : List Value}
/-- out of a run of a call: the walk goes on behind it -/
theorem wk_back {p : Program} {e : Env} {R : Room} {s : State} {m : MethodId} {args : Array Value} {below : List Frame} {meth : Method} {c : Code} {Q : State → Prop} {D : va_G} {A : Nat → Prop} {cy : Nat → ClassId} {g : wkG} {H : Heap} {locs : List Loc} {ls : Array Slot} {k0 n0 : Nat} {as : Array Value} {Post : Option Value → wPS → Prop}
    (hA : ∀ q : Nat, s.heap.size ≤ q → A q) (hD : va_D A (va_pl S.L (wkF cy S))) (hS : va_S A s.heap H locs) (hl : wkLok ls nL lv)
    (hrun : va_Run p l e R s m args below meth c H locs cells slots k0 n0 (F0 m pc ls st) rest ((fun _ u oc t => (∃ (v : Option Value) (S' : wPS), oc = .returned v ∧ Post v S' ∧ va_P D vwCl (va_pl S'.L (wkF cy S')) t.heap ∧ va_D (va_A (va_pl S.L (wkF cy S)) H.size) (va_pl S'.L (wkF cy S'))) ∧ va_F (va_A (va_pl S.L (wkF cy S)) H.size) u t : Array Value → State → Outcome → State → Prop) as) (va_A (va_pl S.L (wkF cy S)) H.size))
    (kk : ∀ (v : Option Value) (S' : wPS), Post v S' → wkGo l (p, e, R, s, m, args, below, meth, c, Q, D, A, cy, g) nL (cells + k0) (slots + n0) (pc + 3) S' lv (v.toList ++ rest)) : W p l e R s m args below meth c H locs cells slots Q (F0 m pc ls st) := by
  intro T hT X1
  obtain ⟨v, st₀, t, T', L, h0, X', hLoc, e1, e2, ⟨⟨v', S', hv, hp, hP1, hD1⟩, hz, hk⟩, stp⟩ := hrun T hT X1
  cases hv
  rw [h0] at hz hk
  have hfree : ∀ q : Nat, va_A (va_pl S.L (wkF cy S)) H.size q → A q := by
    rintro q (⟨j, x, h⟩ | h)
    · exact hD.2 j _ h
    · exact hA q (Nat.le_trans hS.1 h)
  obtain ⟨t2, a1, b1⟩ := kk v S' hp T'.heap (locs ++ L) ls (by rw [e1]; exact hP1) (hD1.weaken (fun _ _ _ h => hfree _ h))
    ⟨Nat.le_trans hS.1 (by rw [e1]; exact hz), fun q h1 h2 => by rw [e1, hk q (Nat.lt_of_lt_of_le h1 hS.1) (fun z => h2 (hfree q z))]; exact hS.2.1 q h1 h2, fun q hq => by
      rcases List.mem_append.mp hq with h | h
      · exact hS.2.2 q h
      · exact hfree _ (hLoc q h)⟩ hl T' rfl X'
  exact ⟨t2, stp t2 a1, b1⟩
theorem wk_blind {g : wkG} {D : va_G} {cy : Nat → ClassId} {sz : Nat} {as : List Value} : FrameBlind (va_Pc as (fun U => U.heap.size = sz ∧ va_P D vwCl (va_pl S.L (wkF cy S)) U.heap ∧ va_K D vwCl (wkTys cy) U ∧ va_D (fun _ => True) (va_pl S.L (wkF cy S)) ∧ wkNw U ∧ wkRo g (va_A (va_pl S.L (wkF cy S)) sz) U U.heap)) :=
  fun a U g mk q => ⟨q.1, q.2.1, q.2.2.1, va_K.moved (u := U) (U := U.calling g mk a) (Vm.Alike.refl U.vm) q.2.2.2.1, q.2.2.2.2.1, wkNw.same rfl q.2.2.2.2.2.1, q.2.2.2.2.2.2.1, q.2.2.2.2.2.2.2.2 U _ (State.WarmedH.refl U) q.2.2.2.2.2.2.2.1, q.2.2.2.2.2.2.2.2⟩
set_option maxHeartbeats 1000000 in
theorem wk_callV (C : wkC X cc own nL Ts) {d k n : Nat} (hR : wkRm X d k n) {y : MethodName} {bytes : ByteArray} {maxL d0 k0 n0 b index cnt ci N : Nat} {ret : Option FieldType} {ws ws' : List Cond} {As : List Value} {T : u_T} {fs : List Value} {Post : Option Value → wPS → Prop}
    (hM : wkMet l (wkXg X) y ws d0 k0 n0 (.ref b :: As) S Post) (hw : ws = Cond.code y bytes maxL ret :: ws') (hg : GoodIn Ts (wsV own index y.cls y ws)) (hd0 : d0 + 1 ≤ d) (hmax : maxL ≤ 60)
    (hL : b ∈ S.L) (he : ∀ cy : Nat → ClassId, wkF cy S b = .inr (ci, fs)) (hc : vwCl[ci]? = some (y.cls, T, N)) (hpl : y.cls ≠ "java/lang/invoke/MethodHandle" ∧ y.cls ≠ "java/lang/invoke/VarHandle" ∧ (parseMethodDescriptor y.desc).map (fun d => d.parameters.length) = some cnt)
    (hn : As.length = cnt) (hst : st = As.reverse ++ .ref b :: rest) (hcat : (rest.map fun v => v.category).sum ≤ 8) (hk : cells + k0 ≤ k) (hs : slots + n0 ≤ n) (hd : decode cc pc = .ok (.invokevirtual index, 3))
    (kk : ∀ (v : Option Value) (S' : wPS), Post v S' → wkGo l X nL (cells + k0) (slots + n0) (pc + 3) S' lv (v.toList ++ rest)) : wkGo l X nL cells slots pc S lv st := by
  obtain ⟨p, e, R, s, m, args, below, meth, c, Q, D, A, cy, g⟩ := X
  intro H locs ls hP hD hS hl
  obtain ⟨⟨hx, hb, hml, hown, hts⟩, hK, hA, hNw, hG⟩ := C
  have hR : R = { frames := d, cells := k, slots := n, locals := 80 * d } := hR
  subst hR
  subst hst
  obtain ⟨q, -, hq⟩ := wkAt hL (he cy)
  refine wk_back (as := (Value.ref b :: As).toArray) hA hD hS hl (va_runV (As := As) (rest := rest) ⟨hx, hb, hml, hown, hts⟩ (hM D cy H.size) (cwV cnt hts hg hw rfl rfl ⟨rfl, hpl⟩ ⟨hd0, ?_⟩) ⟨wk_blind, va_recv hK hP hc hq, fun U hU hW => ⟨rfl, by rw [hU], by rw [hU]; exact hP, va_K.moved hW.alike hK, hD.weaken (fun _ _ _ _ => trivial), wkNw.warm hW hNw, wkRo.call hG hS hD hW hU⟩⟩ rfl hn hl.1 rfl (lv_room hcat) hd ⟨hk, hs⟩) kk
  show 8 + (maxL + 11) + 80 * d0 ≤ 80 * d
  omega
set_option maxHeartbeats 1000000 in
theorem wk_callS (C : wkC X cc own nL Ts) {d k n : Nat} (hR : wkRm X d k n) {y : MethodName} {bytes : ByteArray} {maxL d0 k0 n0 index cnt : Nat} {ret : Option FieldType} {ws ws' : List Cond} {As : List Value} {Post : Option Value → wPS → Prop}
    (hM : wkMet l (wkXg X) y ws d0 k0 n0 As S Post) (hw : ws = Cond.code y bytes maxL ret :: ws') (hg : GoodIn Ts (wsS own index y ws)) (hd0 : d0 + 1 ≤ d) (hmax : maxL ≤ 60)
    (hpl : y.cls = own ∧ y.cls ≠ "java/lang/invoke/MethodHandle" ∧ y.cls ≠ "java/lang/invoke/VarHandle" ∧ (parseMethodDescriptor y.desc).map (fun d => d.parameters.length) = some cnt)
    (hn : As.length = cnt) (hst : st = As.reverse ++ rest) (hcat : (rest.map fun v => v.category).sum ≤ 8) (hk : cells + k0 ≤ k) (hs : slots + n0 ≤ n) (hd : decode cc pc = .ok (.invokestatic index, 3))
    (kk : ∀ (v : Option Value) (S' : wPS), Post v S' → wkGo l X nL (cells + k0) (slots + n0) (pc + 3) S' lv (v.toList ++ rest)) : wkGo l X nL cells slots pc S lv st := by
  obtain ⟨p, e, R, s, m, args, below, meth, c, Q, D, A, cy, g⟩ := X
  intro H locs ls hP hD hS hl
  obtain ⟨⟨hx, hb, hml, hown, hts⟩, hK, hA, hNw, hG⟩ := C
  have hR : R = { frames := d, cells := k, slots := n, locals := 80 * d } := hR
  subst hR
  subst hst
  refine wk_back (as := As.toArray) hA hD hS hl (va_runS (As := As) (rest := rest) ⟨hx, hb, hml, hown, hts⟩ (hM D cy H.size) (cwS cnt hts hg hw rfl rfl hpl ⟨hd0, ?_⟩) ⟨wk_blind, fun U hU hW => ⟨rfl, by rw [hU], by rw [hU]; exact hP, va_K.moved hW.alike hK, hD.weaken (fun _ _ _ _ => trivial), wkNw.warm hW hNw, wkRo.call hG hS hD hW hU⟩⟩ rfl hn hl.1 rfl (lv_room hcat) hd ⟨hk, hs⟩) kk
  show 8 + (maxL + 11) + 80 * d0 ≤ 80 * d
  omega
set_option maxHeartbeats 1000000 in
theorem wk_callW (C : wkC X cc own nL Ts) {d k n : Nat} (hR : wkRm X d k n) {y : MethodName} {bytes : ByteArray} {maxL d0 k0 n0 index cnt : Nat} {ret : Option FieldType} {ws ws' : List Cond} {As : List Value} {Post : Option Value → wPS → Prop}
    (hM : wkMet l (wkXg X) y ws d0 k0 n0 As S Post) (hw : ws = Cond.code y bytes maxL ret :: ws') (hg : GoodIn Ts (va_wsS own index y ws)) (hd0 : d0 + 1 ≤ d) (hmax : maxL ≤ 60)
    (hpl : y.cls ≠ "java/lang/invoke/MethodHandle" ∧ y.cls ≠ "java/lang/invoke/VarHandle" ∧ (parseMethodDescriptor y.desc).map (fun d => d.parameters.length) = some cnt)
    (hn : As.length = cnt) (hst : st = As.reverse ++ rest) (hcat : (rest.map fun v => v.category).sum ≤ 8) (hk : cells + k0 ≤ k) (hs : slots + n0 ≤ n) (hd : decode cc pc = .ok (.invokestatic index, 3))
    (kk : ∀ (v : Option Value) (S' : wPS), Post v S' → wkGo l X nL (cells + k0) (slots + n0) (pc + 3) S' lv (v.toList ++ rest)) : wkGo l X nL cells slots pc S lv st := by
  obtain ⟨p, e, R, s, m, args, below, meth, c, Q, D, A, cy, g⟩ := X
  intro H locs ls hP hD hS hl
  obtain ⟨⟨hx, hb, hml, hown, hts⟩, hK, hA, hNw, hG⟩ := C
  have hR : R = { frames := d, cells := k, slots := n, locals := 80 * d } := hR
  subst hR
  subst hst
  refine wk_back (as := As.toArray) hA hD hS hl (va_runS (As := As) (rest := rest) ⟨hx, hb, hml, hown, hts⟩ (hM D cy H.size) (va_cwS cnt hts hg hw rfl rfl hpl ⟨hd0, ?_⟩) ⟨wk_blind, fun U hU hW => ⟨rfl, by rw [hU], by rw [hU]; exact hP, va_K.moved hW.alike hK, hD.weaken (fun _ _ _ _ => trivial), wkNw.warm hW hNw, wkRo.call hG hS hD hW hU⟩⟩ rfl hn hl.1 rfl (lv_room hcat) hd ⟨hk, hs⟩) kk
  show 8 + (maxL + 11) + 80 * d0 ≤ 80 * d
  omega
set_option maxHeartbeats 1000000 in
theorem wk_callN (C : wkC X cc own nL Ts) {d k n : Nat} (hR : wkRm X d k n) {y : MethodName} {host : String} {bytes : ByteArray} {maxL d0 k0 n0 index cnt : Nat} {ret : Option FieldType} {ws ws' : List Cond} {As : List Value} {Post : Option Value → wPS → Prop}
    (hM : wkMet l (wkXg X) y ws d0 k0 n0 As S Post) (hw : ws = Cond.code y bytes maxL ret :: ws') (hg : GoodIn Ts ws) (hNst : (own, index, y, host) ∈ wkNs) (hsta : Cond.static y ∈ Ts) (hini : Cond.initialized y.cls ∈ Ts) (hd0 : d0 + 1 ≤ d) (hmax : maxL ≤ 60)
    (hpl : y.cls ≠ "java/lang/invoke/MethodHandle" ∧ y.cls ≠ "java/lang/invoke/VarHandle" ∧ (parseMethodDescriptor y.desc).map (fun d => d.parameters.length) = some cnt)
    (hn : As.length = cnt) (hst : st = As.reverse ++ rest) (hcat : (rest.map fun v => v.category).sum ≤ 8) (hk : cells + k0 ≤ k) (hs : slots + n0 ≤ n) (hd : decode cc pc = .ok (.invokestatic index, 3))
    (kk : ∀ (v : Option Value) (S' : wPS), Post v S' → wkGo l X nL (cells + k0) (slots + n0) (pc + 3) S' lv (v.toList ++ rest)) : wkGo l X nL cells slots pc S lv st := by
  obtain ⟨p, e, R, s, m, args, below, meth, c, Q, D, A, cy, g⟩ := X
  intro H locs ls hP hD hS hl
  obtain ⟨⟨hx, hb, hml, hown, hts⟩, hK, hA, hNw, hG⟩ := C
  have hR : R = { frames := d, cells := k, slots := n, locals := 80 * d } := hR
  subst hR
  subst hst
  refine wk_back (as := As.toArray) hA hD hS hl (va_runSN (As := As) (rest := rest) ⟨hx, hb, hml, hown, hts⟩ (hM D cy H.size) ⟨va_cnB cnt hts hg hw rfl rfl (hNw _ hNst) (hts _ hini) hpl ⟨hd0, ?_⟩, hts _ hsta, trivial⟩ ⟨wk_blind, fun U hU hW => ⟨rfl, by rw [hU], by rw [hU]; exact hP, va_K.moved hW.alike hK, hD.weaken (fun _ _ _ _ => trivial), wkNw.warm hW hNw, wkRo.call hG hS hD hW hU⟩⟩ rfl hn hl.1 rfl (lv_room hcat) hd ⟨hk, hs⟩) kk
  show 8 + (maxL + 11) + 80 * d0 ≤ 80 * d
  omega
end
