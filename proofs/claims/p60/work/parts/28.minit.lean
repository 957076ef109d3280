/-! A NEW BOOK: what its constructors make, by its own numbers. -/
section
def cDom (i : Nat) : Prop := mK i ≠ 99 ∨ mDy i
def cK (i : Nat) : Nat := if mK i = 99 then 13 else mK i
def cLen (i : Nat) : Nat := if mK i = 99 then (if i = 9 then 256 else 16) else mLen i
def cRef (i j : Nat) : Option Nat := if mK i = 9 then (if j = 0 then some (i + 1) else none) else if i = 0 ∧ j = 16 then some 9 else mR i j
def cRA (i k : Nat) : Option Nat := if i = 17 then (if k < 16 then some (1024 + 4 * k) else none) else mRA i k
def cF (i j : Nat) : Int32 := if mK i = 3 ∧ (j = 3 ∨ j = 5) then (-1 : Int32) else if mK i = 3 ∧ (j = 11 ∨ j = 15) then (110 : Int32) else 0
def mV0 : mV := (cF, fun _ _ => 0, fun _ _ => 0, fun _ _ => 0, fun k => 1024 + 4 * k)
def mLn0 (d : Nat) : Nat := if d = 9 then 256 else if d = 3000 then 0 else if d = 3001 then 2 else 16
def cOk (α : Nat → Nat) (S : wPS) (i : Nat) : Prop := (mK i < 12 → S.fI (α i) = cF i ∧ S.fJ (α i) = fun _ => 0) ∧ (12 ≤ cK i → S.len (α i) = cLen i ∧ (cK i ≤ 13 → S.rI (α i) = fun _ => 0) ∧ (cK i = 14 → S.rJ (α i) = fun _ => 0)) ∧ (∀ j t, cRef i j = some t → S.fA (α i) j = some (α t)) ∧ ∀ k t, cRA i k = some t → S.rA (α i) k = some (α t)
def pR (D C : Nat → Prop) (α : Nat → Nat) (S0 S : wPS) : Prop := mSame S0 S ∧ (∀ i, D i → α i ∈ S.L ∧ ¬ α i ∈ S0.L ∧ S.K (α i) = cK i) ∧ (∀ i j, D i → D j → α i = α j → i = j) ∧ (∀ a, a ∈ S.L → a ∈ S0.L ∨ ∃ i, D i ∧ a = α i) ∧ ∀ i, C i → D i ∧ cOk α S i ∧ (∀ j t, cRef i j = some t → D t) ∧ ∀ k t, cRA i k = some t → D t
/-- an object that is being made -/
def pRaw (D : Nat → Prop) (α : Nat → Nat) (S : wPS) (i : Nat) (f : Nat → Int32) (r : Nat → Option Nat) : Prop := S.fI (α i) = f ∧ S.fJ (α i) = (fun _ => 0) ∧ (∀ j, S.fA (α i) j = (r j).map α) ∧ ∀ j t, r j = some t → D t
/-- a row of references that is being filled -/
def pRow (D : Nat → Prop) (α : Nat → Nat) (S : wPS) (i n : Nat) (r : Nat → Option Nat) : Prop := S.len (α i) = n ∧ (∀ j, S.rA (α i) j = (r j).map α) ∧ ∀ j t, r j = some t → D t
/-- the others stay -/
def pS (D X : Nat → Prop) (α : Nat → Nat) (S : wPS) (α' : Nat → Nat) (S' : wPS) : Prop := ∀ x, D x → α' x = α x ∧ (¬ X x → S'.fI (α x) = S.fI (α x) ∧ S'.fJ (α x) = S.fJ (α x) ∧ S'.fA (α x) = S.fA (α x) ∧ S'.len (α x) = S.len (α x) ∧ S'.rI (α x) = S.rI (α x) ∧ S'.rJ (α x) = S.rJ (α x) ∧ S'.rA (α x) = S.rA (α x))
theorem pS.rf {D X : Nat → Prop} {α : Nat → Nat} {S : wPS} : pS D X α S α S := fun _ _ => ⟨rfl, fun _ => ⟨rfl, rfl, rfl, rfl, rfl, rfl, rfl⟩⟩
theorem pS.tr {D D' X X' Y : Nat → Prop} {α α1 α2 : Nat → Nat} {S S1 S2 : wPS} (h : pS D X α S α1 S1) (h2 : pS D' X' α1 S1 α2 S2) (hd : ∀ x, D x → D' x) (hx : ∀ x, X x → D x → Y x) (hx' : ∀ x, X' x → D x → Y x) : pS D Y α S α2 S2 := fun x hD => by
  obtain ⟨a1, a2⟩ := h x hD
  obtain ⟨b1, b2⟩ := h2 x (hd x hD)
  rw [a1] at b1 b2
  refine ⟨b1, fun hn => ?_⟩
  obtain ⟨c1, c2, c3, c4, c5, c6, c7⟩ := a2 (fun z => hn (hx x z hD))
  obtain ⟨e1, e2, e3, e4, e5, e6, e7⟩ := b2 (fun z => hn (hx' x z hD))
  exact ⟨e1.trans c1, e2.trans c2, e3.trans c3, e4.trans c4, e5.trans c5, e6.trans c6, e7.trans c7⟩
theorem pS.raw {D D' X : Nat → Prop} {α α' : Nat → Nat} {S S' : wPS} {i : Nat} {f : Nat → Int32} {r : Nat → Option Nat} (h : pS D X α S α' S') (W : pRaw D α S i f r) (hi : D i) (hx : ¬ X i) (hd : ∀ x, D x → D' x) : pRaw D' α' S' i f r := by
  obtain ⟨w1, w2, w3, w4⟩ := W
  obtain ⟨a1, a2⟩ := h i hi
  obtain ⟨b1, b2, b3, _⟩ := a2 hx
  refine ⟨by rw [a1, b1, w1], by rw [a1, b2, w2], fun j => ?_, fun j t ht => hd t (w4 j t ht)⟩
  rw [a1, b3, w3 j]
  cases hr : r j with
  | none => rfl
  | some t => exact congrArg some (h t (w4 j t hr)).1.symm
theorem pS.row {D D' X : Nat → Prop} {α α' : Nat → Nat} {S S' : wPS} {i n : Nat} {r : Nat → Option Nat} (h : pS D X α S α' S') (W : pRow D α S i n r) (hi : D i) (hx : ¬ X i) (hd : ∀ x, D x → D' x) : pRow D' α' S' i n r := by
  obtain ⟨w1, w3, w4⟩ := W
  obtain ⟨a1, a2⟩ := h i hi
  obtain ⟨_, _, _, b4, _, _, b7⟩ := a2 hx
  refine ⟨by rw [a1, b4, w1], fun j => ?_, fun j t ht => hd t (w4 j t ht)⟩
  rw [a1, b7, w3 j]
  cases hr : r j with
  | none => rfl
  | some t => exact congrArg some (h t (w4 j t hr)).1.symm
theorem pOk {D C : Nat → Prop} {α α' : Nat → Nat} {S S' : wPS} {X : Nat → Prop} (h : pS D X α S α' S') {i : Nat} (hi : D i) (hx : ¬ X i) (o : cOk α S i) (c1 : ∀ j t, cRef i j = some t → D t) (c2 : ∀ k t, cRA i k = some t → D t) : cOk α' S' i := by
  obtain ⟨o1, o2, o3, o4⟩ := o
  obtain ⟨a1, a2⟩ := h i hi
  obtain ⟨b1, b2, b3, b4, b5, b6, b7⟩ := a2 hx
  refine ⟨fun z => ?_, fun z => ⟨?_, fun y => ?_, fun y => ?_⟩, fun j t ht => ?_, fun k t ht => ?_⟩
  · rw [a1, b1, b2]
    exact o1 z
  · rw [a1, b4]
    exact (o2 z).1
  · rw [a1, b5]
    exact (o2 z).2.1 y
  · rw [a1, b6]
    exact (o2 z).2.2 y
  · rw [a1, b3, o3 j t ht, (h t (c1 j t ht)).1]
  · rw [a1, b7, o4 k t ht, (h t (c2 k t ht)).1]
/-- new cells -/
theorem pAdd {D C N : Nat → Prop} {α α' : Nat → Nat} {S0 S S' : wPS} (P : pR D C α S0 S) (hN : ∀ x, N x → ¬ D x) (hα : ∀ x, ¬ N x → α' x = α x) (hβ : ∀ x, N x → ¬ α' x ∈ S.L) (inj : ∀ x y, N x → N y → α' x = α' y → x = y) (eL : ∀ a, a ∈ S'.L ↔ a ∈ S.L ∨ ∃ x, N x ∧ a = α' x) (eK : ∀ x, N x → S'.K (α' x) = cK x) (e : mSame S S') : pR (fun x => D x ∨ N x) C α' S0 S' ∧ pS D (fun _ => False) α S α' S' := by
  obtain ⟨p1, p2, p3, p4, p5⟩ := P
  have ha : ∀ x, D x → α' x = α x := fun x hx => hα x (fun z => hN x z hx)
  have hs : pS D (fun _ => False) α S α' S' := fun x hx => ⟨ha x hx, fun _ => by
    obtain ⟨_, _, a3, a4, a5, a6, a7, a8, a9⟩ := e _ (p2 x hx).1
    exact ⟨a3, a4, a5, a6, a7, a8, a9⟩⟩
  refine ⟨⟨p1.tr e, fun i hi => ?_, fun i j hi hj q => ?_, fun a h => ?_, fun i hi => ?_⟩, hs⟩
  · rcases hi with hi | hi
    · rw [ha i hi]
      obtain ⟨a1, a2, _⟩ := e _ (p2 i hi).1
      exact ⟨a1, (p2 i hi).2.1, a2.trans (p2 i hi).2.2⟩
    · exact ⟨(eL _).mpr (Or.inr ⟨i, hi, rfl⟩), fun z => hβ i hi (p1 _ z).1, eK i hi⟩
  · rcases hi with hi | hi
    · rcases hj with hj | hj
      · rw [ha i hi, ha j hj] at q
        exact p3 i j hi hj q
      · rw [ha i hi] at q
        exact absurd (q ▸ (p2 i hi).1) (hβ j hj)
    · rcases hj with hj | hj
      · rw [ha j hj] at q
        exact absurd (q ▸ (p2 j hj).1) (hβ i hi)
      · exact inj i j hi hj q
  · rcases (eL a).mp h with h | ⟨x, hx, rfl⟩
    · rcases p4 a h with h | ⟨i, hi, rfl⟩
      · exact Or.inl h
      · exact Or.inr ⟨i, Or.inl hi, (ha i hi).symm⟩
    · exact Or.inr ⟨x, Or.inr hx, rfl⟩
  · obtain ⟨c1, c2, c3, c4⟩ := p5 i hi
    exact ⟨Or.inl c1, pOk (C := C) hs c1 (fun z => z) c2 c3 c4, fun j t ht => Or.inl (c3 j t ht), fun k t ht => Or.inl (c4 k t ht)⟩
/-- cells that are done -/
theorem pDone {D C N : Nat → Prop} {α : Nat → Nat} {S0 S : wPS} (P : pR D C α S0 S) (h : ∀ x, N x → D x ∧ cOk α S x ∧ (∀ j t, cRef x j = some t → D t) ∧ ∀ k t, cRA x k = some t → D t) : pR D (fun x => C x ∨ N x) α S0 S := ⟨P.1, P.2.1, P.2.2.1, P.2.2.2.1, fun i hi => by
  rcases hi with hi | hi
  · exact P.2.2.2.2 i hi
  · exact h i hi⟩
/-- a cell that isn't done yet is written to -/
theorem pUpd {D C : Nat → Prop} {α : Nat → Nat} {S0 S S' : wPS} {i : Nat} (P : pR D C α S0 S) (hi : D i) (hn : ¬ C i) (eL : S'.L = S.L) (eK : S'.K = S.K) (e : ∀ a, a ≠ α i → S'.fI a = S.fI a ∧ S'.fJ a = S.fJ a ∧ S'.fA a = S.fA a ∧ S'.len a = S.len a ∧ S'.rI a = S.rI a ∧ S'.rJ a = S.rJ a ∧ S'.rA a = S.rA a) : pR D C α S0 S' ∧ pS D (fun x => x = i) α S α S' := by
  obtain ⟨p1, p2, p3, p4, p5⟩ := P
  have hs : pS D (fun x => x = i) α S α S' := fun x hx => ⟨rfl, fun z => e _ (fun q => z (p3 x i hx hi q))⟩
  refine ⟨⟨fun a ha => ?_, fun x hx => ?_, p3, fun a h => p4 a (eL ▸ h), fun x hx => ?_⟩, hs⟩
  · obtain ⟨a1, a2, a3, a4, a5, a6, a7, a8, a9⟩ := p1 a ha
    have ne : a ≠ α i := fun z => (p2 i hi).2.1 (z ▸ ha)
    obtain ⟨b3, b4, b5, b6, b7, b8, b9⟩ := e a ne
    exact ⟨by rw [eL]; exact a1, by rw [eK]; exact a2, b3.trans a3, b4.trans a4, b5.trans a5, b6.trans a6, b7.trans a7, b8.trans a8, b9.trans a9⟩
  · rw [eL, eK]
    exact p2 x hx
  · obtain ⟨c1, c2, c3, c4⟩ := p5 x hx
    exact ⟨c1, pOk (C := C) hs c1 (fun (z : x = i) => hn (z ▸ hx)) c2 c3 c4, c3, c4⟩
end
