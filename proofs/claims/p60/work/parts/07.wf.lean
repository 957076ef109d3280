/-! WELL LAID POOLS: each field of an object that is a reference names an object of its kind; and the combinators of the laid functions. -/
section
def wkIs (S : wPS) (a k : Nat) : Prop := a ∈ S.L ∧ S.K a = k
def wkExt (S S' : wPS) : Prop := ∀ a k : Nat, wkIs S a k → wkIs S' a k
theorem wkExt.rf {S : wPS} : wkExt S S := fun _ _ h => h
theorem wkExt.tr {S S1 S2 : wPS} (h : wkExt S S1) (h2 : wkExt S1 S2) : wkExt S S2 := fun a k z => h2 a k (h a k z)
def wkAd (o : Option Nat) : Nat := o.getD 0
def wkLt {α : Type} (v : α) (f : α → Prop) : Prop := f v
theorem wkLt_some {α : Type} {v : α} {f : α → Prop} (h : wkLt v f) : ∃ x, x = v ∧ f x := ⟨v, rfl, h⟩
theorem wkOut {x : Int32} {lo hi : Int} (h : ∀ z : Int, lo ≤ z → z ≤ hi → x = Int32.ofInt z → False) : x.toInt < lo ∨ hi < x.toInt := by
  rcases Int.lt_or_le x.toInt lo with q | q
  · exact Or.inl q
  · rcases Int.lt_or_le hi x.toInt with q2 | q2
    · exact Or.inr q2
    · exact (h x.toInt q q2 (Int32.ofInt_toInt x).symm).elim
def wkLs : wkLv → wkLv → Prop
  | _, [] => True
  | [], none :: l => wkLs [] l
  | [], some _ :: _ => False
  | _ :: k, none :: l => wkLs k l
  | x :: k, some v :: l => x = some v ∧ wkLs k l
theorem wkLs.le : ∀ {k l : wkLv}, wkLs k l → wkLe k l
  | _, [], _, i, v, hv => by simp at hv
  | [], none :: l, h, i, v, hv => by
    match i, hv with
    | j + 1, hv => exact absurd (wkLs.le (k := []) (l := l) h j v hv) (by simp)
  | [], some _ :: _, h, _, _, _ => h.elim
  | x :: k, none :: l, h, i, v, hv => by
    match i, hv with
    | j + 1, hv => exact wkLs.le (k := k) (l := l) h j v hv
  | x :: k, some w :: l, h, i, v, hv => by
    match i, hv with
    | 0, hv => cases hv; exact congrArg some h.1
    | j + 1, hv => exact wkLs.le (k := k) (l := l) h.2 j v hv
theorem wkNarZ {x : Int32} (h : x = 0 ∨ x = 1) : narrow .boolean (.int x) = .int x := by rcases h with rfl | rfl <;> rfl
theorem wkFitZ {x : Int32} (h : x = 0 ∨ x = 1) : fits .boolean (.int x) = true := by rcases h with rfl | rfl <;> rfl
theorem wkNarC {x : Int32} (h : (x.toUInt32 % 65536).toInt32 = x) : narrow .char (.int x) = .int x := by
  have := pk_nc x
  rwa [h] at this
theorem wkFitC {x : Int32} (h : (x.toUInt32 % 65536).toInt32 = x) : fits .char (.int x) = true := by
  have := pk_fc x
  rwa [h] at this
variable {l : Launch} {X : wkX} {nL cells slots pc : Nat} {S : wPS} {lv : wkLv} {rest : List Value}
theorem wk_topi {x v : Int32} (e : x = v) (k : wkGo l X nL cells slots pc S lv (.int x :: rest)) : wkGo l X nL cells slots pc S lv (.int v :: rest) := e ▸ k
theorem wk_topl {x v : Int64} (e : x = v) (k : wkGo l X nL cells slots pc S lv (.long x :: rest)) : wkGo l X nL cells slots pc S lv (.long v :: rest) := e ▸ k
end
section
def wkWFr (L : List Nat) (K : Nat → Nat) (fA : Nat → Nat → Option Nat) (len : Nat → Nat) (rA : Nat → Nat → Option Nat) : Prop := (∀ a : Nat, a ∈ L ∧ K a = 0 → ∃ q : Nat, fA a 3 = some q ∧ q ∈ L ∧ K q = 9) ∧ (∀ a : Nat, a ∈ L ∧ K a = 1 → ∃ q : Nat, fA a 0 = some q ∧ q ∈ L ∧ K q = 13) ∧ (∀ a : Nat, a ∈ L ∧ K a = 1 → ∃ q : Nat, fA a 1 = some q ∧ q ∈ L ∧ K q = 13) ∧ (∀ a : Nat, a ∈ L ∧ K a = 2 → ∃ q : Nat, fA a 0 = some q ∧ q ∈ L ∧ K q = 13) ∧ (∀ a : Nat, a ∈ L ∧ K a = 2 → ∃ q : Nat, fA a 1 = some q ∧ q ∈ L ∧ K q = 13) ∧ (∀ a : Nat, a ∈ L ∧ K a = 2 → ∃ q : Nat, fA a 2 = some q ∧ q ∈ L ∧ K q = 13) ∧ (∀ a : Nat, a ∈ L ∧ K a = 2 → ∃ q : Nat, fA a 3 = some q ∧ q ∈ L ∧ K q = 13) ∧ (∀ a : Nat, a ∈ L ∧ K a = 2 → ∃ q : Nat, fA a 4 = some q ∧ q ∈ L ∧ K q = 13) ∧ (∀ a : Nat, a ∈ L ∧ K a = 2 → ∃ q : Nat, fA a 5 = some q ∧ q ∈ L ∧ K q = 13) ∧ (∀ a : Nat, a ∈ L ∧ K a = 2 → ∃ q : Nat, fA a 6 = some q ∧ q ∈ L ∧ K q = 13) ∧ (∀ a : Nat, a ∈ L ∧ K a = 2 → ∃ q : Nat, fA a 7 = some q ∧ q ∈ L ∧ K q = 13) ∧ (∀ a : Nat, a ∈ L ∧ K a = 3 → ∃ q : Nat, fA a 7 = some q ∧ q ∈ L ∧ K q = 13) ∧ (∀ a : Nat, a ∈ L ∧ K a = 3 → ∃ q : Nat, fA a 13 = some q ∧ q ∈ L ∧ K q = 9) ∧ (∀ a : Nat, a ∈ L ∧ K a = 3 → ∃ q : Nat, fA a 16 = some q ∧ q ∈ L ∧ K q = 9) ∧ (∀ a : Nat, a ∈ L ∧ K a = 4 → ∃ q : Nat, fA a 0 = some q ∧ q ∈ L ∧ K q = 7) ∧ (∀ a : Nat, a ∈ L ∧ K a = 4 → ∃ q : Nat, fA a 1 = some q ∧ q ∈ L ∧ K q = 2) ∧ (∀ a : Nat, a ∈ L ∧ K a = 4 → ∃ q : Nat, fA a 2 = some q ∧ q ∈ L ∧ K q = 5) ∧ (∀ a : Nat, a ∈ L ∧ K a = 4 → ∃ q : Nat, fA a 3 = some q ∧ q ∈ L ∧ K q = 1) ∧ (∀ a : Nat, a ∈ L ∧ K a = 4 → ∃ q : Nat, fA a 4 = some q ∧ q ∈ L ∧ K q = 8) ∧ (∀ a : Nat, a ∈ L ∧ K a = 4 → ∃ q : Nat, fA a 5 = some q ∧ q ∈ L ∧ K q = 10) ∧ (∀ a : Nat, a ∈ L ∧ K a = 4 → ∃ q : Nat, fA a 6 = some q ∧ q ∈ L ∧ K q = 6) ∧ (∀ a : Nat, a ∈ L ∧ K a = 4 → ∃ q : Nat, fA a 7 = some q ∧ q ∈ L ∧ K q = 13) ∧ (∀ a : Nat, a ∈ L ∧ K a = 5 → ∃ q : Nat, fA a 0 = some q ∧ q ∈ L ∧ K q = 18) ∧ (∀ a : Nat, a ∈ L ∧ K a = 5 → ∃ q : Nat, fA a 1 = some q ∧ q ∈ L ∧ K q = 13) ∧ (∀ a : Nat, a ∈ L ∧ K a = 5 → ∃ q : Nat, fA a 2 = some q ∧ q ∈ L ∧ K q = 13) ∧ (∀ a : Nat, a ∈ L ∧ K a = 6 → ∃ q : Nat, fA a 0 = some q ∧ q ∈ L ∧ K q = 13) ∧ (∀ a : Nat, a ∈ L ∧ K a = 6 → ∃ q : Nat, fA a 1 = some q ∧ q ∈ L ∧ K q = 13) ∧ (∀ a : Nat, a ∈ L ∧ K a = 6 → ∃ q : Nat, fA a 2 = some q ∧ q ∈ L ∧ K q = 13) ∧ (∀ a : Nat, a ∈ L ∧ K a = 6 → ∃ q : Nat, fA a 3 = some q ∧ q ∈ L ∧ K q = 13) ∧ (∀ a : Nat, a ∈ L ∧ K a = 6 → ∃ q : Nat, fA a 4 = some q ∧ q ∈ L ∧ K q = 13) ∧ (∀ a : Nat, a ∈ L ∧ K a = 6 → ∃ q : Nat, fA a 5 = some q ∧ q ∈ L ∧ K q = 13) ∧ (∀ a : Nat, a ∈ L ∧ K a = 6 → ∃ q : Nat, fA a 6 = some q ∧ q ∈ L ∧ K q = 13) ∧ (∀ a : Nat, a ∈ L ∧ K a = 7 → ∃ q : Nat, fA a 0 = some q ∧ q ∈ L ∧ K q = 13) ∧ (∀ a : Nat, a ∈ L ∧ K a = 7 → ∃ q : Nat, fA a 1 = some q ∧ q ∈ L ∧ K q = 13) ∧ (∀ a : Nat, a ∈ L ∧ K a = 7 → ∃ q : Nat, fA a 2 = some q ∧ q ∈ L ∧ K q = 13) ∧ (∀ a : Nat, a ∈ L ∧ K a = 7 → ∃ q : Nat, fA a 3 = some q ∧ q ∈ L ∧ K q = 13) ∧ (∀ a : Nat, a ∈ L ∧ K a = 7 → ∃ q : Nat, fA a 4 = some q ∧ q ∈ L ∧ K q = 13) ∧ (∀ a : Nat, a ∈ L ∧ K a = 7 → ∃ q : Nat, fA a 5 = some q ∧ q ∈ L ∧ K q = 13) ∧ (∀ a : Nat, a ∈ L ∧ K a = 7 → ∃ q : Nat, fA a 6 = some q ∧ q ∈ L ∧ K q = 13) ∧ (∀ a : Nat, a ∈ L ∧ K a = 7 → ∃ q : Nat, fA a 7 = some q ∧ q ∈ L ∧ K q = 13) ∧ (∀ a : Nat, a ∈ L ∧ K a = 8 → ∃ q : Nat, fA a 0 = some q ∧ q ∈ L ∧ K q = 14) ∧ (∀ a : Nat, a ∈ L ∧ K a = 8 → ∃ q : Nat, fA a 1 = some q ∧ q ∈ L ∧ K q = 18) ∧ (∀ a : Nat, a ∈ L ∧ K a = 8 → ∃ q : Nat, fA a 2 = some q ∧ q ∈ L ∧ K q = 14) ∧ (∀ a : Nat, a ∈ L ∧ K a = 8 → ∃ q : Nat, fA a 4 = some q ∧ q ∈ L ∧ K q = 18) ∧ (∀ a : Nat, a ∈ L ∧ K a = 8 → ∃ q : Nat, fA a 5 = some q ∧ q ∈ L ∧ K q = 13) ∧ (∀ a : Nat, a ∈ L ∧ K a = 8 → ∃ q : Nat, fA a 6 = some q ∧ q ∈ L ∧ K q = 14) ∧ (∀ a : Nat, a ∈ L ∧ K a = 8 → ∃ q : Nat, fA a 7 = some q ∧ q ∈ L ∧ K q = 14) ∧ (∀ a : Nat, a ∈ L ∧ K a = 9 → ∃ q : Nat, fA a 0 = some q ∧ q ∈ L ∧ K q = 13) ∧ (∀ a : Nat, a ∈ L ∧ K a = 10 → ∃ q : Nat, fA a 0 = some q ∧ q ∈ L ∧ K q = 17) ∧ (∀ a : Nat, a ∈ L ∧ K a = 10 → ∃ q : Nat, fA a 1 = some q ∧ q ∈ L ∧ K q = 13) ∧ (∀ a : Nat, a ∈ L ∧ K a = 10 → ∃ q : Nat, fA a 2 = some q ∧ q ∈ L ∧ K q = 13) ∧ (∀ a : Nat, a ∈ L ∧ K a = 10 → ∃ q : Nat, fA a 3 = some q ∧ q ∈ L ∧ K q = 13) ∧ (∀ a : Nat, a ∈ L ∧ K a = 10 → ∃ q : Nat, fA a 4 = some q ∧ q ∈ L ∧ K q = 13) ∧ (∀ a : Nat, a ∈ L ∧ K a = 10 → ∃ q : Nat, fA a 5 = some q ∧ q ∈ L ∧ K q = 13) ∧ (∀ a : Nat, a ∈ L ∧ K a = 10 → ∃ q : Nat, fA a 6 = some q ∧ q ∈ L ∧ K q = 13) ∧ (∀ a : Nat, a ∈ L ∧ K a = 10 → ∃ q : Nat, fA a 7 = some q ∧ q ∈ L ∧ K q = 13) ∧ (∀ a : Nat, a ∈ L ∧ K a = 10 → ∃ q : Nat, fA a 8 = some q ∧ q ∈ L ∧ K q = 13) ∧ (∀ a : Nat, a ∈ L ∧ K a = 11 → ∃ q : Nat, fA a 0 = some q ∧ q ∈ L ∧ K q = 4) ∧ (∀ a : Nat, a ∈ L ∧ K a = 11 → ∃ q : Nat, fA a 1 = some q ∧ q ∈ L ∧ K q = 16) ∧ (∀ a : Nat, a ∈ L ∧ K a = 11 → ∃ q : Nat, fA a 3 = some q ∧ q ∈ L ∧ K q = 13) ∧ (∀ a : Nat, a ∈ L ∧ K a = 11 → ∃ q : Nat, fA a 4 = some q ∧ q ∈ L ∧ K q = 13) ∧ (∀ a : Nat, a ∈ L ∧ K a = 11 → ∃ q : Nat, fA a 5 = some q ∧ q ∈ L ∧ K q = 3) ∧ (∀ a : Nat, a ∈ L ∧ K a = 11 → ∃ q : Nat, fA a 6 = some q ∧ q ∈ L ∧ K q = 16) ∧ (∀ a : Nat, a ∈ L ∧ K a = 11 → ∃ q : Nat, fA a 7 = some q ∧ q ∈ L ∧ K q = 12) ∧ (∀ a : Nat, a ∈ L ∧ K a = 11 → ∃ q : Nat, fA a 8 = some q ∧ q ∈ L ∧ K q = 13) ∧ (∀ a : Nat, a ∈ L ∧ K a = 11 → ∃ q : Nat, fA a 11 = some q ∧ q ∈ L ∧ K q = 9) ∧ (∀ a : Nat, a ∈ L ∧ K a = 11 → ∃ q : Nat, fA a 12 = some q ∧ q ∈ L ∧ K q = 13) ∧ (∀ a : Nat, a ∈ L ∧ K a = 11 → ∃ q : Nat, fA a 14 = some q ∧ q ∈ L ∧ K q = 15) ∧ (∀ a : Nat, a ∈ L ∧ K a = 11 → ∃ q : Nat, fA a 16 = some q ∧ q ∈ L ∧ K q = 13) ∧ (∀ a i : Nat, a ∈ L ∧ K a = 15 → i < len a → ∃ q : Nat, rA a i = some q ∧ q ∈ L ∧ K q = 0) ∧ (∀ a i : Nat, a ∈ L ∧ K a = 16 → i < len a → ∃ q : Nat, rA a i = some q ∧ q ∈ L ∧ K q = 3) ∧ (∀ a i : Nat, a ∈ L ∧ K a = 17 → i < len a → ∃ q : Nat, rA a i = some q ∧ q ∈ L ∧ K q = 13) ∧ (∀ a i : Nat, a ∈ L ∧ K a = 18 → i < len a → ∃ q : Nat, rA a i = some q ∧ q ∈ L ∧ K q = 14)
def wkWF (S : wPS) : Prop := wkWFr S.L S.K S.fA S.len S.rA
theorem wf_Claim_row {S : wPS} {a : Nat} (hW : wkWF S) (ha : wkIs S a 0) : gClaim_row S a = some (wkAd (gClaim_row S a)) ∧ wkIs S (wkAd (gClaim_row S a)) 9 := by
  have h : wkWFr S.L S.K S.fA S.len S.rA := hW
  obtain ⟨q, h1, h2⟩ := h.1 a ha
  have e : gClaim_row S a = some q := h1
  rw [e]
  exact ⟨rfl, h2⟩
theorem wf_Clauses_stack {S : wPS} {a : Nat} (hW : wkWF S) (ha : wkIs S a 1) : gClauses_stack S a = some (wkAd (gClauses_stack S a)) ∧ wkIs S (wkAd (gClauses_stack S a)) 13 := by
  have h : wkWFr S.L S.K S.fA S.len S.rA := hW
  obtain ⟨q, h1, h2⟩ := h.2.1 a ha
  have e : gClauses_stack S a = some q := h1
  rw [e]
  exact ⟨rfl, h2⟩
theorem wf_Clauses_codes {S : wPS} {a : Nat} (hW : wkWF S) (ha : wkIs S a 1) : gClauses_codes S a = some (wkAd (gClauses_codes S a)) ∧ wkIs S (wkAd (gClauses_codes S a)) 13 := by
  have h : wkWFr S.L S.K S.fA S.len S.rA := hW
  obtain ⟨q, h1, h2⟩ := h.2.2.1 a ha
  have e : gClauses_codes S a = some q := h1
  rw [e]
  exact ⟨rfl, h2⟩
theorem wf_Drawings_near {S : wPS} {a : Nat} (hW : wkWF S) (ha : wkIs S a 2) : gDrawings_near S a = some (wkAd (gDrawings_near S a)) ∧ wkIs S (wkAd (gDrawings_near S a)) 13 := by
  have h : wkWFr S.L S.K S.fA S.len S.rA := hW
  obtain ⟨q, h1, h2⟩ := h.2.2.2.1 a ha
  have e : gDrawings_near S a = some q := h1
  rw [e]
  exact ⟨rfl, h2⟩
theorem wf_Drawings_used {S : wPS} {a : Nat} (hW : wkWF S) (ha : wkIs S a 2) : gDrawings_used S a = some (wkAd (gDrawings_used S a)) ∧ wkIs S (wkAd (gDrawings_used S a)) 13 := by
  have h : wkWFr S.L S.K S.fA S.len S.rA := hW
  obtain ⟨q, h1, h2⟩ := h.2.2.2.2.1 a ha
  have e : gDrawings_used S a = some q := h1
  rw [e]
  exact ⟨rfl, h2⟩
theorem wf_Drawings_firstPlace {S : wPS} {a : Nat} (hW : wkWF S) (ha : wkIs S a 2) : gDrawings_firstPlace S a = some (wkAd (gDrawings_firstPlace S a)) ∧ wkIs S (wkAd (gDrawings_firstPlace S a)) 13 := by
  have h : wkWFr S.L S.K S.fA S.len S.rA := hW
  obtain ⟨q, h1, h2⟩ := h.2.2.2.2.2.1 a ha
  have e : gDrawings_firstPlace S a = some q := h1
  rw [e]
  exact ⟨rfl, h2⟩
theorem wf_Drawings_owner {S : wPS} {a : Nat} (hW : wkWF S) (ha : wkIs S a 2) : gDrawings_owner S a = some (wkAd (gDrawings_owner S a)) ∧ wkIs S (wkAd (gDrawings_owner S a)) 13 := by
  have h : wkWFr S.L S.K S.fA S.len S.rA := hW
  obtain ⟨q, h1, h2⟩ := h.2.2.2.2.2.2.1 a ha
  have e : gDrawings_owner S a = some q := h1
  rw [e]
  exact ⟨rfl, h2⟩
theorem wf_Drawings_ring {S : wPS} {a : Nat} (hW : wkWF S) (ha : wkIs S a 2) : gDrawings_ring S a = some (wkAd (gDrawings_ring S a)) ∧ wkIs S (wkAd (gDrawings_ring S a)) 13 := by
  have h : wkWFr S.L S.K S.fA S.len S.rA := hW
  obtain ⟨q, h1, h2⟩ := h.2.2.2.2.2.2.2.1 a ha
  have e : gDrawings_ring S a = some q := h1
  rw [e]
  exact ⟨rfl, h2⟩
theorem wf_Drawings_spot {S : wPS} {a : Nat} (hW : wkWF S) (ha : wkIs S a 2) : gDrawings_spot S a = some (wkAd (gDrawings_spot S a)) ∧ wkIs S (wkAd (gDrawings_spot S a)) 13 := by
  have h : wkWFr S.L S.K S.fA S.len S.rA := hW
  obtain ⟨q, h1, h2⟩ := h.2.2.2.2.2.2.2.2.1 a ha
  have e : gDrawings_spot S a = some q := h1
  rw [e]
  exact ⟨rfl, h2⟩
theorem wf_Drawings_walksDue {S : wPS} {a : Nat} (hW : wkWF S) (ha : wkIs S a 2) : gDrawings_walksDue S a = some (wkAd (gDrawings_walksDue S a)) ∧ wkIs S (wkAd (gDrawings_walksDue S a)) 13 := by
  have h : wkWFr S.L S.K S.fA S.len S.rA := hW
  obtain ⟨q, h1, h2⟩ := h.2.2.2.2.2.2.2.2.2.1 a ha
  have e : gDrawings_walksDue S a = some q := h1
  rw [e]
  exact ⟨rfl, h2⟩
theorem wf_Drawings_ways {S : wPS} {a : Nat} (hW : wkWF S) (ha : wkIs S a 2) : gDrawings_ways S a = some (wkAd (gDrawings_ways S a)) ∧ wkIs S (wkAd (gDrawings_ways S a)) 13 := by
  have h : wkWFr S.L S.K S.fA S.len S.rA := hW
  obtain ⟨q, h1, h2⟩ := h.2.2.2.2.2.2.2.2.2.2.1 a ha
  have e : gDrawings_ways S a = some q := h1
  rw [e]
  exact ⟨rfl, h2⟩
theorem wf_Entry_numbers {S : wPS} {a : Nat} (hW : wkWF S) (ha : wkIs S a 3) : gEntry_numbers S a = some (wkAd (gEntry_numbers S a)) ∧ wkIs S (wkAd (gEntry_numbers S a)) 13 := by
  have h : wkWFr S.L S.K S.fA S.len S.rA := hW
  obtain ⟨q, h1, h2⟩ := h.2.2.2.2.2.2.2.2.2.2.2.1 a ha
  have e : gEntry_numbers S a = some q := h1
  rw [e]
  exact ⟨rfl, h2⟩
theorem wf_Entry_row {S : wPS} {a : Nat} (hW : wkWF S) (ha : wkIs S a 3) : gEntry_row S a = some (wkAd (gEntry_row S a)) ∧ wkIs S (wkAd (gEntry_row S a)) 9 := by
  have h : wkWFr S.L S.K S.fA S.len S.rA := hW
  obtain ⟨q, h1, h2⟩ := h.2.2.2.2.2.2.2.2.2.2.2.2.1 a ha
  have e : gEntry_row S a = some q := h1
  rw [e]
  exact ⟨rfl, h2⟩
theorem wf_Entry_settledRow {S : wPS} {a : Nat} (hW : wkWF S) (ha : wkIs S a 3) : gEntry_settledRow S a = some (wkAd (gEntry_settledRow S a)) ∧ wkIs S (wkAd (gEntry_settledRow S a)) 9 := by
  have h : wkWFr S.L S.K S.fA S.len S.rA := hW
  obtain ⟨q, h1, h2⟩ := h.2.2.2.2.2.2.2.2.2.2.2.2.2.1 a ha
  have e : gEntry_settledRow S a = some q := h1
  rw [e]
  exact ⟨rfl, h2⟩
theorem wf_House_networks {S : wPS} {a : Nat} (hW : wkWF S) (ha : wkIs S a 4) : gHouse_networks S a = some (wkAd (gHouse_networks S a)) ∧ wkIs S (wkAd (gHouse_networks S a)) 7 := by
  have h : wkWFr S.L S.K S.fA S.len S.rA := hW
  obtain ⟨q, h1, h2⟩ := h.2.2.2.2.2.2.2.2.2.2.2.2.2.2.1 a ha
  have e : gHouse_networks S a = some q := h1
  rw [e]
  exact ⟨rfl, h2⟩
theorem wf_House_drawings {S : wPS} {a : Nat} (hW : wkWF S) (ha : wkIs S a 4) : gHouse_drawings S a = some (wkAd (gHouse_drawings S a)) ∧ wkIs S (wkAd (gHouse_drawings S a)) 2 := by
  have h : wkWFr S.L S.K S.fA S.len S.rA := hW
  obtain ⟨q, h1, h2⟩ := h.2.2.2.2.2.2.2.2.2.2.2.2.2.2.2.1 a ha
  have e : gHouse_drawings S a = some q := h1
  rw [e]
  exact ⟨rfl, h2⟩
theorem wf_House_inequalities {S : wPS} {a : Nat} (hW : wkWF S) (ha : wkIs S a 4) : gHouse_inequalities S a = some (wkAd (gHouse_inequalities S a)) ∧ wkIs S (wkAd (gHouse_inequalities S a)) 5 := by
  have h : wkWFr S.L S.K S.fA S.len S.rA := hW
  obtain ⟨q, h1, h2⟩ := h.2.2.2.2.2.2.2.2.2.2.2.2.2.2.2.2.1 a ha
  have e : gHouse_inequalities S a = some q := h1
  rw [e]
  exact ⟨rfl, h2⟩
theorem wf_House_clauses {S : wPS} {a : Nat} (hW : wkWF S) (ha : wkIs S a 4) : gHouse_clauses S a = some (wkAd (gHouse_clauses S a)) ∧ wkIs S (wkAd (gHouse_clauses S a)) 1 := by
  have h : wkWFr S.L S.K S.fA S.len S.rA := hW
  obtain ⟨q, h1, h2⟩ := h.2.2.2.2.2.2.2.2.2.2.2.2.2.2.2.2.2.1 a ha
  have e : gHouse_clauses S a = some q := h1
  rw [e]
  exact ⟨rfl, h2⟩
theorem wf_House_numbers {S : wPS} {a : Nat} (hW : wkWF S) (ha : wkIs S a 4) : gHouse_numbers S a = some (wkAd (gHouse_numbers S a)) ∧ wkIs S (wkAd (gHouse_numbers S a)) 8 := by
  have h : wkWFr S.L S.K S.fA S.len S.rA := hW
  obtain ⟨q, h1, h2⟩ := h.2.2.2.2.2.2.2.2.2.2.2.2.2.2.2.2.2.2.1 a ha
  have e : gHouse_numbers S a = some q := h1
  rw [e]
  exact ⟨rfl, h2⟩
theorem wf_House_words {S : wPS} {a : Nat} (hW : wkWF S) (ha : wkIs S a 4) : gHouse_words S a = some (wkAd (gHouse_words S a)) ∧ wkIs S (wkAd (gHouse_words S a)) 10 := by
  have h : wkWFr S.L S.K S.fA S.len S.rA := hW
  obtain ⟨q, h1, h2⟩ := h.2.2.2.2.2.2.2.2.2.2.2.2.2.2.2.2.2.2.2.1 a ha
  have e : gHouse_words S a = some q := h1
  rw [e]
  exact ⟨rfl, h2⟩
theorem wf_House_machines {S : wPS} {a : Nat} (hW : wkWF S) (ha : wkIs S a 4) : gHouse_machines S a = some (wkAd (gHouse_machines S a)) ∧ wkIs S (wkAd (gHouse_machines S a)) 6 := by
  have h : wkWFr S.L S.K S.fA S.len S.rA := hW
  obtain ⟨q, h1, h2⟩ := h.2.2.2.2.2.2.2.2.2.2.2.2.2.2.2.2.2.2.2.2.1 a ha
  have e : gHouse_machines S a = some q := h1
  rw [e]
  exact ⟨rfl, h2⟩
theorem wf_House_near {S : wPS} {a : Nat} (hW : wkWF S) (ha : wkIs S a 4) : gHouse_near S a = some (wkAd (gHouse_near S a)) ∧ wkIs S (wkAd (gHouse_near S a)) 13 := by
  have h : wkWFr S.L S.K S.fA S.len S.rA := hW
  obtain ⟨q, h1, h2⟩ := h.2.2.2.2.2.2.2.2.2.2.2.2.2.2.2.2.2.2.2.2.2.1 a ha
  have e : gHouse_near S a = some q := h1
  rw [e]
  exact ⟨rfl, h2⟩
theorem wf_Inequalities_table {S : wPS} {a : Nat} (hW : wkWF S) (ha : wkIs S a 5) : gInequalities_table S a = some (wkAd (gInequalities_table S a)) ∧ wkIs S (wkAd (gInequalities_table S a)) 18 := by
  have h : wkWFr S.L S.K S.fA S.len S.rA := hW
  obtain ⟨q, h1, h2⟩ := h.2.2.2.2.2.2.2.2.2.2.2.2.2.2.2.2.2.2.2.2.2.2.1 a ha
  have e : gInequalities_table S a = some q := h1
  rw [e]
  exact ⟨rfl, h2⟩
theorem wf_Inequalities_rowLabels {S : wPS} {a : Nat} (hW : wkWF S) (ha : wkIs S a 5) : gInequalities_rowLabels S a = some (wkAd (gInequalities_rowLabels S a)) ∧ wkIs S (wkAd (gInequalities_rowLabels S a)) 13 := by
  have h : wkWFr S.L S.K S.fA S.len S.rA := hW
  obtain ⟨q, h1, h2⟩ := h.2.2.2.2.2.2.2.2.2.2.2.2.2.2.2.2.2.2.2.2.2.2.2.1 a ha
  have e : gInequalities_rowLabels S a = some q := h1
  rw [e]
  exact ⟨rfl, h2⟩
theorem wf_Inequalities_columnLabels {S : wPS} {a : Nat} (hW : wkWF S) (ha : wkIs S a 5) : gInequalities_columnLabels S a = some (wkAd (gInequalities_columnLabels S a)) ∧ wkIs S (wkAd (gInequalities_columnLabels S a)) 13 := by
  have h : wkWFr S.L S.K S.fA S.len S.rA := hW
  obtain ⟨q, h1, h2⟩ := h.2.2.2.2.2.2.2.2.2.2.2.2.2.2.2.2.2.2.2.2.2.2.2.2.1 a ha
  have e : gInequalities_columnLabels S a = some q := h1
  rw [e]
  exact ⟨rfl, h2⟩
theorem wf_Machines_byZero {S : wPS} {a : Nat} (hW : wkWF S) (ha : wkIs S a 6) : gMachines_byZero S a = some (wkAd (gMachines_byZero S a)) ∧ wkIs S (wkAd (gMachines_byZero S a)) 13 := by
  have h : wkWFr S.L S.K S.fA S.len S.rA := hW
  obtain ⟨q, h1, h2⟩ := h.2.2.2.2.2.2.2.2.2.2.2.2.2.2.2.2.2.2.2.2.2.2.2.2.2.1 a ha
  have e : gMachines_byZero S a = some q := h1
  rw [e]
  exact ⟨rfl, h2⟩
theorem wf_Machines_byOne {S : wPS} {a : Nat} (hW : wkWF S) (ha : wkIs S a 6) : gMachines_byOne S a = some (wkAd (gMachines_byOne S a)) ∧ wkIs S (wkAd (gMachines_byOne S a)) 13 := by
  have h : wkWFr S.L S.K S.fA S.len S.rA := hW
  obtain ⟨q, h1, h2⟩ := h.2.2.2.2.2.2.2.2.2.2.2.2.2.2.2.2.2.2.2.2.2.2.2.2.2.2.1 a ha
  have e : gMachines_byOne S a = some q := h1
  rw [e]
  exact ⟨rfl, h2⟩
theorem wf_Machines_finals {S : wPS} {a : Nat} (hW : wkWF S) (ha : wkIs S a 6) : gMachines_finals S a = some (wkAd (gMachines_finals S a)) ∧ wkIs S (wkAd (gMachines_finals S a)) 13 := by
  have h : wkWFr S.L S.K S.fA S.len S.rA := hW
  obtain ⟨q, h1, h2⟩ := h.2.2.2.2.2.2.2.2.2.2.2.2.2.2.2.2.2.2.2.2.2.2.2.2.2.2.2.1 a ha
  have e : gMachines_finals S a = some q := h1
  rw [e]
  exact ⟨rfl, h2⟩
theorem wf_Machines_letters {S : wPS} {a : Nat} (hW : wkWF S) (ha : wkIs S a 6) : gMachines_letters S a = some (wkAd (gMachines_letters S a)) ∧ wkIs S (wkAd (gMachines_letters S a)) 13 := by
  have h : wkWFr S.L S.K S.fA S.len S.rA := hW
  obtain ⟨q, h1, h2⟩ := h.2.2.2.2.2.2.2.2.2.2.2.2.2.2.2.2.2.2.2.2.2.2.2.2.2.2.2.2.1 a ha
  have e : gMachines_letters S a = some q := h1
  rw [e]
  exact ⟨rfl, h2⟩
theorem wf_Machines_owners {S : wPS} {a : Nat} (hW : wkWF S) (ha : wkIs S a 6) : gMachines_owners S a = some (wkAd (gMachines_owners S a)) ∧ wkIs S (wkAd (gMachines_owners S a)) 13 := by
  have h : wkWFr S.L S.K S.fA S.len S.rA := hW
  obtain ⟨q, h1, h2⟩ := h.2.2.2.2.2.2.2.2.2.2.2.2.2.2.2.2.2.2.2.2.2.2.2.2.2.2.2.2.2.1 a ha
  have e : gMachines_owners S a = some q := h1
  rw [e]
  exact ⟨rfl, h2⟩
theorem wf_Machines_weights {S : wPS} {a : Nat} (hW : wkWF S) (ha : wkIs S a 6) : gMachines_weights S a = some (wkAd (gMachines_weights S a)) ∧ wkIs S (wkAd (gMachines_weights S a)) 13 := by
  have h : wkWFr S.L S.K S.fA S.len S.rA := hW
  obtain ⟨q, h1, h2⟩ := h.2.2.2.2.2.2.2.2.2.2.2.2.2.2.2.2.2.2.2.2.2.2.2.2.2.2.2.2.2.2.1 a ha
  have e : gMachines_weights S a = some q := h1
  rw [e]
  exact ⟨rfl, h2⟩
theorem wf_Machines_ways {S : wPS} {a : Nat} (hW : wkWF S) (ha : wkIs S a 6) : gMachines_ways S a = some (wkAd (gMachines_ways S a)) ∧ wkIs S (wkAd (gMachines_ways S a)) 13 := by
  have h : wkWFr S.L S.K S.fA S.len S.rA := hW
  obtain ⟨q, h1, h2⟩ := h.2.2.2.2.2.2.2.2.2.2.2.2.2.2.2.2.2.2.2.2.2.2.2.2.2.2.2.2.2.2.2.1 a ha
  have e : gMachines_ways S a = some q := h1
  rw [e]
  exact ⟨rfl, h2⟩
theorem wf_Networks_near {S : wPS} {a : Nat} (hW : wkWF S) (ha : wkIs S a 7) : gNetworks_near S a = some (wkAd (gNetworks_near S a)) ∧ wkIs S (wkAd (gNetworks_near S a)) 13 := by
  have h : wkWFr S.L S.K S.fA S.len S.rA := hW
  obtain ⟨q, h1, h2⟩ := h.2.2.2.2.2.2.2.2.2.2.2.2.2.2.2.2.2.2.2.2.2.2.2.2.2.2.2.2.2.2.2.2.1 a ha
  have e : gNetworks_near S a = some q := h1
  rw [e]
  exact ⟨rfl, h2⟩
theorem wf_Networks_best {S : wPS} {a : Nat} (hW : wkWF S) (ha : wkIs S a 7) : gNetworks_best S a = some (wkAd (gNetworks_best S a)) ∧ wkIs S (wkAd (gNetworks_best S a)) 13 := by
  have h : wkWFr S.L S.K S.fA S.len S.rA := hW
  obtain ⟨q, h1, h2⟩ := h.2.2.2.2.2.2.2.2.2.2.2.2.2.2.2.2.2.2.2.2.2.2.2.2.2.2.2.2.2.2.2.2.2.1 a ha
  have e : gNetworks_best S a = some q := h1
  rw [e]
  exact ⟨rfl, h2⟩
theorem wf_Networks_from {S : wPS} {a : Nat} (hW : wkWF S) (ha : wkIs S a 7) : gNetworks_from S a = some (wkAd (gNetworks_from S a)) ∧ wkIs S (wkAd (gNetworks_from S a)) 13 := by
  have h : wkWFr S.L S.K S.fA S.len S.rA := hW
  obtain ⟨q, h1, h2⟩ := h.2.2.2.2.2.2.2.2.2.2.2.2.2.2.2.2.2.2.2.2.2.2.2.2.2.2.2.2.2.2.2.2.2.2.1 a ha
  have e : gNetworks_from S a = some q := h1
  rw [e]
  exact ⟨rfl, h2⟩
theorem wf_Networks_to {S : wPS} {a : Nat} (hW : wkWF S) (ha : wkIs S a 7) : gNetworks_to S a = some (wkAd (gNetworks_to S a)) ∧ wkIs S (wkAd (gNetworks_to S a)) 13 := by
  have h : wkWFr S.L S.K S.fA S.len S.rA := hW
  obtain ⟨q, h1, h2⟩ := h.2.2.2.2.2.2.2.2.2.2.2.2.2.2.2.2.2.2.2.2.2.2.2.2.2.2.2.2.2.2.2.2.2.2.2.1 a ha
  have e : gNetworks_to S a = some q := h1
  rw [e]
  exact ⟨rfl, h2⟩
theorem wf_Networks_caps {S : wPS} {a : Nat} (hW : wkWF S) (ha : wkIs S a 7) : gNetworks_caps S a = some (wkAd (gNetworks_caps S a)) ∧ wkIs S (wkAd (gNetworks_caps S a)) 13 := by
  have h : wkWFr S.L S.K S.fA S.len S.rA := hW
  obtain ⟨q, h1, h2⟩ := h.2.2.2.2.2.2.2.2.2.2.2.2.2.2.2.2.2.2.2.2.2.2.2.2.2.2.2.2.2.2.2.2.2.2.2.2.1 a ha
  have e : gNetworks_caps S a = some q := h1
  rw [e]
  exact ⟨rfl, h2⟩
theorem wf_Networks_flow {S : wPS} {a : Nat} (hW : wkWF S) (ha : wkIs S a 7) : gNetworks_flow S a = some (wkAd (gNetworks_flow S a)) ∧ wkIs S (wkAd (gNetworks_flow S a)) 13 := by
  have h : wkWFr S.L S.K S.fA S.len S.rA := hW
  obtain ⟨q, h1, h2⟩ := h.2.2.2.2.2.2.2.2.2.2.2.2.2.2.2.2.2.2.2.2.2.2.2.2.2.2.2.2.2.2.2.2.2.2.2.2.2.1 a ha
  have e : gNetworks_flow S a = some q := h1
  rw [e]
  exact ⟨rfl, h2⟩
theorem wf_Networks_via {S : wPS} {a : Nat} (hW : wkWF S) (ha : wkIs S a 7) : gNetworks_via S a = some (wkAd (gNetworks_via S a)) ∧ wkIs S (wkAd (gNetworks_via S a)) 13 := by
  have h : wkWFr S.L S.K S.fA S.len S.rA := hW
  obtain ⟨q, h1, h2⟩ := h.2.2.2.2.2.2.2.2.2.2.2.2.2.2.2.2.2.2.2.2.2.2.2.2.2.2.2.2.2.2.2.2.2.2.2.2.2.2.1 a ha
  have e : gNetworks_via S a = some q := h1
  rw [e]
  exact ⟨rfl, h2⟩
theorem wf_Networks_excess {S : wPS} {a : Nat} (hW : wkWF S) (ha : wkIs S a 7) : gNetworks_excess S a = some (wkAd (gNetworks_excess S a)) ∧ wkIs S (wkAd (gNetworks_excess S a)) 13 := by
  have h : wkWFr S.L S.K S.fA S.len S.rA := hW
  obtain ⟨q, h1, h2⟩ := h.2.2.2.2.2.2.2.2.2.2.2.2.2.2.2.2.2.2.2.2.2.2.2.2.2.2.2.2.2.2.2.2.2.2.2.2.2.2.2.1 a ha
  have e : gNetworks_excess S a = some q := h1
  rw [e]
  exact ⟨rfl, h2⟩
theorem wf_Numbers_point {S : wPS} {a : Nat} (hW : wkWF S) (ha : wkIs S a 8) : gNumbers_point S a = some (wkAd (gNumbers_point S a)) ∧ wkIs S (wkAd (gNumbers_point S a)) 14 := by
  have h : wkWFr S.L S.K S.fA S.len S.rA := hW
  obtain ⟨q, h1, h2⟩ := h.2.2.2.2.2.2.2.2.2.2.2.2.2.2.2.2.2.2.2.2.2.2.2.2.2.2.2.2.2.2.2.2.2.2.2.2.2.2.2.2.1 a ha
  have e : gNumbers_point S a = some q := h1
  rw [e]
  exact ⟨rfl, h2⟩
theorem wf_Numbers_basis {S : wPS} {a : Nat} (hW : wkWF S) (ha : wkIs S a 8) : gNumbers_basis S a = some (wkAd (gNumbers_basis S a)) ∧ wkIs S (wkAd (gNumbers_basis S a)) 18 := by
  have h : wkWFr S.L S.K S.fA S.len S.rA := hW
  obtain ⟨q, h1, h2⟩ := h.2.2.2.2.2.2.2.2.2.2.2.2.2.2.2.2.2.2.2.2.2.2.2.2.2.2.2.2.2.2.2.2.2.2.2.2.2.2.2.2.2.1 a ha
  have e : gNumbers_basis S a = some q := h1
  rw [e]
  exact ⟨rfl, h2⟩
theorem wf_Numbers_amounts {S : wPS} {a : Nat} (hW : wkWF S) (ha : wkIs S a 8) : gNumbers_amounts S a = some (wkAd (gNumbers_amounts S a)) ∧ wkIs S (wkAd (gNumbers_amounts S a)) 14 := by
  have h : wkWFr S.L S.K S.fA S.len S.rA := hW
  obtain ⟨q, h1, h2⟩ := h.2.2.2.2.2.2.2.2.2.2.2.2.2.2.2.2.2.2.2.2.2.2.2.2.2.2.2.2.2.2.2.2.2.2.2.2.2.2.2.2.2.2.1 a ha
  have e : gNumbers_amounts S a = some q := h1
  rw [e]
  exact ⟨rfl, h2⟩
theorem wf_Numbers_chain {S : wPS} {a : Nat} (hW : wkWF S) (ha : wkIs S a 8) : gNumbers_chain S a = some (wkAd (gNumbers_chain S a)) ∧ wkIs S (wkAd (gNumbers_chain S a)) 18 := by
  have h : wkWFr S.L S.K S.fA S.len S.rA := hW
  obtain ⟨q, h1, h2⟩ := h.2.2.2.2.2.2.2.2.2.2.2.2.2.2.2.2.2.2.2.2.2.2.2.2.2.2.2.2.2.2.2.2.2.2.2.2.2.2.2.2.2.2.2.1 a ha
  have e : gNumbers_chain S a = some q := h1
  rw [e]
  exact ⟨rfl, h2⟩
theorem wf_Numbers_degrees {S : wPS} {a : Nat} (hW : wkWF S) (ha : wkIs S a 8) : gNumbers_degrees S a = some (wkAd (gNumbers_degrees S a)) ∧ wkIs S (wkAd (gNumbers_degrees S a)) 13 := by
  have h : wkWFr S.L S.K S.fA S.len S.rA := hW
  obtain ⟨q, h1, h2⟩ := h.2.2.2.2.2.2.2.2.2.2.2.2.2.2.2.2.2.2.2.2.2.2.2.2.2.2.2.2.2.2.2.2.2.2.2.2.2.2.2.2.2.2.2.2.1 a ha
  have e : gNumbers_degrees S a = some q := h1
  rw [e]
  exact ⟨rfl, h2⟩
theorem wf_Numbers_left {S : wPS} {a : Nat} (hW : wkWF S) (ha : wkIs S a 8) : gNumbers_left S a = some (wkAd (gNumbers_left S a)) ∧ wkIs S (wkAd (gNumbers_left S a)) 14 := by
  have h : wkWFr S.L S.K S.fA S.len S.rA := hW
  obtain ⟨q, h1, h2⟩ := h.2.2.2.2.2.2.2.2.2.2.2.2.2.2.2.2.2.2.2.2.2.2.2.2.2.2.2.2.2.2.2.2.2.2.2.2.2.2.2.2.2.2.2.2.2.1 a ha
  have e : gNumbers_left S a = some q := h1
  rw [e]
  exact ⟨rfl, h2⟩
theorem wf_Numbers_often {S : wPS} {a : Nat} (hW : wkWF S) (ha : wkIs S a 8) : gNumbers_often S a = some (wkAd (gNumbers_often S a)) ∧ wkIs S (wkAd (gNumbers_often S a)) 14 := by
  have h : wkWFr S.L S.K S.fA S.len S.rA := hW
  obtain ⟨q, h1, h2⟩ := h.2.2.2.2.2.2.2.2.2.2.2.2.2.2.2.2.2.2.2.2.2.2.2.2.2.2.2.2.2.2.2.2.2.2.2.2.2.2.2.2.2.2.2.2.2.2.1 a ha
  have e : gNumbers_often S a = some q := h1
  rw [e]
  exact ⟨rfl, h2⟩
theorem wf_Row_numbers {S : wPS} {a : Nat} (hW : wkWF S) (ha : wkIs S a 9) : gRow_numbers S a = some (wkAd (gRow_numbers S a)) ∧ wkIs S (wkAd (gRow_numbers S a)) 13 := by
  have h : wkWFr S.L S.K S.fA S.len S.rA := hW
  obtain ⟨q, h1, h2⟩ := h.2.2.2.2.2.2.2.2.2.2.2.2.2.2.2.2.2.2.2.2.2.2.2.2.2.2.2.2.2.2.2.2.2.2.2.2.2.2.2.2.2.2.2.2.2.2.2.1 a ha
  have e : gRow_numbers S a = some q := h1
  rw [e]
  exact ⟨rfl, h2⟩
theorem wf_Words_leads {S : wPS} {a : Nat} (hW : wkWF S) (ha : wkIs S a 10) : gWords_leads S a = some (wkAd (gWords_leads S a)) ∧ wkIs S (wkAd (gWords_leads S a)) 17 := by
  have h : wkWFr S.L S.K S.fA S.len S.rA := hW
  obtain ⟨q, h1, h2⟩ := h.2.2.2.2.2.2.2.2.2.2.2.2.2.2.2.2.2.2.2.2.2.2.2.2.2.2.2.2.2.2.2.2.2.2.2.2.2.2.2.2.2.2.2.2.2.2.2.2.1 a ha
  have e : gWords_leads S a = some q := h1
  rw [e]
  exact ⟨rfl, h2⟩
theorem wf_Words_goal {S : wPS} {a : Nat} (hW : wkWF S) (ha : wkIs S a 10) : gWords_goal S a = some (wkAd (gWords_goal S a)) ∧ wkIs S (wkAd (gWords_goal S a)) 13 := by
  have h : wkWFr S.L S.K S.fA S.len S.rA := hW
  obtain ⟨q, h1, h2⟩ := h.2.2.2.2.2.2.2.2.2.2.2.2.2.2.2.2.2.2.2.2.2.2.2.2.2.2.2.2.2.2.2.2.2.2.2.2.2.2.2.2.2.2.2.2.2.2.2.2.2.1 a ha
  have e : gWords_goal S a = some q := h1
  rw [e]
  exact ⟨rfl, h2⟩
theorem wf_Words_points {S : wPS} {a : Nat} (hW : wkWF S) (ha : wkIs S a 10) : gWords_points S a = some (wkAd (gWords_points S a)) ∧ wkIs S (wkAd (gWords_points S a)) 13 := by
  have h : wkWFr S.L S.K S.fA S.len S.rA := hW
  obtain ⟨q, h1, h2⟩ := h.2.2.2.2.2.2.2.2.2.2.2.2.2.2.2.2.2.2.2.2.2.2.2.2.2.2.2.2.2.2.2.2.2.2.2.2.2.2.2.2.2.2.2.2.2.2.2.2.2.2.1 a ha
  have e : gWords_points S a = some q := h1
  rw [e]
  exact ⟨rfl, h2⟩
theorem wf_Words_ledPoints {S : wPS} {a : Nat} (hW : wkWF S) (ha : wkIs S a 10) : gWords_ledPoints S a = some (wkAd (gWords_ledPoints S a)) ∧ wkIs S (wkAd (gWords_ledPoints S a)) 13 := by
  have h : wkWFr S.L S.K S.fA S.len S.rA := hW
  obtain ⟨q, h1, h2⟩ := h.2.2.2.2.2.2.2.2.2.2.2.2.2.2.2.2.2.2.2.2.2.2.2.2.2.2.2.2.2.2.2.2.2.2.2.2.2.2.2.2.2.2.2.2.2.2.2.2.2.2.2.1 a ha
  have e : gWords_ledPoints S a = some q := h1
  rw [e]
  exact ⟨rfl, h2⟩
theorem wf_Words_queue {S : wPS} {a : Nat} (hW : wkWF S) (ha : wkIs S a 10) : gWords_queue S a = some (wkAd (gWords_queue S a)) ∧ wkIs S (wkAd (gWords_queue S a)) 13 := by
  have h : wkWFr S.L S.K S.fA S.len S.rA := hW
  obtain ⟨q, h1, h2⟩ := h.2.2.2.2.2.2.2.2.2.2.2.2.2.2.2.2.2.2.2.2.2.2.2.2.2.2.2.2.2.2.2.2.2.2.2.2.2.2.2.2.2.2.2.2.2.2.2.2.2.2.2.2.1 a ha
  have e : gWords_queue S a = some q := h1
  rw [e]
  exact ⟨rfl, h2⟩
theorem wf_Words_aheadOf {S : wPS} {a : Nat} (hW : wkWF S) (ha : wkIs S a 10) : gWords_aheadOf S a = some (wkAd (gWords_aheadOf S a)) ∧ wkIs S (wkAd (gWords_aheadOf S a)) 13 := by
  have h : wkWFr S.L S.K S.fA S.len S.rA := hW
  obtain ⟨q, h1, h2⟩ := h.2.2.2.2.2.2.2.2.2.2.2.2.2.2.2.2.2.2.2.2.2.2.2.2.2.2.2.2.2.2.2.2.2.2.2.2.2.2.2.2.2.2.2.2.2.2.2.2.2.2.2.2.2.1 a ha
  have e : gWords_aheadOf S a = some q := h1
  rw [e]
  exact ⟨rfl, h2⟩
theorem wf_Words_cameBy {S : wPS} {a : Nat} (hW : wkWF S) (ha : wkIs S a 10) : gWords_cameBy S a = some (wkAd (gWords_cameBy S a)) ∧ wkIs S (wkAd (gWords_cameBy S a)) 13 := by
  have h : wkWFr S.L S.K S.fA S.len S.rA := hW
  obtain ⟨q, h1, h2⟩ := h.2.2.2.2.2.2.2.2.2.2.2.2.2.2.2.2.2.2.2.2.2.2.2.2.2.2.2.2.2.2.2.2.2.2.2.2.2.2.2.2.2.2.2.2.2.2.2.2.2.2.2.2.2.2.1 a ha
  have e : gWords_cameBy S a = some q := h1
  rw [e]
  exact ⟨rfl, h2⟩
theorem wf_Words_steps {S : wPS} {a : Nat} (hW : wkWF S) (ha : wkIs S a 10) : gWords_steps S a = some (wkAd (gWords_steps S a)) ∧ wkIs S (wkAd (gWords_steps S a)) 13 := by
  have h : wkWFr S.L S.K S.fA S.len S.rA := hW
  obtain ⟨q, h1, h2⟩ := h.2.2.2.2.2.2.2.2.2.2.2.2.2.2.2.2.2.2.2.2.2.2.2.2.2.2.2.2.2.2.2.2.2.2.2.2.2.2.2.2.2.2.2.2.2.2.2.2.2.2.2.2.2.2.2.1 a ha
  have e : gWords_steps S a = some q := h1
  rw [e]
  exact ⟨rfl, h2⟩
theorem wf_Words_next {S : wPS} {a : Nat} (hW : wkWF S) (ha : wkIs S a 10) : gWords_next S a = some (wkAd (gWords_next S a)) ∧ wkIs S (wkAd (gWords_next S a)) 13 := by
  have h : wkWFr S.L S.K S.fA S.len S.rA := hW
  obtain ⟨q, h1, h2⟩ := h.2.2.2.2.2.2.2.2.2.2.2.2.2.2.2.2.2.2.2.2.2.2.2.2.2.2.2.2.2.2.2.2.2.2.2.2.2.2.2.2.2.2.2.2.2.2.2.2.2.2.2.2.2.2.2.2.1 a ha
  have e : gWords_next S a = some q := h1
  rw [e]
  exact ⟨rfl, h2⟩
theorem wf_Witnessworks_house {S : wPS} {a : Nat} (hW : wkWF S) (ha : wkIs S a 11) : gWitnessworks_house S a = some (wkAd (gWitnessworks_house S a)) ∧ wkIs S (wkAd (gWitnessworks_house S a)) 4 := by
  have h : wkWFr S.L S.K S.fA S.len S.rA := hW
  obtain ⟨q, h1, h2⟩ := h.2.2.2.2.2.2.2.2.2.2.2.2.2.2.2.2.2.2.2.2.2.2.2.2.2.2.2.2.2.2.2.2.2.2.2.2.2.2.2.2.2.2.2.2.2.2.2.2.2.2.2.2.2.2.2.2.2.1 a ha
  have e : gWitnessworks_house S a = some q := h1
  rw [e]
  exact ⟨rfl, h2⟩
theorem wf_Witnessworks_book {S : wPS} {a : Nat} (hW : wkWF S) (ha : wkIs S a 11) : gWitnessworks_book S a = some (wkAd (gWitnessworks_book S a)) ∧ wkIs S (wkAd (gWitnessworks_book S a)) 16 := by
  have h : wkWFr S.L S.K S.fA S.len S.rA := hW
  obtain ⟨q, h1, h2⟩ := h.2.2.2.2.2.2.2.2.2.2.2.2.2.2.2.2.2.2.2.2.2.2.2.2.2.2.2.2.2.2.2.2.2.2.2.2.2.2.2.2.2.2.2.2.2.2.2.2.2.2.2.2.2.2.2.2.2.2.1 a ha
  have e : gWitnessworks_book S a = some q := h1
  rw [e]
  exact ⟨rfl, h2⟩
theorem wf_Witnessworks_leaningChain {S : wPS} {a : Nat} (hW : wkWF S) (ha : wkIs S a 11) : gWitnessworks_leaningChain S a = some (wkAd (gWitnessworks_leaningChain S a)) ∧ wkIs S (wkAd (gWitnessworks_leaningChain S a)) 13 := by
  have h : wkWFr S.L S.K S.fA S.len S.rA := hW
  obtain ⟨q, h1, h2⟩ := h.2.2.2.2.2.2.2.2.2.2.2.2.2.2.2.2.2.2.2.2.2.2.2.2.2.2.2.2.2.2.2.2.2.2.2.2.2.2.2.2.2.2.2.2.2.2.2.2.2.2.2.2.2.2.2.2.2.2.2.1 a ha
  have e : gWitnessworks_leaningChain S a = some q := h1
  rw [e]
  exact ⟨rfl, h2⟩
theorem wf_Witnessworks_told {S : wPS} {a : Nat} (hW : wkWF S) (ha : wkIs S a 11) : gWitnessworks_told S a = some (wkAd (gWitnessworks_told S a)) ∧ wkIs S (wkAd (gWitnessworks_told S a)) 13 := by
  have h : wkWFr S.L S.K S.fA S.len S.rA := hW
  obtain ⟨q, h1, h2⟩ := h.2.2.2.2.2.2.2.2.2.2.2.2.2.2.2.2.2.2.2.2.2.2.2.2.2.2.2.2.2.2.2.2.2.2.2.2.2.2.2.2.2.2.2.2.2.2.2.2.2.2.2.2.2.2.2.2.2.2.2.2.1 a ha
  have e : gWitnessworks_told S a = some q := h1
  rw [e]
  exact ⟨rfl, h2⟩
theorem wf_Witnessworks_draft {S : wPS} {a : Nat} (hW : wkWF S) (ha : wkIs S a 11) : gWitnessworks_draft S a = some (wkAd (gWitnessworks_draft S a)) ∧ wkIs S (wkAd (gWitnessworks_draft S a)) 3 := by
  have h : wkWFr S.L S.K S.fA S.len S.rA := hW
  obtain ⟨q, h1, h2⟩ := h.2.2.2.2.2.2.2.2.2.2.2.2.2.2.2.2.2.2.2.2.2.2.2.2.2.2.2.2.2.2.2.2.2.2.2.2.2.2.2.2.2.2.2.2.2.2.2.2.2.2.2.2.2.2.2.2.2.2.2.2.2.1 a ha
  have e : gWitnessworks_draft S a = some q := h1
  rw [e]
  exact ⟨rfl, h2⟩
theorem wf_Witnessworks_before {S : wPS} {a : Nat} (hW : wkWF S) (ha : wkIs S a 11) : gWitnessworks_before S a = some (wkAd (gWitnessworks_before S a)) ∧ wkIs S (wkAd (gWitnessworks_before S a)) 16 := by
  have h : wkWFr S.L S.K S.fA S.len S.rA := hW
  obtain ⟨q, h1, h2⟩ := h.2.2.2.2.2.2.2.2.2.2.2.2.2.2.2.2.2.2.2.2.2.2.2.2.2.2.2.2.2.2.2.2.2.2.2.2.2.2.2.2.2.2.2.2.2.2.2.2.2.2.2.2.2.2.2.2.2.2.2.2.2.2.1 a ha
  have e : gWitnessworks_before S a = some q := h1
  rw [e]
  exact ⟨rfl, h2⟩
theorem wf_Witnessworks_changeLetters {S : wPS} {a : Nat} (hW : wkWF S) (ha : wkIs S a 11) : gWitnessworks_changeLetters S a = some (wkAd (gWitnessworks_changeLetters S a)) ∧ wkIs S (wkAd (gWitnessworks_changeLetters S a)) 12 := by
  have h : wkWFr S.L S.K S.fA S.len S.rA := hW
  obtain ⟨q, h1, h2⟩ := h.2.2.2.2.2.2.2.2.2.2.2.2.2.2.2.2.2.2.2.2.2.2.2.2.2.2.2.2.2.2.2.2.2.2.2.2.2.2.2.2.2.2.2.2.2.2.2.2.2.2.2.2.2.2.2.2.2.2.2.2.2.2.2.1 a ha
  have e : gWitnessworks_changeLetters S a = some q := h1
  rw [e]
  exact ⟨rfl, h2⟩
theorem wf_Witnessworks_changedEntries {S : wPS} {a : Nat} (hW : wkWF S) (ha : wkIs S a 11) : gWitnessworks_changedEntries S a = some (wkAd (gWitnessworks_changedEntries S a)) ∧ wkIs S (wkAd (gWitnessworks_changedEntries S a)) 13 := by
  have h : wkWFr S.L S.K S.fA S.len S.rA := hW
  obtain ⟨q, h1, h2⟩ := h.2.2.2.2.2.2.2.2.2.2.2.2.2.2.2.2.2.2.2.2.2.2.2.2.2.2.2.2.2.2.2.2.2.2.2.2.2.2.2.2.2.2.2.2.2.2.2.2.2.2.2.2.2.2.2.2.2.2.2.2.2.2.2.2.1 a ha
  have e : gWitnessworks_changedEntries S a = some q := h1
  rw [e]
  exact ⟨rfl, h2⟩
theorem wf_Witnessworks_typed {S : wPS} {a : Nat} (hW : wkWF S) (ha : wkIs S a 11) : gWitnessworks_typed S a = some (wkAd (gWitnessworks_typed S a)) ∧ wkIs S (wkAd (gWitnessworks_typed S a)) 9 := by
  have h : wkWFr S.L S.K S.fA S.len S.rA := hW
  obtain ⟨q, h1, h2⟩ := h.2.2.2.2.2.2.2.2.2.2.2.2.2.2.2.2.2.2.2.2.2.2.2.2.2.2.2.2.2.2.2.2.2.2.2.2.2.2.2.2.2.2.2.2.2.2.2.2.2.2.2.2.2.2.2.2.2.2.2.2.2.2.2.2.2.1 a ha
  have e : gWitnessworks_typed S a = some q := h1
  rw [e]
  exact ⟨rfl, h2⟩
theorem wf_Witnessworks_earned {S : wPS} {a : Nat} (hW : wkWF S) (ha : wkIs S a 11) : gWitnessworks_earned S a = some (wkAd (gWitnessworks_earned S a)) ∧ wkIs S (wkAd (gWitnessworks_earned S a)) 13 := by
  have h : wkWFr S.L S.K S.fA S.len S.rA := hW
  obtain ⟨q, h1, h2⟩ := h.2.2.2.2.2.2.2.2.2.2.2.2.2.2.2.2.2.2.2.2.2.2.2.2.2.2.2.2.2.2.2.2.2.2.2.2.2.2.2.2.2.2.2.2.2.2.2.2.2.2.2.2.2.2.2.2.2.2.2.2.2.2.2.2.2.2.1 a ha
  have e : gWitnessworks_earned S a = some q := h1
  rw [e]
  exact ⟨rfl, h2⟩
theorem wf_Witnessworks_claims {S : wPS} {a : Nat} (hW : wkWF S) (ha : wkIs S a 11) : gWitnessworks_claims S a = some (wkAd (gWitnessworks_claims S a)) ∧ wkIs S (wkAd (gWitnessworks_claims S a)) 15 := by
  have h : wkWFr S.L S.K S.fA S.len S.rA := hW
  obtain ⟨q, h1, h2⟩ := h.2.2.2.2.2.2.2.2.2.2.2.2.2.2.2.2.2.2.2.2.2.2.2.2.2.2.2.2.2.2.2.2.2.2.2.2.2.2.2.2.2.2.2.2.2.2.2.2.2.2.2.2.2.2.2.2.2.2.2.2.2.2.2.2.2.2.2.1 a ha
  have e : gWitnessworks_claims S a = some q := h1
  rw [e]
  exact ⟨rfl, h2⟩
theorem wf_Witnessworks_errors {S : wPS} {a : Nat} (hW : wkWF S) (ha : wkIs S a 11) : gWitnessworks_errors S a = some (wkAd (gWitnessworks_errors S a)) ∧ wkIs S (wkAd (gWitnessworks_errors S a)) 13 := by
  have h : wkWFr S.L S.K S.fA S.len S.rA := hW
  obtain ⟨q, h1, h2⟩ := h.2.2.2.2.2.2.2.2.2.2.2.2.2.2.2.2.2.2.2.2.2.2.2.2.2.2.2.2.2.2.2.2.2.2.2.2.2.2.2.2.2.2.2.2.2.2.2.2.2.2.2.2.2.2.2.2.2.2.2.2.2.2.2.2.2.2.2.2.1 a ha
  have e : gWitnessworks_errors S a = some q := h1
  rw [e]
  exact ⟨rfl, h2⟩
theorem wf_RClaim {S : wPS} {a i : Nat} (hW : wkWF S) (ha : wkIs S a 15) (hi : i < S.len a) : S.rA a i = some (wkAd (S.rA a i)) ∧ wkIs S (wkAd (S.rA a i)) 0 := by
  have h : wkWFr S.L S.K S.fA S.len S.rA := hW
  obtain ⟨q, h1, h2⟩ := h.2.2.2.2.2.2.2.2.2.2.2.2.2.2.2.2.2.2.2.2.2.2.2.2.2.2.2.2.2.2.2.2.2.2.2.2.2.2.2.2.2.2.2.2.2.2.2.2.2.2.2.2.2.2.2.2.2.2.2.2.2.2.2.2.2.2.2.2.2.1 a i ha hi
  rw [h1]
  exact ⟨rfl, h2⟩
theorem wf_REntry {S : wPS} {a i : Nat} (hW : wkWF S) (ha : wkIs S a 16) (hi : i < S.len a) : S.rA a i = some (wkAd (S.rA a i)) ∧ wkIs S (wkAd (S.rA a i)) 3 := by
  have h : wkWFr S.L S.K S.fA S.len S.rA := hW
  obtain ⟨q, h1, h2⟩ := h.2.2.2.2.2.2.2.2.2.2.2.2.2.2.2.2.2.2.2.2.2.2.2.2.2.2.2.2.2.2.2.2.2.2.2.2.2.2.2.2.2.2.2.2.2.2.2.2.2.2.2.2.2.2.2.2.2.2.2.2.2.2.2.2.2.2.2.2.2.2.1 a i ha hi
  rw [h1]
  exact ⟨rfl, h2⟩
theorem wf_R_I {S : wPS} {a i : Nat} (hW : wkWF S) (ha : wkIs S a 17) (hi : i < S.len a) : S.rA a i = some (wkAd (S.rA a i)) ∧ wkIs S (wkAd (S.rA a i)) 13 := by
  have h : wkWFr S.L S.K S.fA S.len S.rA := hW
  obtain ⟨q, h1, h2⟩ := h.2.2.2.2.2.2.2.2.2.2.2.2.2.2.2.2.2.2.2.2.2.2.2.2.2.2.2.2.2.2.2.2.2.2.2.2.2.2.2.2.2.2.2.2.2.2.2.2.2.2.2.2.2.2.2.2.2.2.2.2.2.2.2.2.2.2.2.2.2.2.2.1 a i ha hi
  rw [h1]
  exact ⟨rfl, h2⟩
theorem wf_R_J {S : wPS} {a i : Nat} (hW : wkWF S) (ha : wkIs S a 18) (hi : i < S.len a) : S.rA a i = some (wkAd (S.rA a i)) ∧ wkIs S (wkAd (S.rA a i)) 14 := by
  have h : wkWFr S.L S.K S.fA S.len S.rA := hW
  obtain ⟨q, h1, h2⟩ := h.2.2.2.2.2.2.2.2.2.2.2.2.2.2.2.2.2.2.2.2.2.2.2.2.2.2.2.2.2.2.2.2.2.2.2.2.2.2.2.2.2.2.2.2.2.2.2.2.2.2.2.2.2.2.2.2.2.2.2.2.2.2.2.2.2.2.2.2.2.2.2.2 a i ha hi
  rw [h1]
  exact ⟨rfl, h2⟩
def wkGd (w : Cond) : Prop := (w.onTables && w.keeps) = true ∨ ∃ ty, w = .arrayClass ty
theorem wkGdL {L : List Cond} (h : L.all goodWord = true) : ∀ w ∈ L, wkGd w := fun w hw => good_of_word (List.all_eq_true.mp h w hw)
theorem wkGdA {A B : List Cond} (ha : ∀ w ∈ A, wkGd w) (hb : ∀ w ∈ B, wkGd w) : ∀ w ∈ A ++ B, wkGd w := fun w h => (List.mem_append.mp h).elim (ha w) (hb w)
theorem wkGdC {c : Cond} {A : List Cond} (hc : goodWord c = true) (ha : ∀ w ∈ A, wkGd w) : ∀ w ∈ c :: A, wkGd w := fun w h => (List.mem_cons.mp h).elim (fun e => e ▸ good_of_word hc) (ha w)
theorem wkGoodV {Ts ws : List Cond} {own : String} {index : Nat} {y : MethodName} (h1 : Cond.methodLink own index y ∈ Ts) (h2 : Cond.instanceMethod y ∈ Ts) (h3 : Cond.selects y.cls y y ∈ Ts) (h4 : Cond.initialized y.cls ∈ Ts) (hb : ∀ w ∈ ws, w ∈ Ts) (hg : ∀ w ∈ ws, wkGd w) : GoodIn Ts (wsV own index y.cls y ws) := by
  intro w hw
  rcases List.mem_append.mp hw with h | h
  · simp only [List.mem_cons, List.not_mem_nil, or_false] at h
    rcases h with rfl | rfl | rfl | rfl
    · exact ⟨h1, good_of_word rfl⟩
    · exact ⟨h2, good_of_word rfl⟩
    · exact ⟨h3, good_of_word rfl⟩
    · exact ⟨h4, good_of_word rfl⟩
  · exact ⟨hb w h, hg w h⟩
theorem wkGoodW {Ts ws : List Cond} {own : String} {index : Nat} {y : MethodName} (h1 : Cond.methodLink own index y ∈ Ts) (h2 : Cond.static y ∈ Ts) (h4 : Cond.initialized y.cls ∈ Ts) (hb : ∀ w ∈ ws, w ∈ Ts) (hg : ∀ w ∈ ws, wkGd w) : GoodIn Ts (va_wsS own index y ws) := by
  intro w hw
  rcases List.mem_append.mp hw with h | h
  · simp only [List.mem_cons, List.not_mem_nil, or_false] at h
    rcases h with rfl | rfl | rfl
    · exact ⟨h1, good_of_word rfl⟩
    · exact ⟨h2, good_of_word rfl⟩
    · exact ⟨h4, good_of_word rfl⟩
  · exact ⟨hb w h, hg w h⟩
theorem gdX0 : ∀ w ∈ wsX00, wkGd w := wkGdL (by decide +kernel)
theorem gdX1 : ∀ w ∈ wsX10, wkGd w := wkGdL (by decide +kernel)
theorem gdX2 : ∀ w ∈ wsX20, wkGd w := wkGdL (by decide +kernel)
theorem gdX3 : ∀ w ∈ wsX30, wkGd w := wkGdL (by decide +kernel)
theorem gdX4 : ∀ w ∈ wsX40, wkGd w := wkGdL (by decide +kernel)
theorem gdX5 : ∀ w ∈ wsX50, wkGd w := wkGdL (by decide +kernel)
theorem gdX6 : ∀ w ∈ wsX60, wkGd w := wkGdL (by decide +kernel)
theorem gdX7 : ∀ w ∈ wsX70, wkGd w := wkGdL (by decide +kernel)
theorem gdX8 : ∀ w ∈ wsX80, wkGd w := wkGdL (by decide +kernel)
theorem gdX9 : ∀ w ∈ wsX90, wkGd w := wkGdL (by decide +kernel)
theorem gdX10 : ∀ w ∈ wsX100, wkGd w := wkGdL (by decide +kernel)
theorem gdX11 : ∀ w ∈ wsX110, wkGd w := wkGdL (by decide +kernel)
end
