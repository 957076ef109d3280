/-! THE BOOK: questions, their answers, their bounds. -/
section
theorem e_tail {e : Nat} {V V2 : mV} {o : Option (Unit × (Nat → Nat) × mV)} {v : Unit} {Ln1 : Nat → Nat} {V1 : mV} (ho : ∀ v L W, o = some (v, L, W) → mAe e V2 W) (h2 : ∀ j, V2.fI e j = V.fI e j) (h : (mBA o fun _ L9 V9 => (mLt (mF V9 e 9 ((1 : Int32))) fun V13 => (mLt (mF V13 e 10 ((V13.fI e 8))) fun V14 => some ((), L9, V14)))) = some (v, Ln1, V1)) : (∀ j, j ≠ 9 → j ≠ 10 → j ≠ 11 → j ≠ 12 → V1.fI e j = V.fI e j) ∧ V1.fI e 9 = 1 ∧ V1.fI e 10 = V.fI e 8 := by
  obtain ⟨x, L, W, e1, h⟩ := mBA_some h
  obtain ⟨W1, q1, h⟩ := mLt_some h
  obtain ⟨W2, q2, h⟩ := mLt_some h
  obtain ⟨_, rfl, rfl⟩ := mRA3 h
  have a := ho _ _ _ e1
  subst q1
  subst q2
  refine ⟨fun j h9 h10 h11 h12 => ?_, ?_, ?_⟩
  · rw [mF_no (Or.inr h10), mF_no (Or.inr h9), a j h11 h12, h2]
  · rw [mF_no (Or.inr (by decide)), mF_at]
  · rw [mF_at, mF_no (Or.inr (by decide)), a 8 (by decide) (by decide), h2]
theorem EX4_solve {F e : Nat} {Ln Ln1 : Nat → Nat} {V V1 : mV} {v : Unit} (he : 256 ≤ e ∧ e < 1024) (h : mX4_solve F Ln e V = some (v, Ln1, V1)) : (∀ j, j ≠ 9 → j ≠ 10 → j ≠ 11 → j ≠ 12 → V1.fI e j = V.fI e j) ∧ V1.fI e 9 = 1 ∧ V1.fI e 10 = V.fI e 8 := by
  unfold mX4_solve at h
  obtain ⟨x, V2, e1, h⟩ := mBW_some h
  have h2 : ∀ j, V2.fI e j = V.fI e j := fun j => by
    have := NX9_clear e1
    rw [(this.1 e (by unfold wX9_clear; omega)).1]
  rcases mIf_some h with ⟨_, h⟩ | ⟨_, h⟩
  · exact e_tail (fun _ _ _ => EX7_solvePairings he) h2 h
  rcases mIf_some h with ⟨_, h⟩ | ⟨_, h⟩
  · exact e_tail (fun _ _ _ => EX7_solveFlows he) h2 h
  rcases mIf_some h with ⟨_, h⟩ | ⟨_, h⟩
  · exact e_tail (fun _ _ _ => EX2_solve he) h2 h
  rcases mIf_some h with ⟨_, h⟩ | ⟨_, h⟩
  · exact e_tail (fun _ _ _ => EX5_solve he) h2 h
  rcases mIf_some h with ⟨_, h⟩ | ⟨_, h⟩
  · exact e_tail (fun _ _ _ => EX1_solve he) h2 h
  rcases mIf_some h with ⟨_, h⟩ | ⟨_, h⟩
  · exact e_tail (fun _ _ _ => EX8_solveEquations he) h2 h
  rcases mIf_some h with ⟨_, h⟩ | ⟨_, h⟩
  · exact e_tail (fun _ _ _ => EX8_solvePrimes he) h2 h
  rcases mIf_some h with ⟨_, h⟩ | ⟨_, h⟩
  · exact e_tail (fun _ _ _ => EX8_solveRoots he) h2 h
  rcases mIf_some h with ⟨_, h⟩ | ⟨_, h⟩
  · exact e_tail (fun _ _ _ => EX10_solvePermutations he) h2 h
  rcases mIf_some h with ⟨_, h⟩ | ⟨_, h⟩
  · exact e_tail (fun _ _ _ => EX10_solveWords he) h2 h
  rcases mIf_some h with ⟨_, h⟩ | ⟨_, h⟩
  · exact e_tail (fun _ _ _ => EX6_solveMachines he) h2 h
  exact e_tail (fun _ _ _ => EX6_solveGames he) h2 h
/-- kind, size, how many items, their numbers; bound, leaning, plus, origin -/
abbrev qT : Type := (Nat × Nat × Nat × (Nat → Int32)) × Int32 × Int32 × Int32 × Int32
abbrev Qk (q : qT) : Nat := q.1.1
abbrev Qs (q : qT) : Nat := q.1.2.1
abbrev Qm (q : qT) : Nat := q.1.2.2.1
abbrev Qd (q : qT) : Nat → Int32 := q.1.2.2.2
abbrev Qb (q : qT) : Int32 := q.2.1
abbrev Ql (q : qT) : Int32 := q.2.2.1
abbrev Qp (q : qT) : Int32 := q.2.2.2.1
abbrev Qo (q : qT) : Int32 := q.2.2.2.2
/-- the cells at e ask q -/
def isQn (V : mV) (e : Nat) (q : qT) : Prop := V.fI e 0 = nI (Qk q) ∧ V.fI e 1 = nI (Qs q) ∧ V.fI e 2 = Qb q ∧ V.fI e 3 = Ql q ∧ V.fI e 4 = Qp q ∧ V.fI e 5 = Qo q ∧ V.fI e 6 = nI (Qm q) ∧ (∀ j, j < 5 * Qm q → V.rI (e + 1) j = Qd q j) ∧ ∀ j, 5 * Qm q ≤ j → Qd q j = 0
def okIt (q : qT) : Prop := itmQ (Qk q) (Qs q) (Qm q) (Qd q)
noncomputable def ansT (q : qT) (b : Int32) : Int32 × Int32 × List Int32 × (List Int32 → Prop) × (List Int32 → Prop) := @dite _ (∃ t : Int32 × Int32 × List Int32 × (List Int32 → Prop) × (List Int32 → Prop), ansP (Qk q) (Qs q) (Qm q) b (Qd q) t.1 t.2.1 t.2.2.1 t.2.2.2.1 t.2.2.2.2) (Classical.propDecidable _) (fun h => Classical.choose h) (fun _ => (0, 0, [], fun _ => False, fun _ => False))
noncomputable abbrev aRp (q : qT) (b : Int32) : Int32 := (ansT q b).1
noncomputable abbrev aTo (q : qT) (b : Int32) : Int32 := (ansT q b).2.1
noncomputable abbrev aRw (q : qT) (b : Int32) : List Int32 := (ansT q b).2.2.1
noncomputable abbrev aYs (q : qT) (b : Int32) : List Int32 → Prop := (ansT q b).2.2.2.1
noncomputable abbrev aNo (q : qT) (b : Int32) : List Int32 → Prop := (ansT q b).2.2.2.2
theorem ansT_ok {q : qT} {b : Int32} (h : okIt q) (hb : bndQ (Qk q) b) : ansP (Qk q) (Qs q) (Qm q) b (Qd q) (aRp q b) (aTo q b) (aRw q b) (aYs q b) (aNo q b) := by
  have ex : ∃ t : Int32 × Int32 × List Int32 × (List Int32 → Prop) × (List Int32 → Prop), ansP (Qk q) (Qs q) (Qm q) b (Qd q) t.1 t.2.1 t.2.2.1 t.2.2.2.1 t.2.2.2.2 := by
    obtain ⟨rp, told, row, aY, aN, x⟩ := ans_ex h hb
    exact ⟨(rp, told, row, aY, aN), x⟩
  have e : ansT q b = Classical.choose ex := by
    unfold ansT
    rw [dif_pos ex]
  unfold aRp aTo aRw aYs aNo
  rw [e]
  exact Classical.choose_spec ex
/-- the answer hangs on what is asked alone -/
theorem ansT_c {q q' : qT} {b : Int32} (h : q.1 = q'.1) : ansT q b = ansT q' b := by
  obtain ⟨x, y⟩ := q
  obtain ⟨x', y'⟩ := q'
  have h : x = x' := h
  subst h
  rfl
def clmp (k : Nat) (x : Int32) : Int32 := if wkTab 2 k < (if x < wkTab 3 k then x else wkTab 3 k) then (if x < wkTab 3 k then x else wkTab 3 k) else wkTab 2 k
theorem wkT_b : ∀ k, k < 12 → (wkTab 2 k).toInt = loB k ∧ (wkTab 3 k).toInt = hiB k ∧ loB k ≤ hiB k := by decide
theorem clmp_b {k : Nat} {x : Int32} (hk : k < 12) : bndQ k (clmp k x) := by
  obtain ⟨a, b, c⟩ := wkT_b k hk
  unfold bndQ clmp
  rw [← a, ← b]
  rw [← a, ← b] at c
  by_cases h1 : x < wkTab 3 k
  · rw [if_pos h1]
    have g1 := i32lt.mp h1
    by_cases h2 : wkTab 2 k < x
    · rw [if_pos h2]
      have g2 := i32lt.mp h2
      omega
    · rw [if_neg h2]
      omega
  · rw [if_neg h1]
    by_cases h2 : wkTab 2 k < wkTab 3 k
    · rw [if_pos h2]
      have g2 := i32lt.mp h2
      omega
    · rw [if_neg h2]
      omega
/-- the bound as it is, along the leanings -/
noncomputable def bF (Q : Nat → qT) : Nat → Nat → Int32
  | 0, j => Qb (Q j)
  | f + 1, j => if Ql (Q j) < 0 then Qb (Q j) else clmp (Qk (Q j)) (aTo (Q (Ql (Q j)).toNatClampNeg) (bF Q f (Ql (Q j)).toNatClampNeg) + Qp (Q j))
/-- the leanings of j end behind t steps -/
def endQ (Q : Nat → qT) (n : Nat) : Nat → Nat → Prop
  | 0, j => Ql (Q j) < 0
  | t + 1, j => ∃ l, Ql (Q j) = nI l ∧ l < n ∧ endQ Q n t l
theorem nI_nn {l : Nat} (h : l < 2 ^ 31) : ¬ nI l < 0 := nI_pos h
theorem end_u {Q : Nat → qT} {n : Nat} (hn : n ≤ 12) : ∀ t t' j, endQ Q n t j → endQ Q n t' j → t = t'
  | 0, 0, _, _, _ => rfl
  | 0, t' + 1, j, h, h' => by
    obtain ⟨l, e, l1, _⟩ := h'
    have h : Ql (Q j) < 0 := h
    rw [e] at h
    exact absurd h (nI_nn (by omega))
  | t + 1, 0, j, h, h' => by
    obtain ⟨l, e, l1, _⟩ := h
    have h' : Ql (Q j) < 0 := h'
    rw [e] at h'
    exact absurd h' (nI_nn (by omega))
  | t + 1, t' + 1, j, h, h' => by
    obtain ⟨l, e, l1, h⟩ := h
    obtain ⟨l', e', l1', h'⟩ := h'
    rw [e] at e'
    have := (nI_eq (by omega) (by omega)).mp e'
    subst this
    rw [end_u hn t t' l h h']
/-- the nodes that it goes through -/
def stQ (Q : Nat → qT) : Nat → Nat → Nat
  | 0, j => j
  | i + 1, j => (Ql (Q (stQ Q i j))).toNatClampNeg
theorem end_st {Q : Nat → qT} {n : Nat} (hn : n ≤ 12) {t j : Nat} (hj : j < n) (h : endQ Q n t j) : ∀ i, i ≤ t → stQ Q i j < n ∧ endQ Q n (t - i) (stQ Q i j)
  | 0, _ => ⟨hj, h⟩
  | i + 1, hi => by
    obtain ⟨a, b⟩ := end_st hn hj h i (by omega)
    obtain ⟨x, hx⟩ : ∃ x, t - i = x + 1 := ⟨t - i - 1, by omega⟩
    rw [hx] at b
    obtain ⟨l, e, l1, h'⟩ := b
    have : stQ Q (i + 1) j = l := by
      show (Ql (Q (stQ Q i j))).toNatClampNeg = l
      rw [e, nI_clamp (by omega)]
    rw [this, show t - (i + 1) = x by omega]
    exact ⟨l1, h'⟩
theorem end_lt {Q : Nat → qT} {n : Nat} (hn : n ≤ 12) {t j : Nat} (hj : j < n) (h : endQ Q n t j) : t < n := by
  have := cnt_inj (X := fun _ => true) (Y := fun _ => true) (f := fun i => stQ Q i j) (m := n) (t + 1) (fun i hi _ => ⟨(end_st hn hj h i (by omega)).1, rfl⟩) (fun a b ha hb _ _ e => by
    have x := (end_st hn hj h a (by omega)).2
    have y := (end_st hn hj h b (by omega)).2
    have e : stQ Q a j = stQ Q b j := e
    rw [e] at x
    have := end_u hn _ _ _ x y
    omega)
  rw [cnt_T, cnt_T] at this
  omega
theorem bF_st {Q : Nat → qT} {n : Nat} (hn : n ≤ 12) : ∀ t j f f', endQ Q n t j → t ≤ f → t ≤ f' → bF Q f j = bF Q f' j
  | 0, j, f, f', h, _, _ => by
    have h : Ql (Q j) < 0 := h
    have e : ∀ f, bF Q f j = Qb (Q j) := fun f => by
      cases f with
      | zero => rfl
      | succ f => rw [bF, if_pos h]
    rw [e, e]
  | t + 1, j, f, f', h, h1, h2 => by
    obtain ⟨l, e, l1, h⟩ := h
    obtain ⟨g, rfl⟩ : ∃ g, f = g + 1 := ⟨f - 1, by omega⟩
    obtain ⟨g', rfl⟩ : ∃ g', f' = g' + 1 := ⟨f' - 1, by omega⟩
    have nn : ¬ Ql (Q j) < 0 := by rw [e]; exact nI_nn (by omega)
    rw [bF, bF, if_neg nn, if_neg nn, e, nI_clamp (by omega), bF_st hn t l g g' h (by omega) (by omega)]
noncomputable def bnd (Q : Nat → qT) (j : Nat) : Int32 := bF Q 12 j
theorem bnd_end {Q : Nat → qT} {j : Nat} (h : Ql (Q j) < 0) : bnd Q j = Qb (Q j) := by
  unfold bnd
  rw [bF, if_pos h]
theorem bnd_on {Q : Nat → qT} {n t j l : Nat} (hn : n ≤ 12) (hj : j < n) (h : endQ Q n (t + 1) j) (e : Ql (Q j) = nI l) (hl : l < n) : bnd Q j = clmp (Qk (Q j)) (aTo (Q l) (bnd Q l) + Qp (Q j)) := by
  have lt := end_lt hn hj h
  obtain ⟨l', e', l1, h⟩ := h
  rw [e] at e'
  have := (nI_eq (by omega) (by omega)).mp e'
  subst this
  unfold bnd
  rw [show bF Q 12 j = bF Q (11 + 1) j from rfl, bF, if_neg (by rw [e]; exact nI_nn (by omega)), e, nI_clamp (by omega), bF_st hn t l 11 12 h (by omega) (by omega)]
def acyc (Q : Nat → qT) (n : Nat) : Prop := ∀ j, j < n → ∃ t, endQ Q n t j
theorem bnd_b {Q : Nat → qT} {n j : Nat} (hn : n ≤ 12) (hj : j < n) (ha : acyc Q n) (hk : Qk (Q j) < 12) (hb : bndQ (Qk (Q j)) (Qb (Q j))) : bndQ (Qk (Q j)) (bnd Q j) := by
  obtain ⟨t, ht⟩ := ha j hj
  cases t with
  | zero =>
    rw [bnd_end ht]
    exact hb
  | succ t =>
    obtain ⟨l, e, l1, h⟩ := id ht
    rw [bnd_on hn hj ht e l1]
    exact clmp_b hk
end
