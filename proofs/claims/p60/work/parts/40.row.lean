/-! THE PURE PART: rows (Row's own tests), what they answer. A row r of c numbers: V.fI r 1 = nI c, its numbers V.rI (r + 1). -/
section
theorem T_at {F : Nat} {Ln : Nat → Nat} {V : mV} {r c j : Nat} (hc : V.fI r 1 = nI c) (hl : c ≤ Ln (r + 1)) (hL : Ln (r + 1) ≤ 1024) (hj : j < 2 ^ 30) : mTo (mX9_at F Ln r (nI j) V) (fun v => v = if j < c then V.rI (r + 1) j else 0) := by
  unfold mX9_at
  rw [hc]
  refine mTo.ite (fun h => absurd h (nI_pos (by omega))) (fun _ => mTo.ite (fun h => mTo.ret ?_) (fun h => ?_))
  · have := (nI_leI (a := c) (b := j) (by omega) (by omega)).mp h
    rw [if_neg (by omega)]
  · have hjc : j < c := Nat.lt_of_not_le fun z => h ((nI_leI (by omega) (by omega)).mpr z)
    refine mTo.gd (nI_in (by omega) (by omega)) (mTo.ret ?_)
    rw [if_pos hjc, nI_clamp (by omega)]
theorem T_liesWithin_go {F : Nat} {Ln : Nat → Nat} {V : mV} {r c : Nat} {lo hi : Int32} (hc : V.fI r 1 = nI c) (hl : c ≤ Ln (r + 1)) (hL : Ln (r + 1) ≤ 1024) : ∀ n k' j : Nat, n < k' → c ≤ j + n → j < 2 ^ 30 → mTo (mX9_liesWithin_go F k' 0 Ln r lo hi (nI j) V) (fun v => (v = 1 ∧ ∀ i, j ≤ i → i < c → ¬ V.rI (r + 1) i < lo ∧ V.rI (r + 1) i ≤ hi) ∨ (v = 0 ∧ ∃ i, j ≤ i ∧ i < c ∧ (V.rI (r + 1) i < lo ∨ ¬ V.rI (r + 1) i ≤ hi))) := by
  intro n
  induction n with
  | zero =>
    intro k' j hk hn hj
    obtain ⟨k, rfl⟩ : ∃ k, k' = k + 1 := ⟨k' - 1, by omega⟩
    rw [mX9_liesWithin_go, if_pos rfl]
    unfold mX9_liesWithin_b0
    rw [hc, if_pos ((nI_leI (by omega) (by omega)).mpr (by omega))]
    exact mTo.ret (Or.inl ⟨rfl, fun i h1 h2 => by omega⟩)
  | succ n ih =>
    intro k' j hk hn hj
    obtain ⟨k, rfl⟩ : ∃ k, k' = k + 1 := ⟨k' - 1, by omega⟩
    rw [mX9_liesWithin_go, if_pos rfl]
    unfold mX9_liesWithin_b0
    rw [hc]
    refine mTo.ite (fun h => ?_) (fun h => ?_)
    · have := (nI_leI (a := c) (b := j) (by omega) (by omega)).mp h
      exact mTo.ret (Or.inl ⟨rfl, fun i h1 h2 => by omega⟩)
    · have hjc : j < c := Nat.lt_of_not_le fun z => h ((nI_leI (by omega) (by omega)).mpr z)
      rw [nI_clamp (by omega)]
      refine mTo.gd (fun z => nI_in (c := j) (N := Ln (r + 1)) (by omega) (by omega) (by rw [nI_clamp (by omega)]; exact z)) (mTo.ite (fun h1 => mTo.ret (Or.inr ⟨rfl, j, Nat.le_refl _, hjc, Or.inl h1⟩)) (fun h1 => mTo.gd (fun z => nI_in (c := j) (N := Ln (r + 1)) (by omega) (by omega) (by rw [nI_clamp (by omega)]; exact z)) (mTo.ite (fun h2 => mTo.lt ?_) (fun h2 => mTo.ret (Or.inr ⟨rfl, j, Nat.le_refl _, hjc, Or.inr h2⟩)))))
      rw [nI_1]
      refine (ih k (j + 1) (by omega) (by omega) (by omega)).mono (fun v hv => ?_)
      rcases hv with ⟨e, q⟩ | ⟨e, i, q1, q2, q3⟩
      · refine Or.inl ⟨e, fun i p1 p2 => ?_⟩
        by_cases hij : i = j
        · subst hij
          exact ⟨h1, h2⟩
        · exact q i (by omega) p2
      · exact Or.inr ⟨e, i, by omega, q2, q3⟩
theorem T_liesWithin {F : Nat} {Ln : Nat → Nat} {V : mV} {r c j : Nat} {lo hi : Int32} (hF : 2048 ≤ F) (hc : V.fI r 1 = nI c) (hl : c ≤ Ln (r + 1)) (hL : Ln (r + 1) ≤ 1024) (hj : j < 2 ^ 30) : mTo (mX9_liesWithin F Ln r (nI j) lo hi V) (fun v => (v = 1 ∧ ∀ i, j ≤ i → i < c → ¬ V.rI (r + 1) i < lo ∧ V.rI (r + 1) i ≤ hi) ∨ (v = 0 ∧ ∃ i, j ≤ i ∧ i < c ∧ (V.rI (r + 1) i < lo ∨ ¬ V.rI (r + 1) i ≤ hi))) := by
  unfold mX9_liesWithin mX9_liesWithin_s
  exact T_liesWithin_go hc hl hL c F j (by omega) (by omega) hj
theorem T_isRising_go {F : Nat} {Ln : Nat → Nat} {V : mV} {r c : Nat} (hc : V.fI r 1 = nI c) (hl : c ≤ Ln (r + 1)) (hL : Ln (r + 1) ≤ 1024) : ∀ n k' j : Nat, n < k' → c ≤ j + 1 + n → j < 2 ^ 30 → mTo (mX9_isRising_go F k' 0 Ln r (nI (j + 1)) V) (fun v => (v = 1 ∧ ∀ i, j ≤ i → i + 1 < c → V.rI (r + 1) i < V.rI (r + 1) (i + 1)) ∨ (v = 0 ∧ ∃ i, j ≤ i ∧ i + 1 < c ∧ ¬ V.rI (r + 1) i < V.rI (r + 1) (i + 1))) := by
  intro n
  induction n with
  | zero =>
    intro k' j hk hn hj
    obtain ⟨k, rfl⟩ : ∃ k, k' = k + 1 := ⟨k' - 1, by omega⟩
    rw [mX9_isRising_go, if_pos rfl]
    unfold mX9_isRising_b0
    rw [hc, if_pos ((nI_leI (by omega) (by omega)).mpr (by omega))]
    exact mTo.ret (Or.inl ⟨rfl, fun i h1 h2 => by omega⟩)
  | succ n ih =>
    intro k' j hk hn hj
    obtain ⟨k, rfl⟩ : ∃ k, k' = k + 1 := ⟨k' - 1, by omega⟩
    rw [mX9_isRising_go, if_pos rfl]
    unfold mX9_isRising_b0
    rw [hc, nI_pred]
    refine mTo.ite (fun h => ?_) (fun h => ?_)
    · have := (nI_leI (a := c) (b := j + 1) (by omega) (by omega)).mp h
      exact mTo.ret (Or.inl ⟨rfl, fun i h1 h2 => by omega⟩)
    · have hjc : j + 1 < c := Nat.lt_of_not_le fun z => h ((nI_leI (by omega) (by omega)).mpr z)
      refine mTo.gd (nI_in (by omega) (by omega)) (mTo.gd (nI_in (by omega) (by omega)) ?_)
      rw [nI_clamp (n := j) (by omega), nI_clamp (n := j + 1) (by omega)]
      refine mTo.ite (fun h1 => mTo.lt ?_) (fun h1 => mTo.ret (Or.inr ⟨rfl, j, Nat.le_refl _, hjc, h1⟩))
      rw [nI_1]
      refine (ih k (j + 1) (by omega) (by omega) (by omega)).mono (fun v hv => ?_)
      rcases hv with ⟨e, q⟩ | ⟨e, i, q1, q2, q3⟩
      · refine Or.inl ⟨e, fun i p1 p2 => ?_⟩
        by_cases hij : i = j
        · subst hij
          exact h1
        · exact q i (by omega) p2
      · exact Or.inr ⟨e, i, by omega, q2, q3⟩
theorem T_isRising {F : Nat} {Ln : Nat → Nat} {V : mV} {r c j : Nat} (hF : 2048 ≤ F) (hc : V.fI r 1 = nI c) (hl : c ≤ Ln (r + 1)) (hL : Ln (r + 1) ≤ 1024) (hj : j < 2 ^ 30) : mTo (mX9_isRising F Ln r (nI j) V) (fun v => (v = 1 ∧ ∀ i, j ≤ i → i + 1 < c → V.rI (r + 1) i < V.rI (r + 1) (i + 1)) ∨ (v = 0 ∧ ∃ i, j ≤ i ∧ i + 1 < c ∧ ¬ V.rI (r + 1) i < V.rI (r + 1) (i + 1))) := by
  unfold mX9_isRising mX9_isRising_s
  refine mTo.lt ?_
  rw [nI_1]
  exact T_isRising_go hc hl hL c F j (by omega) (by omega) hj
end
