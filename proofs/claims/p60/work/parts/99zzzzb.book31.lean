/-! THE LAW: a bound, a leaning, a standing: steps. -/
section
theorem w64_ge (x : Int32) : 0 ≤ lg_cmp (Int32.toInt64 x) (-2000000000000000000 : Int64) := by
  rw [lg_cmp_ge, i64_le, i64_of]
  have := Int32.le_toInt x
  have e : (-2000000000000000000 : Int64).toInt = -2000000000000000000 := by decide
  omega
theorem w64_ne (x : Int32) : ¬ lg_cmp (Int32.toInt64 x) (-4000000000000000002 : Int64) = 0 := fun c => by
  have y := congrArg Int64.toInt ((lg_cmp_eq _ _).mp c)
  rw [i64_of] at y
  have := Int32.le_toInt x
  have e : (-4000000000000000002 : Int64).toInt = -4000000000000000002 := by decide
  omega
theorem T_leanK {G : wkG} {F n j l : Nat} {Q : Nat → qT} {Ln : Nat → Nat} {V : mV} {pl : Int32} {f : Int64 → (Nat → Nat) → mV → Option (Int32 × (Nat → Nat) × mV)} {R : Int32 × (Nat → Nat) × mV → Prop} (hF : 2 ^ 34 ≤ F) (hI : bST Ln V n Q) (hj : j < n) (hl : l < n) (hT : Ln 3000 < 5000) (k : ∀ is L V1, stepR Ln 1 n j Q is L V1 → mTo (f is L V1) R) : mTo (mBA (mL_lean G F Ln (nI j) (nI l) pl V) fun v L1 V1 => (if 0 ≤ (lg_cmp v (-2000000000000000000 : Int64)) then f (0 : Int64) L1 V1 else f (-4000000000000000000 : Int64) L1 V1)) R := by
  refine mTo.A (T_lean hF hI hj hl hT) (fun v L V1 _ h => ?_)
  rcases h with ⟨x, h1, h2, h3, h4, h5⟩ | ⟨h1, h2⟩
  · have h1 : v = Int32.toInt64 x := h1
    rw [h1, if_pos (w64_ge x)]
    have h4 : L 3000 ≤ Ln 3000 := h4
    exact k _ L V1 (Or.inl ⟨by decide, ⟨_, h2⟩, h3, by omega, h5⟩)
  · have h1 : v = -4000000000000000002 ∨ v = -4000000000000000003 := h1
    rw [if_neg (by rcases h1 with e | e <;> rw [e] <;> decide)]
    exact k _ L V1 (Or.inr ⟨by decide, h2⟩)
theorem T_standK {G : wkG} {F n j : Nat} {Q : Nat → qT} {Ln : Nat → Nat} {V : mV} {f : Int64 → (Nat → Nat) → mV → Option (Int32 × (Nat → Nat) × mV)} {R : Int32 × (Nat → Nat) × mV → Prop} (hF : 2 ^ 34 ≤ F) (hI : bST Ln V n Q) (hj : j < n) (hT : Ln 3000 < 5000) (k : ∀ is L V1, stepR Ln 1 n j Q is L V1 → mTo (f is L V1) R) : mTo (mBA (mL_stand G F Ln (nI j) V) fun v L1 V1 => (if 0 ≤ (lg_cmp v (-2000000000000000000 : Int64)) then f (0 : Int64) L1 V1 else f (-4000000000000000000 : Int64) L1 V1)) R := by
  refine mTo.A (T_stand hF hI hj hT) (fun v L V1 _ h => ?_)
  rcases h with ⟨x, h1, h2, h3, h4, h5⟩ | ⟨h1, h2⟩
  · have h1 : v = Int32.toInt64 x := h1
    rw [h1, if_pos (w64_ge x)]
    have h4 : L 3000 ≤ Ln 3000 := h4
    exact k _ L V1 (Or.inl ⟨by decide, ⟨_, h2⟩, h3, by omega, h5⟩)
  · have h1 : v = -4000000000000000002 := h1
    rw [h1, if_neg (by decide)]
    exact k _ L V1 (Or.inr ⟨by decide, h2⟩)
theorem T_setBK {G : wkG} {F n j : Nat} {Q : Nat → qT} {Ln : Nat → Nat} {V : mV} {b : Int32} {f : Int64 → (Nat → Nat) → mV → Option (Int32 × (Nat → Nat) × mV)} {R : Int32 × (Nat → Nat) × mV → Prop} (hF : 2 ^ 34 ≤ F) (hI : bST Ln V n Q) (hj : j < n) (hT : Ln 3000 < 5000) (k : ∀ is L V1, stepR Ln 1 n j Q is L V1 → mTo (f is L V1) R) : mTo (mBA (mL_setBound G F Ln (nI j) b V) fun v L1 V1 => (if (lg_cmp v (-4000000000000000002 : Int64)) = 0 then f (-4000000000000000000 : Int64) L1 V1 else f (0 : Int64) L1 V1)) R := by
  refine mTo.A (T_setBound hF hI hj hT) (fun v L V1 _ h => ?_)
  rcases h with ⟨x, _, h1, h2, h3, h4, h5⟩ | ⟨h1, h2⟩
  · have h1 : v = Int32.toInt64 x := h1
    rw [h1, if_neg (w64_ne x)]
    have h4 : L 3000 ≤ Ln 3000 := h4
    exact k _ L V1 (Or.inl ⟨by decide, ⟨_, h2⟩, h3, by omega, h5⟩)
  · have h1 : v = -4000000000000000002 := h1
    rw [h1, if_pos (by decide)]
    exact k _ L V1 (Or.inr ⟨by decide, h2⟩)
end
