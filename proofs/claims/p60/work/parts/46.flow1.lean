/-! THE PURE PART, flows: the second half of an accepted flow. -/
section
theorem T_judgeFlow_1 {F : Nat} {Ln : Nat → Nat} {V : mV} {e y : Nat} (hy : y ≤ 5) (h8 : V.fI 2 8 = nI (y + 2)) : ∀ n k' j : Nat, n < k' → y + 1 ≤ j + n → j ≤ y + 1 → mTo (mX7_judgeFlow_go F k' 1 Ln e 0 (nI j) V) (fun p => p.2 = V ∧ (p.1 = 0 ↔ (∀ v, j ≤ v → v < y + 1 → V.rI 26 v = 0) ∧ V.rI 26 0 = V.fI e 8)) := by
  have h81 : V.fI 2 8 - 1 = nI (y + 1) := by rw [h8, nI_pred]
  intro n
  induction n with
  | zero =>
    intro k' j hk hn hj
    obtain ⟨k, rfl⟩ : ∃ k, k' = k + 1 := ⟨k' - 1, by omega⟩
    rw [mX7_judgeFlow_go, if_neg (by decide), if_pos rfl]
    unfold mX7_judgeFlow_b1
    rw [h81, if_pos ((nI_leI (by omega) (by omega)).mpr (by omega))]
    refine mTo.gd (by decide) (mTo.ite (fun h => mTo.ret ⟨rfl, fun _ => ⟨fun v h1 h2 => by omega, h⟩, fun _ => rfl⟩) (fun h => mTo.ret ⟨rfl, fun z => absurd (show (4 : Int32) = 0 from z) (by decide), fun z => absurd z.2 h⟩))
  | succ n ih =>
    intro k' j hk hn hj
    obtain ⟨k, rfl⟩ : ∃ k, k' = k + 1 := ⟨k' - 1, by omega⟩
    rw [mX7_judgeFlow_go, if_neg (by decide), if_pos rfl]
    unfold mX7_judgeFlow_b1
    rw [h81]
    refine mTo.ite (fun h => ?_) (fun h => ?_)
    · have := (nI_leI (a := y + 1) (b := j) (by omega) (by omega)).mp h
      exact mTo.gd (by decide) (mTo.ite (fun h => mTo.ret ⟨rfl, fun _ => ⟨fun v h1 h2 => by omega, h⟩, fun _ => rfl⟩) (fun h => mTo.ret ⟨rfl, fun z => absurd (show (4 : Int32) = 0 from z) (by decide), fun z => absurd z.2 h⟩))
    · have hjm : j < y + 1 := Nat.lt_of_not_le fun z => h ((nI_leI (by omega) (by omega)).mpr z)
      refine mTo.gd (nI_in (by omega) (by omega)) ?_
      rw [nI_clamp (by omega)]
      refine mTo.ite (fun h0 => mTo.lt ?_) (fun h0 => mTo.ret ⟨rfl, fun z => absurd (show (3 : Int32) = 0 from z) (by decide), fun z => absurd (z.1 j (Nat.le_refl _) hjm) h0⟩)
      rw [nI_1]
      refine (ih k (j + 1) (by omega) (by omega) (by omega)).mono (fun p hp => ⟨hp.1, fun z => ?_, fun z => hp.2.mpr ⟨fun v h1 h2 => z.1 v (by omega) h2, z.2⟩⟩)
      obtain ⟨a, b⟩ := hp.2.mp z
      refine ⟨fun v h1 h2 => ?_, b⟩
      by_cases hv : v = j
      · subst hv
        exact h0
      · exact a v (by omega) h2
end
