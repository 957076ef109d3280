/-! THE PURE PART, drawings: the goings of an edge set and their backs. -/
section
/-- who is near whom, the same both ways -/
def symB (nb : Nat → Nat) : Prop := ∀ u v, u < 7 → v < 7 → (nb u).testBit v = (nb v).testBit u
/-- the going from u to v is 7 u + v -/
def alE (nb : Nat → Nat) (x : Nat) : Nat := if x < 49 ∧ (nb (x / 7)).testBit (x % 7) = true then 7 * (x % 7) + x / 7 else x
theorem alE_y {nb : Nat → Nat} {u v : Nat} (hu : u < 7) (hv : v < 7) (h : (nb u).testBit v = true) : alE nb (7 * u + v) = 7 * v + u := by
  have e1 : (7 * u + v) / 7 = u := by omega
  have e2 : (7 * u + v) % 7 = v := by omega
  unfold alE
  rw [e1, e2, if_pos ⟨by omega, h⟩]
theorem alE_n {nb : Nat → Nat} {x : Nat} (h : ¬ (x < 49 ∧ (nb (x / 7)).testBit (x % 7) = true)) : alE nb x = x := if_neg h
theorem alE_two {nb : Nat → Nat} (hs : symB nb) (x : Nat) : alE nb (alE nb x) = x := by
  by_cases h : x < 49 ∧ (nb (x / 7)).testBit (x % 7) = true
  · have hu : x / 7 < 7 := by omega
    have hv : x % 7 < 7 := by omega
    have ex : x = 7 * (x / 7) + x % 7 := by omega
    have e1 : alE nb x = 7 * (x % 7) + x / 7 := if_pos h
    rw [e1, alE_y hv hu (by rw [hs _ _ hv hu]; exact h.2)]
    omega
  · rw [alE_n h, alE_n h]
theorem alE_inv {nb : Nat → Nat} (hs : symB nb) : invN (alE nb) 49 := by
  refine ⟨⟨fun x hx => ?_, fun x hx => alE_n (by omega), fun x y e => ?_⟩, alE_two hs⟩
  · unfold alE
    split
    · omega
    · exact hx
  · rw [← alE_two hs x, e, alE_two hs y]
end
