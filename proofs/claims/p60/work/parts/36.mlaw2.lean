/-! THE LAW, the whole. -/
section
theorem mP_Ln00 : mP (va_up mLn0 3001 0) ≤ 1130000 := by decide +kernel
def mL_law (G : wkG) (F : Nat) : Option Int32 :=
  if ¬ (60 ≤ F) then none else mBN (mL_drawn G F (0 : Int32) (4 : Int32)) fun v334 => mLt ((2 : Int32) + v334) fun x339 => match mL_law_go G F F 0 (va_up mLn0 3001 0) x339 0 0 0 0 0 0 0 mV0 with
    | none => none
    | some p => some p.1
theorem LL_law {G : wkG} {F : Nat} {k n : Nat} {S : wPS} {v : Int32} {Φ : (Int32 → wPS → Prop)} (h : mL_law G F = some v) (hW : wkWF S) (hk : 80000 ≤ k) (hn : 1160000 ≤ n) (hΦ : ∀ S1, Φ v S1) : rL_law G F k n S Φ := by
  unfold mL_law at h
  by_cases hF : ¬ (60 ≤ F)
  · rw [if_pos hF] at h
    cases h
  rw [if_neg hF] at h
  have hF := Decidable.not_not.mp hF
  obtain ⟨v334, hv, h⟩ := mBN_some h
  obtain ⟨x, hx, h⟩ := mLt_some h
  cases e : mL_law_go G F F 0 (va_up mLn0 3001 0) x 0 0 0 0 0 0 0 mV0 with
  | none =>
    rw [e] at h
    cases h
  | some p =>
    rw [e] at h
    obtain ⟨v', Ln1, V1⟩ := p
    have hv' : v' = v := by
      cases h
      rfl
    subst hv'
    have m0 := mP_Ln00
    unfold rL_law rL_law_s
    refine ⟨by omega, by omega, fun q hq => ?_⟩
    have X : rX11_init F 2000 20000 q (wnO S q 11) (fun _ S331 => wkWF S331 ∧ rL_drawn G F (0 : Int32) (4 : Int32) S331 fun v334 S335 => wkLt (((2 : Int32) + v334)) fun x339 => rL_law_go G F k n F 0 ((0 + 1) + 2000) ((0 + 19) + 20000) q x339 (0 : Int32) 0 0 0 0 0 0 S335 Φ) := by
      refine LX11_init hF hq (by omega) (by omega) (fun β S' eq Q T d1 d2 w => ⟨w hW, ?_⟩)
      refine LL_drawn hv rfl rfl ?_
      unfold wkLt
      rw [← eq, ← hx]
      exact (LL_law_go F).1 _ _ _ _ _ _ _ (mRel_un mDy_3001 Q) (w hW) e (by omega) (by omega) (fun S1 _ _ => hΦ S1)
    unfold wkLt
    exact ⟨2000, 20000, by omega, by omega, X⟩
end
