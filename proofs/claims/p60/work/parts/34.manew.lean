/-! isAnew, the whole. -/
section
theorem mP_Ln0 : mP mLn0 ≤ 330000 := by decide +kernel
def mL_isAnew (G : wkG) (F : Nat) (Ln : Nat → Nat) (V : mV) : Option (Int32 × (Nat → Nat) × mV) :=
  if ¬ (Ln 3001 < 2 ∧ 60 ≤ F) then none else match mL_isAnew_go G F F 0 (va_up Ln 3001 (Ln 3001 + 1)) mLn0 0 0 V mV0 with
    | none => none
    | some p => some (p.1, p.2.1, p.2.2.1)
theorem mL_isAnew_some {G : wkG} {F : Nat} {Ln Ln1 : Nat → Nat} {V V1 : mV} {v : Int32} (h : mL_isAnew G F Ln V = some (v, Ln1, V1)) : Ln 3001 < 2 ∧ 60 ≤ F ∧ ∃ (Lm1 : Nat → Nat) (U1 : mV), mL_isAnew_go G F F 0 (va_up Ln 3001 (Ln 3001 + 1)) mLn0 0 0 V mV0 = some (v, Ln1, V1, Lm1, U1) := by
  unfold mL_isAnew at h
  by_cases c : ¬ (Ln 3001 < 2 ∧ 60 ≤ F)
  · rw [if_pos c] at h
    cases h
  · rw [if_neg c] at h
    have c2 := Decidable.not_not.mp c
    cases e : mL_isAnew_go G F F 0 (va_up Ln 3001 (Ln 3001 + 1)) mLn0 0 0 V mV0 with
    | none =>
      rw [e] at h
      cases h
    | some p =>
      rw [e] at h
      obtain ⟨p1, p2, p3, p4, p5⟩ := p
      cases h
      exact ⟨c2.1, c2.2, p4, p5, rfl⟩
theorem ML_isAnew {G : wkG} {F : Nat} {Ln Ln1 : Nat → Nat} {V V1 : mV} {v : Int32} (h : mL_isAnew G F Ln V = some (v, Ln1, V1)) : mP Ln1 ≤ mP Ln := by
  obtain ⟨c, _, Lm1, U1, h⟩ := mL_isAnew_some h
  have m1 := (ML_isAnew_go F).1 _ _ _ _ _ h
  have m2 := mP_an c
  have m3 := mP_Ln0
  omega
theorem LL_isAnew {G : wkG} {α : Nat → Nat} {F : Nat} {S : wPS} {Ln Ln1 : Nat → Nat} {V V1 : mV} {v : Int32} {Φ : (Int32 → wPS → Prop)} {k0 n0 : Nat} (h : mL_isAnew G F Ln V = some (v, Ln1, V1)) (R : mRel α S Ln V) (hW : wkWF S) (hk : (mP Ln - mP Ln1) / 16 ≤ k0) (hn : mP Ln - mP Ln1 ≤ n0) (k : ∀ S1, mRel α S1 Ln1 V1 → mFr α S S1 → Φ v S1) : rL_isAnew G F k0 n0 (α 0) S Φ := by
  obtain ⟨c, hF, Lm1, U1, h⟩ := mL_isAnew_some h
  have m1 := (ML_isAnew_go F).1 _ _ _ _ _ h
  have m2 := mP_an c
  have m3 := mP_Ln0
  unfold rL_isAnew rL_isAnew_s
  refine ⟨by omega, by omega, fun q hq => ?_⟩
  have X : rX11_init F 2000 20000 q (wnO S q 11) (fun _ S115 => wkWF S115 ∧ rL_isAnew_go G F k0 n0 F 0 ((0 + 1) + 2000) ((0 + 19) + 20000) (α 0) q (0 : Int32) 0 S115 Φ) := by
    refine LX11_init hF hq (by omega) (by omega) (fun β S' e Q T d1 d2 w => ⟨w hW, ?_⟩)
    obtain ⟨R', hm⟩ := mRel_same R T
    have D : mDis α β S S' := ⟨fun i hi => (R.1 i hi).1, d1, d2, fun i d hi hd e => d1 i hi (by rw [e, hm d hd]; exact (R.2.2.2.2.2.2.2.1 d hd).2.1.1), fun d d' hd hd' e => d2 d hd (by rw [e, hm d' hd']; exact (R.2.2.2.2.2.2.2.1 d' hd').2.1.1)⟩
    rw [← e]
    exact (LL_isAnew_go (fun S1 R1 F1 => k S1 R1 F1) F).1 0 S' V mV0 _ mLn0 _ _ (mRel_un mDy_3001 R') Q D (mFr_same R T w) h (by omega) (by omega)
  unfold wkLt
  exact ⟨2000, 20000, by omega, by omega, X⟩
end
