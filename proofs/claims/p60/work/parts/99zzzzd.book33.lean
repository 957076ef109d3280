/-! THE LAW: the items of a new entry are drawn. -/
section
theorem T_b1go {G : wkG} {F i m X : Nat} {l2 : Int32} {R : Int32 × (Nat → Nat) × mV → Prop} (hL : G.1 9 ≤ 260) (hF : 2 ^ 34 ≤ F) (hi : i < 12) (hm : m ≤ 12) (B S : Nat) (hB : B + 2 < 5000) (K : ∀ L2 V2 Q2, bST L2 V2 (i + 1) Q2 → Qs (Q2 100) = 0 → L2 3000 ≤ B → L2 3001 = S → ∀ f, X ≤ f → mTo (mL_law_go G F f 0 L2 l2 (nI (i + 1)) 0 0 0 0 0 0 V2) R) : ∀ k' k L V Q, m + 1 + X ≤ k + k' → k ≤ m → X + 1 ≤ k' → bST L V (i + 1) Q → Qs (Q 100) = 0 → Qm (Q i) ≤ k → L 3000 + 2 * (m - k) ≤ B → L 3001 = S → mTo (mL_law_go G F k' 1 L l2 (nI i) 0 0 (nI m) 0 (nI k) 0 V) R := by
  intro k'
  induction k' with
  | zero => intro k L V Q h1 h2 h3; omega
  | succ k' ih =>
    intro k L V Q h1 h2 h3 hI hp hq hb hs
    rw [mL_law_go, if_neg (by decide), if_pos rfl]
    unfold mL_law_b1
    refine mTo.le rfl rfl (by omega) (by omega) (fun z => mTo.lt ?_) (fun z => ?_)
    · rw [nI_1]
      exact K L V Q hI hp (by omega) hs k' (by omega)
    · rw [show (40 : Int32) = nI 40 from rfl, show (100 : Int32) = nI 100 from rfl, show (7 : Int32) = nI 7 from rfl, nI_mulC, nI_mulC, nI_add, nI_add]
      refine mTo.A (T_wrP hL hF hI (show i < i + 1 by omega) (by omega) (by omega)) (fun v L1 V1 _ h => ?_)
      have go : ∀ Q1, bST L1 V1 (i + 1) Q1 → Qs (Q1 100) = 0 → Qm (Q1 i) ≤ k + 1 → L1 3000 ≤ L 3000 + 2 → L1 3001 = L 3001 → mTo (mLt (nI k + (1 : Int32)) fun x80 => (mL_law_go G F k' 1 L1 l2 (nI i) 0 0 (nI m) 0 (x80) 0 V1)) R := fun Q1 I1 p1 q1 b1 b2 => by
        rw [nI_1]
        exact mTo.lt (ih (k + 1) L1 V1 Q1 (by omega) (by omega) (by omega) I1 p1 q1 (by omega) (by rw [b2, hs]))
      rcases h with ⟨x, g1, g2, _, g4, g5⟩ | ⟨g1, g2⟩
      · have g1 : v = Int32.toInt64 (nI (Qm (Q i) + 1)) := g1
        have le : lg_cmp v (Int32.toInt64 (nI m)) ≤ 0 := by
          rw [g1, lg_cmp_le, i64_le, i64_of, i64_of, nI_toInt (by omega), nI_toInt (by omega)]
          omega
        have ne : ¬ lg_cmp v (-4000000000000000001 : Int64) = 0 := fun c => by
          have y := congrArg Int64.toInt ((lg_cmp_eq _ _).mp c)
          rw [g1, i64_of, nI_toInt (by omega)] at y
          have e : (-4000000000000000001 : Int64).toInt = -4000000000000000001 := by decide
          omega
        rw [if_neg ne, if_pos le]
        exact go _ g2 (by rw [mUp_ne _ _ (show (100 : Nat) ≠ i by omega)]; exact hp) (by rw [mUp_eq]; show Qm (Q i) + 1 ≤ k + 1; omega) g4 g5
      · have g1 : v = -4000000000000000002 ∨ v = -4000000000000000003 ∨ v = -4000000000000000004 := g1
        have ne : ¬ lg_cmp v (-4000000000000000001 : Int64) = 0 := by rcases g1 with e | e | e <;> rw [e] <;> decide
        have le : lg_cmp v (Int32.toInt64 (nI m)) ≤ 0 := by
          rw [lg_cmp_le, i64_le, i64_of, nI_toInt (by omega)]
          have : v.toInt < 0 := by rcases g1 with e | e | e <;> rw [e] <;> decide
          omega
        rw [if_neg ne, if_pos le]
        exact go Q g2.1 hp (by omega) g2.2.1 g2.2.2
end
