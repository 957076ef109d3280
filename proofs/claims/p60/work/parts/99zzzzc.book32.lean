/-! THE LAW: a step, its undoing, and the look at its entry. -/
section
theorem T_b3 {G : wkG} {F n j k c : Nat} {Q : Nat → qT} {Ln L : Nat → Nat} {V0 V : mV} {l2 l4 : Int32} {is : Int64} {rec : Nat → (Nat → Nat) → Int32 → Int32 → Int32 → Int32 → Int32 → Int64 → Int32 → Int64 → mV → Option (Int32 × (Nat → Nat) × mV)} {R : Int32 × (Nat → Nat) × mV → Prop} (hL : G.1 9 ≤ 260) (hF : 2 ^ 34 ≤ F) (h0 : bST Ln V0 n Q) (hj : j < n) (hp : Qs (Q 100) = 1) (hk : k < 14) (hT : Ln 3000 + c + 11 < 5000) (hs : stepR Ln c n j Q is L V) (K : ∀ L2 V2 Q2, bST L2 V2 n Q2 → Qs (Q2 100) = 1 → L2 3000 ≤ Ln 3000 + c + 11 → L2 3001 = Ln 3001 → mTo (rec 2 L2 l2 (nI (k + 1)) 0 0 0 0 0 0 V2) R) : mTo (mL_law_b3 G F rec L l2 (nI k) l4 (nI j) (csQ Q n) is V) R := by
  have n12 := h0.1.1.2.1
  have one : ∀ L1 V1 Q1, bST L1 V1 n Q1 → Qs (Q1 100) = 1 → L1 3000 ≤ Ln 3000 + c → L1 3001 = Ln 3001 → mTo (mBA (mL_isOne G F L1 (nI j) (((900 : Int32) + ((11 : Int32) * nI k))) V1) fun v250 L251 V251 => (if v250 = 0 then some ((0 : Int32), L251, V251) else (mLt (nI k + (1 : Int32)) fun x256 => (rec 2 L251 (l2) (x256) 0 0 0 0 0 0 V251)))) R := fun L1 V1 Q1 I1 p1 b1 b2 => by
    rw [show (900 : Int32) = nI 900 from rfl, show (11 : Int32) = nI 11 from rfl, nI_mulC, nI_add]
    refine mTo.A (T_isOne hF hL (by omega) hj I1 (by omega)) (fun v L2 V2 _ h => ?_)
    obtain ⟨h1, h2⟩ := h
    have h1 : v = 1 := h1
    have h2 : bAt L1 11 n Q1 L2 V2 := h2
    rw [h1, if_neg (by decide), nI_1]
    exact mTo.lt (K L2 V2 Q1 h2.1 p1 (by have := h2.2.1; omega) (by rw [h2.2.2, b2]))
  have q100 : ∀ q', Qs (va_up Q j q' 100) = 1 := fun q' => by rw [mUp_ne _ _ (show (100 : Nat) ≠ j by omega)]; exact hp
  unfold mL_law_b3
  rcases hs with ⟨s1, ⟨q', s2⟩, s3, s4, s5⟩ | ⟨s1, s2⟩
  · refine mTo.ite (fun _ => ?_) (fun _ => one L V _ s2 (q100 q') s4 s5)
    rw [if_neg s1]
    refine mTo.A (T_undoS h0 s2 hj s3) (fun v L1 V1 _ h => ?_)
    obtain ⟨u1, u2, u3⟩ := h
    have u2 : bST L1 V1 n Q := u2
    have u3 : L1 = L := u3
    rw [if_neg u1]
    refine mTo.A (T_checksum hF u2.1) (fun v2 L2 V2 _ h => ?_)
    obtain ⟨c1, c2⟩ := h
    have c1 : v2 = csQ Q n := c1
    have c3 := lkP.at u2 c2
    rw [c1, if_pos ((lg_cmp_eq _ _).mpr rfl)]
    refine one L2 V2 Q c3.1 hp ?_ ?_
    · have := c3.2.1
      rw [u3] at this
      exact Nat.le_trans this (by omega)
    · have := c3.2.2
      rw [u3] at this
      exact this.trans s5
  · refine mTo.ite (fun _ => ?_) (fun _ => one L V Q s2.1 hp s2.2.1 s2.2.2)
    rw [if_pos s1]
    exact one L V Q s2.1 hp s2.2.1 s2.2.2
end
