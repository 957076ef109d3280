/-! THE LAW: a claim of either sense. -/
section
theorem T_claimN {G : wkG} {F n j : Nat} {Q : Nat → qT} {Ln : Nat → Nat} {V : mV} {f : (Nat → Nat) → mV → Option (Int32 × (Nat → Nat) × mV)} {R : Int32 × (Nat → Nat) × mV → Prop} (hF : 2 ^ 34 ≤ F) (hI : bST Ln V n Q) (hj : j < n) (hp : Qs (Q 100) = 1) (hT : Ln 3000 + 1 < 5000) (k : ∀ L V1, bAt Ln 2 n Q L V1 → mTo (f L V1) R) : mTo (mBA (mL_borrow G F Ln (nI j) V) fun v193 L194 V194 => (if (lg_cmp v193 (0 : Int64)) < 0 then f L194 V194 else (mBA (mL_answer G F L194 (nI j) V194) fun v199 L200 V200 => (if (lg_cmp v199 (110 : Int64)) = 0 then (mBA (mL_claim G F L200 ((0 : Int32)) (nI j) ((1 : Int32)) V200) fun v211 L212 V212 => (if 0 ≤ (lg_cmp v211 (1 : Int64)) then f L212 V212 else some ((0 : Int32), L212, V212))) else (mBA (mL_claim G F L200 ((0 : Int32)) (nI j) ((0 : Int32)) V200) fun v205 L206 V206 => (if 0 ≤ (lg_cmp v205 (1 : Int64)) then f L206 V206 else some ((0 : Int32), L206, V206))))))) R := by
  refine mTo.A (T_borrow hF hI hj (by omega)) (fun v L V1 _ h => ?_)
  obtain ⟨I1, l1, l2, fr, h⟩ := h
  have I1 : bST L V1 n Q := I1
  have l1 : L 3000 ≤ Ln 3000 + 1 := l1
  have l2 : L 3001 = Ln 3001 := l2
  have fr : frs V1 Q j := fr
  obtain ⟨_, _, _, _, _, w1, w2, w3, w4, _⟩ := frs_val I1.1 hj fr
  rcases h with ⟨h1, h2, h3⟩ | ⟨_, _, h2⟩
  · have h2 : v = Int32.toInt64 (nI (aRw (Q j) (bnd Q j)).length) := h2
    have h3 : rowIs L V1 2048 (aRw (Q j) (bnd Q j)) := h3
    rw [h2, if_neg (cmp_nI (by omega))]
    refine mTo.A (T_answer hF I1.1 hj) (fun v2 L2 V2 _ h => ?_)
    obtain ⟨a1, a2, a3⟩ := h
    have a1 : v2 = Int32.toInt64 (aRp (Q j) (bnd Q j)) := a1
    have a2 : lkP L V1 n Q L2 V2 := a2
    have b2 := lkP.at I1 a2
    have t2 := a2.1.row h3 (by unfold wRf; omega) (by unfold wRf; omega)
    have th : L2 3000 ≤ Ln 3000 + 1 := by have := b2.2.1; omega
    have th2 : L2 3001 = Ln 3001 := by rw [b2.2.2, l2]
    have big : ∀ (x : Int32), 1 ≤ x.toInt → 0 ≤ lg_cmp (Int32.toInt64 x) (1 : Int64) := fun x hx => by
      rw [lg_cmp_ge, i64_le, i64_of]
      exact hx
    have fin : ∀ w : Int32, ¬ (if w = 0 then aNo (Q j) (bnd Q j) (aRw (Q j) (bnd Q j)) else aYs (Q j) (bnd Q j) (aRw (Q j) (bnd Q j))) → (w = 0 ∨ w = 1) → mTo (mBA (mL_claim G F L2 ((0 : Int32)) (nI j) w V2) fun v211 L212 V212 => (if 0 ≤ (lg_cmp v211 (1 : Int64)) then f L212 V212 else some ((0 : Int32), L212, V212))) R := fun w nw hw => by
      refine mTo.A (T_claim hF b2.1 hj hp hw (by omega) t2) (fun v3 L3 V3 _ h => ?_)
      obtain ⟨h, b3⟩ := h
      have b3 : bAt L2 1 n Q L3 V3 := b3
      rcases h with ⟨c, _⟩ | ⟨_, x, x1, x2⟩
      · exact absurd c nw
      · have x1 : v3 = Int32.toInt64 x := x1
        rw [x1, if_pos (big x x2)]
        exact k L3 V3 ⟨b3.1, by have := b3.2.1; omega, by rw [b3.2.2, th2]⟩
    rw [a1]
    rcases w1 with e | e
    · rw [e, if_neg (show ¬ lg_cmp (Int32.toInt64 121) (110 : Int64) = 0 by decide)]
      exact fin 0 (by rw [if_pos rfl]; exact fun y => w4 _ _ (w2 e) y) (Or.inl rfl)
    · rw [e, if_pos (show lg_cmp (Int32.toInt64 110) (110 : Int64) = 0 by decide)]
      exact fin 1 (by rw [if_neg (by decide)]; exact fun y => w4 _ _ y (w3 e)) (Or.inr rfl)
  · have h2 : v = -4000000000000000002 := h2
    rw [h2, if_pos (by decide)]
    exact k L V1 ⟨I1, by omega, l2⟩
theorem T_claimO {G : wkG} {F n j : Nat} {Q : Nat → qT} {Ln : Nat → Nat} {V : mV} {f : (Nat → Nat) → mV → Option (Int32 × (Nat → Nat) × mV)} {R : Int32 × (Nat → Nat) × mV → Prop} (hF : 2 ^ 34 ≤ F) (hI : bST Ln V n Q) (hj : j < n) (hp : Qs (Q 100) = 1) (hT : Ln 3000 + 1 < 5000) (k : ∀ L V1, bAt Ln 2 n Q L V1 → mTo (f L V1) R) : mTo (mBA (mL_borrow G F Ln (nI j) V) fun v193 L194 V194 => (if (lg_cmp v193 (0 : Int64)) < 0 then f L194 V194 else (mBA (mL_answer G F L194 (nI j) V194) fun v199 L200 V200 => (if (lg_cmp v199 (121 : Int64)) = 0 then (mBA (mL_claim G F L200 ((0 : Int32)) (nI j) ((1 : Int32)) V200) fun v211 L212 V212 => (if (lg_cmp v211 (0 : Int64)) ≤ 0 then f L212 V212 else some ((0 : Int32), L212, V212))) else (mBA (mL_claim G F L200 ((0 : Int32)) (nI j) ((0 : Int32)) V200) fun v205 L206 V206 => (if (lg_cmp v205 (0 : Int64)) ≤ 0 then f L206 V206 else some ((0 : Int32), L206, V206))))))) R := by
  refine mTo.A (T_borrow hF hI hj (by omega)) (fun v L V1 _ h => ?_)
  obtain ⟨I1, l1, l2, fr, h⟩ := h
  have I1 : bST L V1 n Q := I1
  have l1 : L 3000 ≤ Ln 3000 + 1 := l1
  have l2 : L 3001 = Ln 3001 := l2
  have fr : frs V1 Q j := fr
  obtain ⟨_, _, _, _, _, w1, w2, w3, w4, _⟩ := frs_val I1.1 hj fr
  rcases h with ⟨h1, h2, h3⟩ | ⟨_, _, h2⟩
  · have h2 : v = Int32.toInt64 (nI (aRw (Q j) (bnd Q j)).length) := h2
    have h3 : rowIs L V1 2048 (aRw (Q j) (bnd Q j)) := h3
    rw [h2, if_neg (cmp_nI (by omega))]
    refine mTo.A (T_answer hF I1.1 hj) (fun v2 L2 V2 _ h => ?_)
    obtain ⟨a1, a2, a3⟩ := h
    have a1 : v2 = Int32.toInt64 (aRp (Q j) (bnd Q j)) := a1
    have a2 : lkP L V1 n Q L2 V2 := a2
    have b2 := lkP.at I1 a2
    have t2 := a2.1.row h3 (by unfold wRf; omega) (by unfold wRf; omega)
    have th : L2 3000 ≤ Ln 3000 + 1 := by have := b2.2.1; omega
    have th2 : L2 3001 = Ln 3001 := by rw [b2.2.2, l2]
    have fin : ∀ w : Int32, (if w = 0 then aNo (Q j) (bnd Q j) (aRw (Q j) (bnd Q j)) else aYs (Q j) (bnd Q j) (aRw (Q j) (bnd Q j))) → (w = 0 ∨ w = 1) → mTo (mBA (mL_claim G F L2 ((0 : Int32)) (nI j) w V2) fun v211 L212 V212 => (if (lg_cmp v211 (0 : Int64)) ≤ 0 then f L212 V212 else some ((0 : Int32), L212, V212))) R := fun w nw hw => by
      refine mTo.A (T_claim hF b2.1 hj hp hw (by omega) t2) (fun v3 L3 V3 _ h => ?_)
      obtain ⟨h, b3⟩ := h
      have b3 : bAt L2 1 n Q L3 V3 := b3
      rcases h with ⟨_, c⟩ | ⟨c, _⟩
      · have c : v3 = 0 ∨ v3 = -4000000000000000002 := c
        rw [if_pos (by rcases c with e | e <;> rw [e] <;> decide)]
        exact k L3 V3 ⟨b3.1, by have := b3.2.1; omega, by rw [b3.2.2, th2]⟩
      · exact absurd nw c
    rw [a1]
    rcases w1 with e | e
    · rw [e, if_pos (show lg_cmp (Int32.toInt64 121) (121 : Int64) = 0 by decide)]
      exact fin 1 (by rw [if_neg (by decide)]; exact w2 e) (Or.inr rfl)
    · rw [e, if_neg (show ¬ lg_cmp (Int32.toInt64 110) (121 : Int64) = 0 by decide)]
      exact fin 0 (by rw [if_pos rfl]; exact w3 e) (Or.inl rfl)
  · have h2 : v = -4000000000000000002 := h2
    rw [h2, if_pos (by decide)]
    exact k L V1 ⟨I1, by omega, l2⟩
end
