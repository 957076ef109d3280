/-! THE PURE PART, inequalities: how large a determinant can be: columns with one 1 are of no weight. -/
section
def kNu (U : Nat → Bool) : Nat → Nat
  | 0 => 0
  | n + 1 => kNu U n + (if U n = true then 0 else 1)
def PRu (U : Nat → Bool) (E : Nat → Nat) : Nat → Nat
  | 0 => 1
  | n + 1 => PRu U E n * (if U n = true then 1 else E n)
def fct : Nat → Nat
  | 0 => 1
  | n + 1 => (n + 1) * fct n
def uSm (f : Nat → Int) : Nat → Nat
  | 0 => 0
  | n + 1 => uSm f n + (f n).natAbs
theorem kNu_c {U W : Nat → Bool} : ∀ n, (∀ k, k < n → U k = W k) → kNu U n = kNu W n
  | 0, _ => rfl
  | n + 1, h => by rw [kNu, kNu, kNu_c n (fun k hk => h k (by omega)), h n (by omega)]
theorem PRu_c {U W : Nat → Bool} {E G : Nat → Nat} : ∀ n, (∀ k, k < n → U k = W k ∧ E k = G k) → PRu U E n = PRu W G n
  | 0, _ => rfl
  | n + 1, h => by rw [PRu, PRu, PRu_c n (fun k hk => h k (by omega)), (h n (by omega)).1, (h n (by omega)).2]
theorem kNu_d {U : Nat → Bool} {j : Nat} : ∀ n, j ≤ n → kNu U (n + 1) = kNu (fun k => U (skp j k)) n + (if U j = true then 0 else 1)
  | 0, h => by
    have : j = 0 := by omega
    subst this
    rfl
  | n + 1, h => by
    by_cases e : j = n + 1
    · subst e
      rw [kNu, kNu_c (U := U) (W := fun k => U (skp (n + 1) k)) (n + 1) (fun k hk => by
        unfold skp
        rw [if_pos hk])]
    · rw [kNu, kNu_d n (j := j) (by omega), kNu]
      have : skp j n = n + 1 := by
        unfold skp
        rw [if_neg (by omega)]
      show _ = kNu (fun k => U (skp j k)) n + (if U (skp j n) = true then 0 else 1) + (if U j = true then 0 else 1)
      rw [this]
      omega
theorem PRu_d {U : Nat → Bool} {E : Nat → Nat} {j : Nat} : ∀ n, j ≤ n → PRu U E (n + 1) = PRu (fun k => U (skp j k)) (fun k => E (skp j k)) n * (if U j = true then 1 else E j)
  | 0, h => by
    have : j = 0 := by omega
    subst this
    rfl
  | n + 1, h => by
    by_cases e : j = n + 1
    · subst e
      rw [PRu, PRu_c (U := U) (W := fun k => U (skp (n + 1) k)) (E := E) (G := fun k => E (skp (n + 1) k)) (n + 1) (fun k hk => by
        unfold skp
        rw [if_pos hk]
        exact ⟨rfl, rfl⟩)]
    · rw [PRu, PRu_d n (j := j) (by omega), PRu]
      have : skp j n = n + 1 := by
        unfold skp
        rw [if_neg (by omega)]
      show _ = PRu (fun k => U (skp j k)) (fun k => E (skp j k)) n * (if U (skp j n) = true then 1 else E (skp j n)) * (if U j = true then 1 else E j)
      rw [this, Nat.mul_assoc, Nat.mul_assoc, Nat.mul_comm (if U j = true then 1 else E j)]
theorem uSm_0 {f : Nat → Int} : ∀ n i, i < n → (f i).natAbs ≤ uSm f n
  | 0, _, h => absurd h (Nat.not_lt_zero _)
  | n + 1, i, h => by
    rw [uSm]
    by_cases e : i = n
    · rw [e]
      omega
    · have := uSm_0 (f := f) n i (by omega)
      omega
theorem uSm_s {f : Nat → Int} : ∀ n, uSm f (n + 1) = (f 0).natAbs + uSm (fun i => f (i + 1)) n
  | 0 => by simp [uSm]
  | n + 1 => by
    rw [uSm, uSm_s n, uSm]
    omega
def abS (f : Nat → Int) : Nat → Nat := uSm f
theorem dsz_ab {f : Nat → Int} : ∀ n, (dsz n f).natAbs ≤ uSm f n
  | 0 => Nat.le_refl _
  | n + 1 => by
    rw [dsz, uSm]
    have := dsz_ab (f := f) n
    omega
theorem uSm_k {f : Nat → Int} {U : Nat → Bool} {B : Nat} : ∀ n, (∀ j, j < n → (f j).natAbs ≤ if U j = true then 0 else B) → uSm f n ≤ kNu U n * B
  | 0, _ => Nat.zero_le _
  | n + 1, h => by
    rw [uSm, kNu, Nat.add_mul]
    have a := uSm_k n (fun j hj => h j (by omega))
    have b := h n (by omega)
    by_cases e : U n = true
    · rw [if_pos e] at b ⊢
      omega
    · rw [if_neg e] at b ⊢
      omega
theorem det_le : ∀ n {M : Nat → Nat → Int} {U : Nat → Bool} {E : Nat → Nat}, (∀ j, j < n → U j = true → uSm (M j) n ≤ 1) → (∀ j i, j < n → i < n → U j ≠ true → (M j i).natAbs ≤ E j) → (det n M).natAbs ≤ fct (kNu U n) * PRu U E n
  | 0, _, _, _, _, _ => Nat.le_refl _
  | n + 1, M, U, E, h1, h2 => by
    have ih : ∀ j, j < n + 1 → (det n (mnM M j)).natAbs ≤ fct (kNu (fun k => U (skp j k)) n) * PRu (fun k => U (skp j k)) (fun k => E (skp j k)) n := fun j hj => by
      have sk : ∀ k, k < n → skp j k < n + 1 := fun k hk => by
        unfold skp
        by_cases e : k < j
        · rw [if_pos e]; omega
        · rw [if_neg e]; omega
      refine det_le n (fun k hk hu => ?_) (fun k i hk hi hu => h2 _ _ (sk k hk) (by omega) hu)
      have a := h1 _ (sk k hk) hu
      rw [uSm_s] at a
      show uSm (fun i => M (skp j k) (i + 1)) n ≤ 1
      omega
    by_cases c : ∃ j, j < n + 1 ∧ U j = true ∧ M j 0 ≠ 0
    · obtain ⟨j, j1, j2, j3⟩ := c
      have a := h1 j j1 j2
      rw [uSm_s] at a
      have zero : ∀ i, i < n → M j (i + 1) = 0 := fun i hi => by
        have q : (M j (i + 1)).natAbs ≤ uSm (fun i => M j (i + 1)) n := uSm_0 (f := fun i => M j (i + 1)) n i hi
        omega
      have other : ∀ l, l < n + 1 → l ≠ j → sgj l * M l 0 * det n (mnM M l) = 0 := fun l hl hn => by
        have : det n (mnM M l) = 0 := by
          by_cases e : j < l
          · refine det_z (k := j) (by omega) (fun i hi => ?_)
            unfold mnM skp
            rw [if_pos e]
            exact zero i hi
          · refine det_z (k := j - 1) (by omega) (fun i hi => ?_)
            unfold mnM skp
            rw [if_neg (by omega), show j - 1 + 1 = j by omega]
            exact zero i hi
        rw [this, Int.mul_zero]
      rw [det, dsz_1 (n + 1) j1 other, Int.natAbs_mul, Int.natAbs_mul, sgj_n, Nat.one_mul]
      have k := kNu_d (U := U) (j := j) n (by omega)
      have p := PRu_d (U := U) (E := E) (j := j) n (by omega)
      rw [if_pos j2, Nat.add_zero] at k
      rw [if_pos j2, Nat.mul_one] at p
      rw [k, p]
      have := Nat.mul_le_mul (show (M j 0).natAbs ≤ 1 by omega) (ih j j1)
      rw [Nat.one_mul] at this
      exact this
    · have c : ∀ j, j < n + 1 → U j = true → M j 0 = 0 := fun j a b => Decidable.byContradiction fun z => c ⟨j, a, b, z⟩
      have term : ∀ j, j < n + 1 → (sgj j * M j 0 * det n (mnM M j)).natAbs ≤ if U j = true then 0 else fct (kNu U (n + 1) - 1) * PRu U E (n + 1) := fun j hj => by
        by_cases e : U j = true
        · rw [if_pos e, c j hj e, Int.mul_zero, Int.zero_mul]
          exact Nat.le_refl _
        · rw [if_neg e, Int.natAbs_mul, Int.natAbs_mul, sgj_n, Nat.one_mul]
          have k := kNu_d (U := U) (j := j) n (by omega)
          have p := PRu_d (U := U) (E := E) (j := j) n (by omega)
          rw [if_neg e] at k p
          rw [k, p, Nat.add_sub_cancel]
          refine Nat.le_trans (Nat.mul_le_mul (h2 j 0 hj (by omega) e) (ih j hj)) (Nat.le_of_eq ?_)
          rw [Nat.mul_comm, Nat.mul_assoc]
      have s := Nat.le_trans (dsz_ab (n + 1)) (uSm_k (n + 1) term)
      rw [det]
      refine Nat.le_trans s ?_
      by_cases z : kNu U (n + 1) = 0
      · rw [z, Nat.zero_mul]
        exact Nat.zero_le _
      · obtain ⟨t, ht⟩ : ∃ t, kNu U (n + 1) = t + 1 := ⟨kNu U (n + 1) - 1, by omega⟩
        rw [ht, Nat.add_sub_cancel, fct, Nat.mul_assoc]
        exact Nat.le_refl _
def prR (E : Nat → Nat) : Nat → Nat
  | 0 => 1
  | n + 1 => E 0 * prR (fun i => E (i + 1)) n
/-- by rows -/
theorem det_leR : ∀ n {M : Nat → Nat → Int} {E : Nat → Nat}, (∀ j i, j < n → i < n → (M j i).natAbs ≤ E i) → (det n M).natAbs ≤ fct n * prR E n
  | 0, _, _, _ => Nat.le_refl _
  | n + 1, M, E, h => by
    have term : ∀ j, j < n + 1 → (sgj j * M j 0 * det n (mnM M j)).natAbs ≤ if (fun _ => false) j = true then 0 else fct n * prR E (n + 1) := fun j hj => by
      rw [if_neg (show ¬ false = true by decide), Int.natAbs_mul, Int.natAbs_mul, sgj_n, Nat.one_mul, prR]
      have ih := det_leR n (M := mnM M j) (E := fun i => E (i + 1)) (fun k i hk hi => by
        unfold mnM skp
        by_cases e : k < j
        · rw [if_pos e]
          exact h _ _ (by omega) (by omega)
        · rw [if_neg e]
          exact h _ _ (by omega) (by omega))
      refine Nat.le_trans (Nat.mul_le_mul (h j 0 hj (by omega)) ih) (Nat.le_of_eq ?_)
      rw [← Nat.mul_assoc, ← Nat.mul_assoc, Nat.mul_comm (E 0)]
    have s := Nat.le_trans (dsz_ab (n + 1)) (uSm_k (n + 1) term)
    have k : ∀ n, kNu (fun _ => false) n = n := fun n => by
      induction n with
      | zero => rfl
      | succ n ih =>
        rw [kNu, ih]
        rfl
    rw [k] at s
    rw [det, fct, Nat.mul_assoc]
    exact s
end
