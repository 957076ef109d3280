/-! THE PURE PART, flows: a flow is never more than a bar lets through. -/
section
def isum (w : Nat → Int) : Nat → Int
  | 0 => 0
  | n + 1 => isum w n + w n
theorem isum_one {X : Nat → Bool} {a : Nat} {t : Int} : ∀ n, isum (fun v => if X v = true then (if a = v then t else 0) else 0) n = if a < n ∧ X a = true then t else 0
  | 0 => by
    rw [isum, if_neg (by omega)]
  | n + 1 => by
    rw [isum, isum_one n]
    by_cases h : a = n
    · subst h
      rw [if_neg (by omega)]
      by_cases hx : X a = true
      · rw [if_pos hx, if_pos rfl, if_pos ⟨Nat.lt_succ_self _, hx⟩]
        omega
      · rw [if_neg hx, if_neg (fun z => hx z.2)]
        rfl
    · rw [if_neg h]
      have e : (if X n = true then (0 : Int) else 0) = 0 := by
        by_cases hx : X n = true
        · rw [if_pos hx]
        · rw [if_neg hx]
      rw [e]
      by_cases hq : a < n ∧ X a = true
      · rw [if_pos hq, if_pos ⟨by omega, hq.2⟩]
        omega
      · rw [if_neg hq, if_neg (fun z => hq ⟨by omega, z.2⟩)]
        rfl
theorem isum_exs {X : Nat → Bool} {A B : Nat → Nat} {f : Nat → Int} {j : Nat} : ∀ n, isum (fun v => if X v = true then exs A B f v (j + 1) else 0) n = isum (fun v => if X v = true then exs A B f v j else 0) n + isum (fun v => if X v = true then (if A j = v then f j else 0) else 0) n - isum (fun v => if X v = true then (if B j = v then f j else 0) else 0) n
  | 0 => by
    rw [isum, isum, isum, isum]
    rfl
  | n + 1 => by
    rw [isum, isum, isum, isum, isum_exs n]
    by_cases hx : X n = true
    · rw [if_pos hx, if_pos hx, if_pos hx, if_pos hx, exs]
      omega
    · rw [if_neg hx, if_neg hx, if_neg hx, if_neg hx]
      omega
theorem isum_le {X : Nat → Bool} {A B C : Nat → Nat} {f : Nat → Int} {n : Nat} : ∀ m, (∀ i, i < m → 0 ≤ f i ∧ f i ≤ C i) → (∀ i, i < m → A i < n ∧ B i < n) → isum (fun v => if X v = true then exs A B f v m else 0) n ≤ (nsum (barW X A B C) m : Nat)
  | 0, _, _ => by
    have z : ∀ n, isum (fun v => if X v = true then exs A B f v 0 else 0) n = 0 := fun n => by
      induction n with
      | zero => rfl
      | succ n ih =>
        rw [isum, ih, exs]
        by_cases hx : X n = true
        · rw [if_pos hx]
          rfl
        · rw [if_neg hx]
          rfl
    rw [z]
    exact Int.natCast_nonneg _
  | m + 1, hf, hn => by
    have ih := isum_le (X := X) (A := A) (B := B) (C := C) (f := f) (n := n) m (fun i hi => hf i (by omega)) (fun i hi => hn i (by omega))
    obtain ⟨f0, f1⟩ := hf m (by omega)
    obtain ⟨a1, b1⟩ := hn m (by omega)
    rw [isum_exs, isum_one, isum_one, nsum]
    unfold barW
    unfold barW at ih
    by_cases ha : X (A m) = true
    · rw [if_pos ⟨a1, ha⟩]
      cases hb : X (B m) with
      | true =>
        rw [if_pos ⟨b1, rfl⟩, if_neg (fun z => absurd z.2 (by decide))]
        omega
      | false =>
        rw [if_neg (fun z => absurd z.2 (by decide)), if_pos ⟨ha, rfl⟩]
        omega
    · rw [if_neg (fun z => ha z.2), if_neg (c := X (A m) = true ∧ X (B m) = false) (fun z => ha z.1)]
      by_cases hb : B m < n ∧ X (B m) = true
      · rw [if_pos hb]
        omega
      · rw [if_neg hb]
        omega
theorem flow_bar {X : Nat → Bool} {A B C : Nat → Nat} {f : Nat → Int} {m y : Nat} (hf : ∀ i, i < m → 0 ≤ f i ∧ f i ≤ C i) (hn : ∀ i, i < m → A i < y + 2 ∧ B i < y + 2) (h0 : X 0 = true) (h1 : X (y + 1) = false) (he : ∀ v, 1 ≤ v → v < y + 1 → exs A B f v m = 0) : exs A B f 0 m ≤ (nsum (barW X A B C) m : Nat) := by
  have key := isum_le (X := X) (n := y + 2) m hf hn
  have all : ∀ k, k ≤ y → isum (fun v => if X v = true then exs A B f v m else 0) (k + 1) = exs A B f 0 m := fun k => by
    induction k with
    | zero =>
      intro _
      rw [isum, isum, if_pos h0]
      omega
    | succ k ih =>
      intro hk
      rw [isum, ih (by omega), he (k + 1) (by omega) (by omega)]
      by_cases hx : X (k + 1) = true
      · rw [if_pos hx]
        omega
      · rw [if_neg hx]
        omega
  rw [isum, all y (Nat.le_refl _), if_neg (by rw [h1]; decide)] at key
  omega
end
