/-! THE PURE PART: counting; a set that grows comes to rest. -/
section
def cnt (X : Nat → Bool) : Nat → Nat
  | 0 => 0
  | n + 1 => cnt X n + (if X n = true then 1 else 0)
theorem cnt_le {X Y : Nat → Bool} : ∀ n, (∀ i, i < n → X i = true → Y i = true) → cnt X n ≤ cnt Y n
  | 0, _ => Nat.le_refl _
  | n + 1, h => by
    have h1 := cnt_le n (fun i hi => h i (by omega))
    have h2 := h n (by omega)
    unfold cnt
    by_cases hx : X n = true
    · rw [if_pos hx, if_pos (h2 hx)]
      omega
    · rw [if_neg hx]
      omega
theorem cnt_eq {X Y : Nat → Bool} : ∀ n, (∀ i, i < n → X i = Y i) → cnt X n = cnt Y n
  | 0, _ => rfl
  | n + 1, h => by
    have h1 := cnt_eq n (fun i hi => h i (by omega))
    unfold cnt
    rw [h1, h n (by omega)]
theorem cnt_n {X : Nat → Bool} : ∀ n, cnt X n ≤ n
  | 0 => Nat.le_refl _
  | n + 1 => by
    have h1 := cnt_n (X := X) n
    unfold cnt
    by_cases hx : X n = true
    · rw [if_pos hx]
      omega
    · rw [if_neg hx]
      omega
theorem cnt_0 {X : Nat → Bool} : ∀ n, (∀ i, i < n → X i = false) → cnt X n = 0
  | 0, _ => rfl
  | n + 1, h => by
    unfold cnt
    rw [cnt_0 n (fun i hi => h i (by omega)), if_neg (by rw [h n (by omega)]; decide)]
/-- X without i -/
def cdel (X : Nat → Bool) (i j : Nat) : Bool := X j && !decide (j = i)
theorem cdel_eq {X : Nat → Bool} {i j : Nat} : cdel X i j = true ↔ X j = true ∧ j ≠ i := by
  unfold cdel
  rw [Bool.and_eq_true, Bool.not_eq_true', decide_eq_false_iff_not]
theorem cnt_del {X : Nat → Bool} {i : Nat} (hx : X i = true) : ∀ n, i < n → cnt X n = cnt (cdel X i) n + 1 := by
  intro n
  induction n with
  | zero => omega
  | succ n ih =>
    intro hi
    unfold cnt
    by_cases e : i = n
    · subst e
      rw [if_pos hx, if_neg (fun z => (cdel_eq.mp z).2 rfl), cnt_eq (X := X) (Y := cdel X i) i (fun j hj => ?_)]
      unfold cdel
      rw [decide_eq_false (by omega)]
      cases X j <;> rfl
    · rw [ih (by omega)]
      by_cases hn : X n = true
      · rw [if_pos hn, if_pos (cdel_eq.mpr ⟨hn, fun z => e z.symm⟩)]
      · rw [if_neg hn, if_neg (fun z => hn (cdel_eq.mp z).1)]
theorem cnt_pos {X : Nat → Bool} {i n : Nat} (hx : X i = true) (hi : i < n) : 0 < cnt X n := by
  rw [cnt_del hx n hi]
  omega
theorem cnt_ex {X : Nat → Bool} : ∀ n, 0 < cnt X n → ∃ i, i < n ∧ X i = true
  | 0, h => absurd h (Nat.lt_irrefl _)
  | n + 1, h => by
    by_cases hx : X n = true
    · exact ⟨n, by omega, hx⟩
    · unfold cnt at h
      rw [if_neg hx] at h
      obtain ⟨i, h1, h2⟩ := cnt_ex n h
      exact ⟨i, by omega, h2⟩
theorem cnt_lt {X Y : Nat → Bool} {n i : Nat} (h : ∀ j, j < n → X j = true → Y j = true) (hi : i < n) (h1 : X i = false) (h2 : Y i = true) : cnt X n < cnt Y n := by
  rw [cnt_del h2 n hi]
  have := cnt_le (X := X) (Y := cdel Y i) n (fun j hj hx => cdel_eq.mpr ⟨h j hj hx, fun e => by subst e; rw [h1] at hx; exact absurd hx (by decide)⟩)
  omega
theorem cnt_full {X : Nat → Bool} {n i : Nat} (h : n ≤ cnt X n) (hi : i < n) : X i = true := by
  cases hx : X i with
  | true => rfl
  | false =>
    have := cnt_lt (X := X) (Y := fun _ => true) (fun _ _ _ => rfl) hi hx rfl
    have := cnt_n (X := fun _ => true) n
    omega
/-- what goes one to one from X into Y -/
theorem cnt_inj {X : Nat → Bool} {f : Nat → Nat} {m : Nat} : ∀ n, ∀ {Y : Nat → Bool}, (∀ i, i < n → X i = true → f i < m ∧ Y (f i) = true) → (∀ i j, i < n → j < n → X i = true → X j = true → f i = f j → i = j) → cnt X n ≤ cnt Y m
  | 0, _, _, _ => Nat.zero_le _
  | n + 1, Y, h, hj => by
    show cnt X n + (if X n = true then 1 else 0) ≤ cnt Y m
    by_cases hx : X n = true
    · rw [if_pos hx]
      obtain ⟨h1, h2⟩ := h n (by omega) hx
      rw [cnt_del h2 m h1]
      have := cnt_inj (X := X) (f := f) (m := m) n (Y := cdel Y (f n)) (fun i hi hxi => ⟨(h i (by omega) hxi).1, cdel_eq.mpr ⟨(h i (by omega) hxi).2, fun e => by have := hj i n (by omega) (by omega) hxi hx e; omega⟩⟩) (fun i j hi hj' => hj i j (by omega) (by omega))
      omega
    · rw [if_neg hx]
      exact cnt_inj n (fun i hi => h i (by omega)) (fun i j hi hj' => hj i j (by omega) (by omega))
theorem cnt_or {X Y : Nat → Bool} : ∀ n, cnt (fun i => X i || Y i) n + cnt (fun i => X i && Y i) n = cnt X n + cnt Y n
  | 0 => rfl
  | n + 1 => by
    have := cnt_or (X := X) (Y := Y) n
    unfold cnt
    cases X n <;> cases Y n <;> simp <;> omega
/-- a pairing without one that is alone: their number is even -/
theorem cnt_even {p : Nat → Nat} {n : Nat} : ∀ k, ∀ X : Nat → Bool, cnt X n ≤ k → (∀ i, i < n → X i = true → p i < n ∧ X (p i) = true ∧ p i ≠ i ∧ p (p i) = i) → cnt X n % 2 = 0 := by
  intro k
  induction k with
  | zero =>
    intro X h _
    omega
  | succ k ih =>
    intro X h hp
    rcases Nat.eq_zero_or_pos (cnt X n) with z | z
    · rw [z]
    · obtain ⟨i, hi, hx⟩ := cnt_ex n z
      obtain ⟨p1, p2, p3, p4⟩ := hp i hi hx
      have d1 := cnt_del hx n hi
      have d2 := cnt_del (X := cdel X i) (cdel_eq.mpr ⟨p2, p3⟩) n p1
      have := ih (cdel (cdel X i) (p i)) (by omega) (fun j hj hxj => ?_)
      · omega
      · obtain ⟨a1, a2⟩ := cdel_eq.mp hxj
        obtain ⟨a3, a4⟩ := cdel_eq.mp a1
        obtain ⟨b1, b2, b3, b4⟩ := hp j hj a3
        refine ⟨b1, cdel_eq.mpr ⟨cdel_eq.mpr ⟨b2, fun e => a2 ?_⟩, fun e => a4 ?_⟩, b3, b4⟩
        · rw [← b4, e]
        · rw [← b4, e, p4]
/-- k times -/
def it (G : Nat → Nat) : Nat → Nat → Nat
  | 0, S => S
  | k + 1, S => G (it G k S)
theorem it_lt {G : Nat → Nat} {N S : Nat} (hS : S < 2 ^ N) (hb : ∀ S, S < 2 ^ N → G S < 2 ^ N) : ∀ k, it G k S < 2 ^ N
  | 0 => hS
  | k + 1 => hb _ (it_lt hS hb k)
theorem nb_diff {S T N : Nat} (hS : S < 2 ^ N) (hT : T < 2 ^ N) (hi : ∀ i, S.testBit i = true → T.testBit i = true) (h : T ≠ S) : ∃ i, i < N ∧ S.testBit i = false ∧ T.testBit i = true := by
  rcases Nat.eq_zero_or_pos (cnt (fun i => T.testBit i && !S.testBit i) N) with z | z
  · refine absurd (nb_ext fun i => ?_) h
    by_cases hN : i < N
    · cases hT' : T.testBit i with
      | false =>
        cases hS' : S.testBit i with
        | false => rfl
        | true => rw [hi i hS'] at hT'; exact absurd hT' (by decide)
      | true =>
        cases hS' : S.testBit i with
        | true => rfl
        | false =>
          have := cnt_pos (X := fun i => T.testBit i && !S.testBit i) (i := i) (n := N) (by show (T.testBit i && !S.testBit i) = true; rw [hT', hS']; rfl) hN
          omega
    · rw [nb_big hS (by omega), nb_big hT (by omega)]
  · obtain ⟨i, h1, h2⟩ := cnt_ex N z
    have h2 : (T.testBit i && !S.testBit i) = true := h2
    rw [Bool.and_eq_true, Bool.not_eq_true'] at h2
    exact ⟨i, h1, h2.2, h2.1⟩
theorem it_stab {G : Nat → Nat} {N S0 : Nat} (hS : S0 < 2 ^ N) (hb : ∀ S, S < 2 ^ N → G S < 2 ^ N) (hinc : ∀ S i, S < 2 ^ N → S.testBit i = true → (G S).testBit i = true) : G (it G N S0) = it G N S0 := by
  have key : ∀ k, G (it G k S0) = it G k S0 ∨ k ≤ cnt (fun i => (it G k S0).testBit i) N := by
    intro k
    induction k with
    | zero => exact Or.inr (Nat.zero_le _)
    | succ k ih =>
      have hk := it_lt hS hb k
      by_cases e : G (it G k S0) = it G k S0
      · left
        show G (G (it G k S0)) = G (it G k S0)
        rw [e, e]
      · right
        obtain ⟨i, h1, h2, h3⟩ := nb_diff hk (hb _ hk) (fun i => hinc _ i hk) e
        have := cnt_lt (X := fun i => (it G k S0).testBit i) (Y := fun i => (it G (k + 1) S0).testBit i) (n := N) (fun j _ => hinc _ j hk) h1 h2 h3
        have := ih.resolve_left e
        omega
  rcases key N with h | h
  · exact h
  · have hN := it_lt hS hb N
    apply nb_ext
    intro i
    by_cases hi : i < N
    · have a := cnt_full h hi
      rw [hinc _ i hN a]
      exact a.symm
    · rw [nb_big (hb _ hN) (by omega), nb_big hN (by omega)]
end
