/-! THE PURE PART: the nodes that hang together with one. -/
section
def hsG (nr : Nat → Nat) (T R : Nat) : Nat → Nat
  | 0 => R
  | k + 1 => if R.testBit k = true then hsG nr T R k ||| (nr k &&& T) else hsG nr T R k
theorem hsG_bit {nr : Nat → Nat} {T R i : Nat} : ∀ n, (hsG nr T R n).testBit i = true ↔ R.testBit i = true ∨ ∃ k, k < n ∧ R.testBit k = true ∧ (nr k).testBit i = true ∧ T.testBit i = true
  | 0 => ⟨Or.inl, fun h => h.elim (fun z => z) (fun ⟨k, h, _⟩ => absurd h (Nat.not_lt_zero k))⟩
  | n + 1 => by
    have ih := hsG_bit (nr := nr) (T := T) (R := R) (i := i) n
    rw [hsG]
    by_cases h : R.testBit n = true
    · rw [if_pos h, Nat.testBit_or, Bool.or_eq_true, ih, Nat.testBit_and, Bool.and_eq_true]
      constructor
      · rintro ((a | ⟨k, a, b⟩) | a)
        · exact Or.inl a
        · exact Or.inr ⟨k, by omega, b⟩
        · exact Or.inr ⟨n, by omega, h, a⟩
      · rintro (a | ⟨k, a, b, c⟩)
        · exact Or.inl (Or.inl a)
        · by_cases e : k = n
          · subst e
            exact Or.inr c
          · exact Or.inl (Or.inr ⟨k, by omega, b, c⟩)
    · rw [if_neg h, ih]
      constructor
      · rintro (a | ⟨k, a, b⟩)
        · exact Or.inl a
        · exact Or.inr ⟨k, by omega, b⟩
      · rintro (a | ⟨k, a, b, c⟩)
        · exact Or.inl a
        · by_cases e : k = n
          · subst e
            exact absurd b h
          · exact Or.inr ⟨k, by omega, b, c⟩
theorem hsG_lt {nr : Nat → Nat} {T R N : Nat} (hR : R < 2 ^ N) (hT : T < 2 ^ N) (n : Nat) : hsG nr T R n < 2 ^ N := nb_lt fun i hi => by
  cases e : (hsG nr T R n).testBit i with
  | false => rfl
  | true =>
    rcases (hsG_bit n).mp e with h | ⟨_, _, _, _, h⟩
    · rw [nb_big hR hi] at h
      exact h.symm
    · rw [nb_big hT hi] at h
      exact h.symm
def hang (nr : Nat → Nat) (N T node : Nat) : Nat := it (fun R => hsG nr T R N) N (2 ^ node)
theorem hang_lt {nr : Nat → Nat} {N T node : Nat} (hn : node < N) (hT : T < 2 ^ N) : hang nr N T node < 2 ^ N := it_lt (nb_p2 hn) (fun _ h => hsG_lt h hT N) N
theorem hang_fix {nr : Nat → Nat} {N T node : Nat} (hn : node < N) (hT : T < 2 ^ N) : hsG nr T (hang nr N T node) N = hang nr N T node := it_stab (nb_p2 hn) (fun _ h => hsG_lt h hT N) (fun S i _ h => (hsG_bit N).mpr (Or.inl h))
theorem hang_inc {nr : Nat → Nat} {N T node i : Nat} (h : (2 ^ node).testBit i = true) : ∀ k, (it (fun R => hsG nr T R N) k (2 ^ node)).testBit i = true
  | 0 => h
  | k + 1 => (hsG_bit N).mpr (Or.inl (hang_inc h k))
theorem hang_self {nr : Nat → Nat} {N T node : Nat} : (hang nr N T node).testBit node = true := hang_inc (by rw [nb_pow]; exact decide_eq_true rfl) N
theorem hang_step {nr : Nat → Nat} {N T node u w : Nat} (hn : node < N) (hT : T < 2 ^ N) (hu : (hang nr N T node).testBit u = true) (h : (nr u).testBit w = true) (hw : T.testBit w = true) : (hang nr N T node).testBit w = true := by
  rw [← hang_fix hn hT]
  refine (hsG_bit N).mpr (Or.inr ⟨u, ?_, hu, h, hw⟩)
  rcases Nat.lt_or_ge u N with z | z
  · exact z
  · rw [nb_big (hang_lt hn hT) z] at hu
    exact absurd hu (by decide)
theorem hang_ind {nr : Nat → Nat} {N T node : Nat} {P : Nat → Prop} (h0 : P node) (hs : ∀ u w, P u → u < N → (nr u).testBit w = true → T.testBit w = true → P w) : ∀ u, (hang nr N T node).testBit u = true → P u := by
  have main : ∀ k u, (it (fun R => hsG nr T R N) k (2 ^ node)).testBit u = true → P u := by
    intro k
    induction k with
    | zero =>
      intro u h
      have h : (2 ^ node).testBit u = true := h
      rw [nb_pow, decide_eq_true_eq] at h
      rw [← h]
      exact h0
    | succ k ih =>
      intro u h
      rcases (hsG_bit N).mp h with z | ⟨x, h1, h2, h3, h4⟩
      · exact ih u z
      · exact hs x u (ih x h2) h1 h3 h4
  exact main N
theorem T_hang_go {F a N T node : Nat} {nr : Nat → Nat} {V : mV} (hN : mLen a = N) (hN2 : N ≤ 18) (hT : T < 2 ^ N) (hn : node < N) (hnr : ∀ i, i < N → V.rI a i = nI (nr i)) : ∀ k', (∀ r, (N - r) * 20 + 1 ≤ k' → r ≤ N → mTo (mX11_hangingTogether_go F k' 0 a (nI T) (nI (it (fun R => hsG nr T R N) r (2 ^ node))) (nI r) 0 0 V) (fun v => v = nI (hang nr N T node))) ∧ (∀ r j, (N - r - 1) * 20 + (N - j) + 2 ≤ k' → r < N → j ≤ N → mTo (mX11_hangingTogether_go F k' 1 a (nI T) (nI (it (fun R => hsG nr T R N) r (2 ^ node))) (nI r) (nI (hsG nr T (it (fun R => hsG nr T R N) r (2 ^ node)) j)) (nI j) V) (fun v => v = nI (hang nr N T node))) := by
  have big : ∀ r, it (fun R => hsG nr T R N) r (2 ^ node) < 2 ^ 31 := fun r => Nat.lt_of_lt_of_le (it_lt (nb_p2 hn) (fun _ h => hsG_lt h hT N) r) (Nat.pow_le_pow_right (by decide) (by omega))
  intro k'
  induction k' with
  | zero => exact ⟨fun r h1 h2 => by omega, fun r j h1 h2 h3 => by omega⟩
  | succ k ih =>
    obtain ⟨ih0, ih1⟩ := ih
    refine ⟨fun r h1 h2 => ?_, fun r j h1 h2 h3 => ?_⟩
    · rw [mX11_hangingTogether_go, if_pos rfl]
      unfold mX11_hangingTogether_b0
      rw [hN]
      refine mTo.le rfl rfl (by omega) (by omega) (fun h => mTo.ret ?_) (fun h => ?_)
      · have : r = N := by omega
        subst this
        rfl
      · exact ih1 r 0 (by omega) h (by omega)
    · rw [mX11_hangingTogether_go, if_neg (by decide), if_pos rfl]
      unfold mX11_hangingTogether_b1
      rw [hN]
      refine mTo.le rfl rfl (by omega) (by omega) (fun h => mTo.lt ?_) (fun h => ?_)
      · have : j = N := by omega
        subst this
        rw [nI_1]
        exact ih0 (r + 1) (by omega) (by omega)
      · rw [nb_shr (big r) (by omega), nb_and1]
        have g := ih1 r (j + 1) (by omega) h2 (by omega)
        rw [hsG] at g
        have t : (it (fun R => hsG nr T R N) r (2 ^ node)).testBit j = decide (it (fun R => hsG nr T R N) r (2 ^ node) / 2 ^ j % 2 = 1) := Nat.testBit_eq_decide_div_mod_eq
        refine mTo.eqI (b := 0) rfl rfl (by omega) (by omega) (fun e => mTo.lt ?_) (fun e => mTo.ix rfl (by omega) (by omega) (mTo.lt (mTo.lt ?_)))
        · rw [nI_1]
          rw [if_neg (by rw [t, decide_eq_true_eq]; omega)] at g
          exact g
        · rw [nI_1]
          rw [if_pos (by rw [t, decide_eq_true_eq]; omega)] at g
          rw [nI_clamp (by omega), hnr j h, nb_and, nb_or]
          exact g
theorem T_hang {F a N T node : Nat} {nr : Nat → Nat} {V : mV} (hF : 2 ^ 10 ≤ F) (hN : mLen a = N) (hN2 : N ≤ 18) (hT : T < 2 ^ N) (hn : node < N) (hnr : ∀ i, i < N → V.rI a i = nI (nr i)) : mTo (mX11_hangingTogether F a (nI node) (nI T) V) (fun v => v = nI (hang nr N T node)) := by
  unfold mX11_hangingTogether mX11_hangingTogether_s
  refine mTo.lt ?_
  rw [nb_one (by omega)]
  exact (T_hang_go hN hN2 hT hn hnr F).1 0 (by omega) (by omega)
end
