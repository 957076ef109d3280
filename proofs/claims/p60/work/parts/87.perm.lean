/-! THE PURE PART, permutations: numbers of permutations and back; finite facts by the kernel. -/
section
def lsN2 (p : Nat → Nat) (i : Nat) : Nat → Nat
  | 0 => 0
  | j + 1 => if i < j ∧ p j < p i then lsN2 p i j + 1 else lsN2 p i j
/-- the number of a permutation of s points -/
def rkN (s : Nat) (p : Nat → Nat) : Nat → Nat
  | 0 => 0
  | i + 1 => rkN s p i * (s - i) + lsN2 p i s
def rk (s : Nat) (p : Nat → Nat) : Nat := rkN s p s
def reD (r : Nat) : Nat → Nat
  | 0 => r
  | k + 1 => reD r k / (k + 1)
def unN (s u : Nat) : Nat → Nat → Nat → Nat
  | 0, _, _ => 0
  | k + 1, l, pt => if u.testBit pt = true then unN s u k l (pt + 1) else if l = 0 then pt else unN s u k (l - 1) (pt + 1)
/-- which points are used by the first i, and the row -/
def dcG (s r : Nat) : Nat → Nat × List Nat
  | 0 => (0, [])
  | i + 1 => ((dcG s r i).1 ||| 2 ^ unN s (dcG s r i).1 s (reD r (s - 1 - i) % (s - i)) 0, (dcG s r i).2 ++ [unN s (dcG s r i).1 s (reD r (s - 1 - i) % (s - i)) 0])
/-- the permutation with the number r -/
def dcP (s r i : Nat) : Nat := (dcG s r s).2.getD i 0
def fac : Nat → Nat
  | 0 => 1
  | n + 1 => fac n * (n + 1)
def cdN (p : Nat → Nat) : Nat → Nat
  | 0 => 0
  | i + 1 => cdN p i * 6 + p i
set_option maxRecDepth 100000 in
theorem dc_ok : ∀ s, s < 7 → ∀ r, r < fac s → (∀ i, i < s → dcP s r i < s) ∧ (∀ i, i < s → ∀ j, j < i → dcP s r i ≠ dcP s r j) ∧ rk s (dcP s r) = r := by decide +kernel
set_option maxRecDepth 100000 in
theorem dc_0 : ∀ s, s < 7 → ∀ i, i < s → dcP s 0 i = i := by decide +kernel
set_option maxRecDepth 100000 in
theorem dc_le : ∀ s, s < 7 → ∀ r, r < fac s → ∀ k, k < s + 1 → r + 1 < fac s → cdN (dcP s r) k ≤ cdN (dcP s (r + 1)) k := by decide +kernel
def lf (l : List Nat) (i : Nat) : Nat := l.getD i 0
/-- all rows that begin so -/
def chk (s : Nat) : Nat → List Nat → Bool
  | 0, l => decide (rk s (lf l) < fac s) && decide ((dcG s (rk s (lf l)) s).2 = l)
  | k + 1, l => (List.range s).all fun a => decide (a ∈ l) || chk s k (l ++ [a])
set_option maxRecDepth 100000 in
theorem chk_all : ∀ s, s < 7 → chk s s [] = true := by decide +kernel
def pl (p : Nat → Nat) : Nat → List Nat
  | 0 => []
  | n + 1 => pl p n ++ [p n]
theorem pl_len {p : Nat → Nat} : ∀ n, (pl p n).length = n
  | 0 => rfl
  | n + 1 => by
    rw [pl, List.length_append, pl_len n]
    rfl
theorem pl_at {p : Nat → Nat} {i : Nat} : ∀ n, i < n → lf (pl p n) i = p i
  | 0, h => absurd h (Nat.not_lt_zero _)
  | n + 1, h => by
    have ih := pl_at (p := p) (i := i) n
    unfold lf at ih ⊢
    rw [pl, getDN_snoc, pl_len]
    by_cases e : i < n
    · rw [if_pos e]
      exact ih e
    · have : i = n := by omega
      rw [if_neg e, if_pos this, this]
theorem pl_mem {p : Nat → Nat} {x : Nat} : ∀ n, x ∈ pl p n → ∃ j, j < n ∧ x = p j
  | 0, h => (List.not_mem_nil h).elim
  | n + 1, h => by
    rw [pl, List.mem_append, List.mem_singleton] at h
    rcases h with h | h
    · obtain ⟨j, a, b⟩ := pl_mem n h
      exact ⟨j, by omega, b⟩
    · exact ⟨n, by omega, h⟩
/-- a permutation of s points -/
def isP (s : Nat) (p : Nat → Nat) : Prop := (∀ i, i < s → p i < s) ∧ ∀ i j, i < j → j < s → p i ≠ p j
theorem lsN2_cg {p q : Nat → Nat} {i : Nat} : ∀ n, (∀ j, j < n → p j = q j) → p i = q i → lsN2 p i n = lsN2 q i n
  | 0, _, _ => rfl
  | n + 1, h, hi => by rw [lsN2, lsN2, lsN2_cg n (fun j hj => h j (by omega)) hi, h n (by omega), hi]
theorem rkN_cg {s : Nat} {p q : Nat → Nat} (h : ∀ j, j < s → p j = q j) : ∀ n, n ≤ s → rkN s p n = rkN s q n
  | 0, _ => rfl
  | n + 1, hn => by rw [rkN, rkN, rkN_cg h n (by omega), lsN2_cg s h (h n (by omega))]
theorem rk_cg {s : Nat} {p q : Nat → Nat} (h : ∀ j, j < s → p j = q j) : rk s p = rk s q := rkN_cg h s (Nat.le_refl _)
theorem chk_go {s : Nat} {p : Nat → Nat} (hp : isP s p) : ∀ k n, n + k = s → chk s k (pl p n) = true → chk s 0 (pl p s) = true
  | 0, n, e, h => by
    have : n = s := by omega
    rw [← this]
    rw [this] at h ⊢
    exact h
  | k + 1, n, e, h => by
    rw [chk, List.all_eq_true] at h
    have := h (p n) (List.mem_range.mpr (hp.1 n (by omega)))
    rw [Bool.or_eq_true, decide_eq_true_eq] at this
    refine chk_go hp k (n + 1) (by omega) (this.resolve_left fun z => ?_)
    obtain ⟨j, a, b⟩ := pl_mem n z
    exact hp.2 j n a (by omega) b.symm
theorem rk_ok {s : Nat} {p : Nat → Nat} (hs : s ≤ 6) (hp : isP s p) : rk s p < fac s ∧ ∀ i, i < s → dcP s (rk s p) i = p i := by
  have h := chk_go hp s 0 (Nat.zero_add _) (chk_all s (by omega))
  rw [chk, Bool.and_eq_true, decide_eq_true_eq, decide_eq_true_eq] at h
  have e2 := rk_cg (s := s) (p := p) (q := lf (pl p s)) (fun j hj => (pl_at s hj).symm)
  rw [e2]
  refine ⟨h.1, fun i hi => ?_⟩
  unfold dcP
  rw [h.2]
  exact pl_at s hi
theorem dc_P {s r : Nat} (hs : s ≤ 6) (hr : r < fac s) : isP s (dcP s r) := by
  obtain ⟨a, b, _⟩ := dc_ok s (by omega) r hr
  exact ⟨a, fun i j hij hj e => b j hj i hij e.symm⟩
theorem isP.comp {s : Nat} {p q : Nat → Nat} (hp : isP s p) (hq : isP s q) : isP s (fun i => p (q i)) := ⟨fun i hi => hp.1 _ (hq.1 i hi), fun i j hij hj e => by
  have a := hq.1 i (by omega)
  have b := hq.1 j hj
  have e : p (q i) = p (q j) := e
  rcases Nat.lt_trichotomy (q i) (q j) with z | z | z
  · exact hp.2 _ _ z b e
  · exact hq.2 i j hij hj z
  · exact hp.2 _ _ z a e.symm⟩
theorem fac_b : ∀ s, s < 7 → fac s ≤ 720 ∧ 0 < fac s := by decide
/-- the prefix's code falls nowhere along the numbers -/
theorem cd_mono {s k : Nat} (hs : s ≤ 6) (hk : k ≤ s) : ∀ t r, r + t < fac s → cdN (dcP s r) k ≤ cdN (dcP s (r + t)) k
  | 0, _, _ => Nat.le_refl _
  | t + 1, r, h => Nat.le_trans (cd_mono hs hk t r (by omega)) (dc_le s (by omega) (r + t) (by omega) k (by omega) (by omega))
theorem cdN_cg {p q : Nat → Nat} : ∀ n, (∀ j, j < n → p j = q j) → cdN p n = cdN q n
  | 0, _ => rfl
  | n + 1, h => by rw [cdN, cdN, cdN_cg n (fun j hj => h j (by omega)), h n (by omega)]
/-- two rows of digits with one code are one -/
theorem cdN_inj {p q : Nat → Nat} : ∀ n, (∀ j, j < n → p j < 6) → (∀ j, j < n → q j < 6) → cdN p n = cdN q n → ∀ j, j < n → p j = q j
  | 0, _, _, _, j, hj => absurd hj (Nat.not_lt_zero _)
  | n + 1, h1, h2, e, j, hj => by
    have a := h1 n (by omega)
    have b := h2 n (by omega)
    rw [cdN, cdN] at e
    by_cases z : j = n
    · rw [z]
      omega
    · exact cdN_inj n (fun j hj => h1 j (by omega)) (fun j hj => h2 j (by omega)) (by omega) j (by omega)
theorem cdN_lt {p : Nat → Nat} : ∀ n, (∀ j, j < n → p j < 6) → cdN p n < 6 ^ n
  | 0, _ => by
    rw [cdN]
    decide
  | n + 1, h => by
    have ih := cdN_lt n (fun j hj => h j (by omega))
    have := h n (by omega)
    rw [cdN, Nat.pow_succ]
    omega
end
