/-! THE PURE PART, drawings: the rounds of a permutation; two places exchanged. -/
section
def itA (f : Nat → Nat) : Nat → Nat → Nat
  | 0, x => x
  | k + 1, x => f (itA f k x)
theorem itA_add {f : Nat → Nat} {x b : Nat} : ∀ a, itA f (a + b) x = itA f a (itA f b x)
  | 0 => by rw [Nat.zero_add]; rfl
  | a + 1 => by
    rw [show a + 1 + b = (a + b) + 1 by omega, itA, itA, itA_add a]
theorem itA_mul {f : Nat → Nat} {x K : Nat} (h : itA f K x = x) : ∀ m, itA f (K * m) x = x
  | 0 => rfl
  | m + 1 => by rw [Nat.mul_succ, itA_add, h, itA_mul h m]
/-- a permutation of what is below n -/
def prmN (f : Nat → Nat) (n : Nat) : Prop := (∀ x, x < n → f x < n) ∧ (∀ x, n ≤ x → f x = x) ∧ ∀ x y, f x = f y → x = y
theorem itA_lt {f : Nat → Nat} {n x : Nat} (h : prmN f n) (hx : x < n) : ∀ k, itA f k x < n
  | 0 => hx
  | k + 1 => h.1 _ (itA_lt h hx k)
theorem itA_inj {f : Nat → Nat} {n x y : Nat} (h : prmN f n) : ∀ k, itA f k x = itA f k y → x = y
  | 0, e => e
  | k + 1, e => itA_inj h k (h.2.2 _ _ e)
theorem itA_per {f : Nat → Nat} {n : Nat} (h : prmN f n) (x : Nat) : ∃ K, 0 < K ∧ itA f K x = x := by
  by_cases hx : x < n
  · refine Classical.byContradiction fun z => ?_
    have := cnt_inj (X := fun _ => true) (f := fun k => itA f k x) (m := n) (n + 1) (Y := fun _ => true) (fun k _ _ => ⟨itA_lt h hx k, rfl⟩) (fun i j _ _ _ _ e => by
      have e : itA f i x = itA f j x := e
      refine Classical.byContradiction fun w => z ?_
      rcases Nat.lt_or_gt_of_ne w with l | l
      · refine ⟨j - i, by omega, itA_inj h i ?_⟩
        rw [← itA_add, show i + (j - i) = j by omega, e]
      · refine ⟨i - j, by omega, itA_inj h j ?_⟩
        rw [← itA_add, show j + (i - j) = i by omega, e])
    rw [cnt_T, cnt_T] at this
    omega
  · exact ⟨1, by omega, h.2.1 x (by omega)⟩
def orbN (f : Nat → Nat) (x y : Nat) : Prop := ∃ k, itA f k x = y
theorem orb_eqv {f : Nat → Nat} {n : Nat} (h : prmN f n) : eqvR (orbN f) := by
  refine ⟨fun x => ⟨0, rfl⟩, fun x y hk => ?_, fun x y z h1 h2 => ?_⟩
  · obtain ⟨k, e⟩ := hk
    obtain ⟨K, K0, K1⟩ := itA_per h x
    have le : k ≤ K * (k + 1) := Nat.le_trans (Nat.le_succ k) (Nat.le_mul_of_pos_left _ K0)
    refine ⟨K * (k + 1) - k, ?_⟩
    rw [← e, ← itA_add, Nat.sub_add_cancel le]
    exact itA_mul K1 _
  · obtain ⟨a, h1⟩ := h1
    obtain ⟨b, h2⟩ := h2
    exact ⟨b + a, by rw [itA_add, h1, h2]⟩
theorem lst_k {P : Nat → Prop} : ∀ n, (∃ k, k ≤ n ∧ P k) → ∃ k, P k ∧ ∀ j, j < k → ¬ P j := by
  intro n
  induction n with
  | zero =>
    rintro ⟨k, h1, h2⟩
    exact ⟨k, h2, fun j hj => by omega⟩
  | succ n ih =>
    rintro ⟨k, h1, h2⟩
    by_cases e : ∃ j, j ≤ n ∧ P j
    · exact ih e
    · exact ⟨k, h2, fun j hj w => e ⟨j, by omega, w⟩⟩
def swpN (f : Nat → Nat) (a b x : Nat) : Nat := if x = a then f b else if x = b then f a else f x
theorem swp_a {f : Nat → Nat} {a b : Nat} : swpN f a b a = f b := if_pos rfl
theorem swp_b {f : Nat → Nat} {a b : Nat} : swpN f a b b = f a := by
  unfold swpN
  by_cases e : b = a
  · rw [if_pos e, e]
  · rw [if_neg e, if_pos rfl]
theorem swp_n {f : Nat → Nat} {a b x : Nat} (h1 : x ≠ a) (h2 : x ≠ b) : swpN f a b x = f x := by
  unfold swpN
  rw [if_neg h1, if_neg h2]
theorem swp_prm {f : Nat → Nat} {n a b : Nat} (h : prmN f n) (ha : a < n) (hb : b < n) : prmN (swpN f a b) n := by
  obtain ⟨h1, h2, h3⟩ := h
  refine ⟨fun x hx => ?_, fun x hx => ?_, fun x y e => ?_⟩
  · unfold swpN
    split
    · exact h1 b hb
    · split
      · exact h1 a ha
      · exact h1 x hx
  · rw [swp_n (by omega) (by omega)]
    exact h2 x hx
  · unfold swpN at e
    by_cases xa : x = a
    · rw [if_pos xa] at e
      by_cases ya : y = a
      · rw [xa, ya]
      · rw [if_neg ya] at e
        by_cases yb : y = b
        · rw [if_pos yb] at e
          have := h3 _ _ e
          omega
        · rw [if_neg yb] at e
          have := h3 _ _ e
          omega
    · rw [if_neg xa] at e
      by_cases xb : x = b
      · rw [if_pos xb] at e
        by_cases ya : y = a
        · rw [if_pos ya] at e
          have := h3 _ _ e
          omega
        · rw [if_neg ya] at e
          by_cases yb : y = b
          · rw [xb, yb]
          · rw [if_neg yb] at e
            have := h3 _ _ e
            omega
      · rw [if_neg xb] at e
        by_cases ya : y = a
        · rw [if_pos ya] at e
          have := h3 _ _ e
          omega
        · rw [if_neg ya] at e
          by_cases yb : y = b
          · rw [if_pos yb] at e
            have := h3 _ _ e
            omega
          · rw [if_neg yb] at e
            exact h3 _ _ e
theorem swp_swp {f : Nat → Nat} {a b : Nat} : swpN (swpN f a b) a b = f := by
  funext x
  by_cases xa : x = a
  · rw [xa, swp_a, swp_b]
  · by_cases xb : x = b
    · rw [xb, swp_b, swp_a]
    · rw [swp_n xa xb, swp_n xa xb]
/-- from b, as from a before, until a comes -/
theorem swp_walk {f : Nat → Nat} {a b K : Nat} (hn : ∀ j, 0 < j → j < K → itA f j a ≠ a ∧ itA f j a ≠ b) : ∀ j, 0 < j → j ≤ K → itA (swpN f a b) j b = itA f j a
  | 0, h, _ => absurd h (Nat.lt_irrefl _)
  | 1, _, _ => swp_b
  | j + 2, _, h2 => by
    have ih := swp_walk hn (j + 1) (by omega) (by omega)
    obtain ⟨n1, n2⟩ := hn (j + 1) (by omega) (by omega)
    rw [itA, ih, swp_n n1 n2]
    rfl
/-- in one round before: in two now -/
theorem swp_two {f : Nat → Nat} {n a b : Nat} (h : prmN f n) (ne : a ≠ b) (ho : orbN f a b) : ¬ orbN (swpN f a b) b a := by
  -- from b, as from a, until b comes
  obtain ⟨k0, e0⟩ := ho
  have k0p : 0 < k0 := Nat.pos_of_ne_zero fun z => by
    subst z
    exact ne e0
  obtain ⟨K, ⟨K0, K1⟩, K2⟩ := lst_k (P := fun k => 0 < k ∧ itA f k a = b) k0 ⟨k0, Nat.le_refl _, k0p, e0⟩
  have no : ∀ j, 0 < j → j < K → itA f j a ≠ a ∧ itA f j a ≠ b := fun j j0 jK => by
    refine ⟨fun e => ?_, fun e => K2 j jK ⟨j0, e⟩⟩
    refine K2 (K - j) (by omega) ⟨by omega, ?_⟩
    have := itA_add (f := f) (x := a) (b := j) (K - j)
    rw [e, show K - j + j = K by omega, K1] at this
    exact this.symm
  have per : itA (swpN f a b) K b = b := by rw [swp_walk no K K0 (Nat.le_refl _), K1]
  rintro ⟨k, e⟩
  have e2 : itA (swpN f a b) (k % K) b = a := by
    have d := Nat.mod_add_div k K
    have := itA_add (f := swpN f a b) (x := b) (b := K * (k / K)) (k % K)
    rw [d, e, itA_mul per] at this
    exact this.symm
  have lt := Nat.mod_lt k K0
  by_cases z : k % K = 0
  · rw [z] at e2
    exact ne e2.symm
  · rw [swp_walk no (k % K) (by omega) (by omega)] at e2
    exact (no (k % K) (by omega) lt).1 e2
theorem jnR_eqv {R : Nat → Nat → Prop} {a b : Nat} (h : eqvR R) : eqvR (jnR R a b) := by
  obtain ⟨h1, h2, h3⟩ := h
  refine ⟨fun x => Or.inl (h1 x), fun x y w => ?_, fun x y z w1 w2 => ?_⟩
  · rcases w with w | ⟨w1, w2⟩ | ⟨w1, w2⟩
    · exact Or.inl (h2 _ _ w)
    · exact Or.inr (Or.inr ⟨h2 _ _ w2, h2 _ _ w1⟩)
    · exact Or.inr (Or.inl ⟨h2 _ _ w2, h2 _ _ w1⟩)
  · rcases w1 with w | ⟨w1, w3⟩ | ⟨w1, w3⟩
    · rcases w2 with v | ⟨v1, v2⟩ | ⟨v1, v2⟩
      · exact Or.inl (h3 _ _ _ w v)
      · exact Or.inr (Or.inl ⟨h3 _ _ _ w v1, v2⟩)
      · exact Or.inr (Or.inr ⟨h3 _ _ _ w v1, v2⟩)
    · rcases w2 with v | ⟨v1, v2⟩ | ⟨v1, v2⟩
      · exact Or.inr (Or.inl ⟨w1, h3 _ _ _ w3 v⟩)
      · exact Or.inr (Or.inl ⟨w1, v2⟩)
      · exact Or.inl (h3 _ _ _ w1 v2)
    · rcases w2 with v | ⟨v1, v2⟩ | ⟨v1, v2⟩
      · exact Or.inr (Or.inr ⟨w1, h3 _ _ _ w3 v⟩)
      · exact Or.inl (h3 _ _ _ w1 v2)
      · exact Or.inr (Or.inr ⟨w1, v2⟩)
theorem orb_sub {f : Nat → Nat} {R : Nat → Nat → Prop} (h : eqvR R) (hs : ∀ x, R x (f x)) {x y : Nat} (ho : orbN f x y) : R x y := by
  obtain ⟨k, e⟩ := ho
  subst e
  induction k with
  | zero => exact h.1 x
  | succ k ih => exact h.2.2 _ _ _ ih (hs _)
/-- in two rounds before: in one now -/
theorem swp_one {f : Nat → Nat} {n a b : Nat} (h : prmN f n) (ha : a < n) (hb : b < n) (ho : ¬ orbN f a b) (x y : Nat) : orbN (swpN f a b) x y ↔ jnR (orbN f) a b x y := by
  have E := orb_eqv h
  have P := swp_prm h ha hb
  have E2 := orb_eqv P
  -- b and a now lie in one round
  have ba : orbN (swpN f a b) b a := by
    obtain ⟨K', K0', K1'⟩ := itA_per h a
    obtain ⟨K, ⟨K0, K1⟩, K2⟩ := lst_k (P := fun k => 0 < k ∧ itA f k a = a) K' ⟨K', Nat.le_refl _, K0', K1'⟩
    refine ⟨K, ?_⟩
    rw [swp_walk (fun j j0 jK => ⟨fun e => K2 j jK ⟨j0, e⟩, fun e => ho ⟨j, e⟩⟩) K K0 (Nat.le_refl _), K1]
  have up : ∀ x, orbN (swpN f a b) x (f x) := fun x => by
    by_cases xa : x = a
    · subst xa
      exact E2.2.2 _ _ _ (E2.2.1 _ _ ba) ⟨1, swp_b⟩
    · by_cases xb : x = b
      · subst xb
        exact E2.2.2 _ _ _ ba ⟨1, swp_a⟩
      · exact ⟨1, swp_n xa xb⟩
  constructor
  · refine orb_sub (jnR_eqv E) (fun x => ?_)
    by_cases xa : x = a
    · subst xa
      rw [swp_a]
      exact Or.inr (Or.inl ⟨E.1 x, ⟨1, rfl⟩⟩)
    · by_cases xb : x = b
      · subst xb
        rw [swp_b]
        exact Or.inr (Or.inr ⟨E.1 x, ⟨1, rfl⟩⟩)
      · rw [swp_n xa xb]
        exact Or.inl ⟨1, rfl⟩
  · rintro (w | ⟨w1, w2⟩ | ⟨w1, w2⟩)
    · exact orb_sub E2 up w
    · exact E2.2.2 _ _ _ (orb_sub E2 up w1) (E2.2.2 _ _ _ (E2.2.1 _ _ ba) (orb_sub E2 up w2))
    · exact E2.2.2 _ _ _ (orb_sub E2 up w1) (E2.2.2 _ _ _ ba (orb_sub E2 up w2))
/-- how many rounds: one more, or one less -/
theorem cls_swp {f : Nat → Nat} {n a b : Nat} (h : prmN f n) (ha : a < n) (hb : b < n) (ne : a ≠ b) : (¬ orbN f a b → clsN (orbN f) n = clsN (orbN (swpN f a b)) n + 1) ∧ (orbN f a b → clsN (orbN (swpN f a b)) n = clsN (orbN f) n + 1) := by
  have one : ∀ {f : Nat → Nat}, prmN f n → ¬ orbN f a b → clsN (orbN f) n = clsN (orbN (swpN f a b)) n + 1 := fun {f} h ho => by
    rw [cls_join (orb_eqv h) ha hb ho]
    congr 1
    exact cls_c (fun x y _ _ => (swp_one h ha hb ho x y).symm)
  refine ⟨one h, fun ho => ?_⟩
  have P := swp_prm h ha hb
  have no := swp_two h ne ho
  have := one P (fun w => no ((orb_eqv P).2.1 _ _ w))
  rw [swp_swp] at this
  exact this
end
