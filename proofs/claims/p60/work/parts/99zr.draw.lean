/-! THE PURE PART, drawings: how many classes there are; two of them become one. -/
section
def eqvR (R : Nat → Nat → Prop) : Prop := (∀ x, R x x) ∧ (∀ x y, R x y → R y x) ∧ ∀ x y z, R x y → R y z → R x z
noncomputable def frN (R : Nat → Nat → Prop) (i : Nat) : Bool := @decide (∀ j, j < i → ¬ R j i) (Classical.propDecidable _)
theorem frN_t {R : Nat → Nat → Prop} {i : Nat} : frN R i = true ↔ ∀ j, j < i → ¬ R j i := @decide_eq_true_iff _ (Classical.propDecidable _)
/-- the classes of a relation below n: each by its least -/
noncomputable def clsN (R : Nat → Nat → Prop) (n : Nat) : Nat := cnt (frN R) n
def jnR (R : Nat → Nat → Prop) (a b x y : Nat) : Prop := R x y ∨ (R x a ∧ R b y) ∨ (R x b ∧ R a y)
theorem lst_of {R : Nat → Nat → Prop} (h : eqvR R) : ∀ n a, a ≤ n → ∃ r, r ≤ a ∧ R r a ∧ ∀ j, j < r → ¬ R j a := by
  intro n
  induction n with
  | zero => exact fun a ha => ⟨a, Nat.le_refl _, h.1 a, fun j hj => by omega⟩
  | succ n ih =>
    intro a ha
    by_cases e : ∃ j, j < a ∧ R j a
    · obtain ⟨j, j1, j2⟩ := e
      obtain ⟨r, r1, r2, r3⟩ := ih j (by omega)
      exact ⟨r, by omega, h.2.2 _ _ _ r2 j2, fun i hi w => r3 i hi (h.2.2 _ _ _ w (h.2.1 _ _ j2))⟩
    · exact ⟨a, Nat.le_refl _, h.1 a, fun j hj w => e ⟨j, hj, w⟩⟩
theorem cls_c {R R' : Nat → Nat → Prop} {n : Nat} (h : ∀ x y, x < n → y < n → (R x y ↔ R' x y)) : clsN R n = clsN R' n := cnt_eq n (fun i hi => by
  have : frN R i = true ↔ frN R' i = true := by
    rw [frN_t, frN_t]
    exact ⟨fun w j hj y => w j hj ((h j i (by omega) hi).mpr y), fun w j hj y => w j hj ((h j i (by omega) hi).mp y)⟩
  cases q1 : frN R i <;> cases q2 : frN R' i
  · rfl
  · rw [q1, q2] at this
    exact absurd (this.mpr rfl) (by decide)
  · rw [q1, q2] at this
    exact absurd (this.mp rfl) (by decide)
  · rfl)
theorem cls_jn1 {R : Nat → Nat → Prop} (h : eqvR R) {n a b ra rb : Nat} (hn : ¬ R a b) (a1 : R ra a) (a2 : ∀ j, j < ra → ¬ R j a) (b0 : rb < n) (b1 : R rb b) (b2 : ∀ j, j < rb → ¬ R j b) (lt : ra < rb) : clsN R n = clsN (jnR R a b) n + 1 := by
  obtain ⟨h1, h2, h3⟩ := h
  have xb : frN R rb = true := frN_t.mpr (fun j hj w => b2 j hj (h3 _ _ _ w b1))
  unfold clsN
  rw [cnt_del xb n b0]
  congr 1
  refine cnt_eq n (fun i hi => ?_)
  have : cdel (frN R) rb i = true ↔ frN (jnR R a b) i = true := by
    rw [cdel_eq, frN_t, frN_t]
    constructor
    · rintro ⟨w, ne⟩ j hj (y | ⟨y1, y2⟩ | ⟨y1, y2⟩)
      · exact w j hj y
      · -- i lies with b: it is the least there
        have ib : ¬ rb < i := fun z => w rb z (h3 _ _ _ b1 y2)
        have ib2 : ¬ i < rb := fun z => b2 i z (h2 _ _ y2)
        omega
      · have ia : ¬ ra < i := fun z => w ra z (h3 _ _ _ a1 y2)
        exact b2 j (by omega) y1
    · intro w
      refine ⟨fun j hj y => w j hj (Or.inl y), fun e => ?_⟩
      subst e
      exact w ra lt (Or.inr (Or.inl ⟨a1, h2 _ _ b1⟩))
  cases q1 : cdel (frN R) rb i <;> cases q2 : frN (jnR R a b) i
  · rfl
  · rw [q1, q2] at this
    exact absurd (this.mpr rfl) (by decide)
  · rw [q1, q2] at this
    exact absurd (this.mp rfl) (by decide)
  · rfl
theorem jnR_sw {R : Nat → Nat → Prop} {a b x y : Nat} : jnR R a b x y ↔ jnR R b a x y := by
  unfold jnR
  constructor
  · rintro (w | w | w)
    · exact Or.inl w
    · exact Or.inr (Or.inr w)
    · exact Or.inr (Or.inl w)
  · rintro (w | w | w)
    · exact Or.inl w
    · exact Or.inr (Or.inr w)
    · exact Or.inr (Or.inl w)
/-- two classes become one -/
theorem cls_join {R : Nat → Nat → Prop} (h : eqvR R) {n a b : Nat} (ha : a < n) (hb : b < n) (hn : ¬ R a b) : clsN R n = clsN (jnR R a b) n + 1 := by
  obtain ⟨ra, a0, a1, a2⟩ := lst_of h a a (Nat.le_refl _)
  obtain ⟨rb, b0, b1, b2⟩ := lst_of h b b (Nat.le_refl _)
  have ne : ra ≠ rb := fun e => by
    subst e
    exact hn (h.2.2 _ _ _ (h.2.1 _ _ a1) b1)
  by_cases lt : ra < rb
  · exact cls_jn1 h hn a1 a2 (by omega) b1 b2 lt
  · rw [cls_jn1 h (fun w => hn (h.2.1 _ _ w)) b1 b2 (by omega) a1 a2 (show rb < ra by omega)]
    congr 1
    exact cls_c (fun x y _ _ => jnR_sw)
end
