/-! THE PURE PART, drawings: what a drawing lacks; an edge less lacks no more. -/
section
/-- what the backs and the rounds join -/
def genR (α ρ : Nat → Nat) (x y : Nat) : Prop := ∀ R : Nat → Nat → Prop, eqvR R → (∀ z, R z (α z)) → (∀ z, R z (ρ z)) → R x y
theorem gen_eqv {α ρ : Nat → Nat} : eqvR (genR α ρ) := ⟨fun x R h _ _ => h.1 x, fun x y w R h a b => h.2.1 _ _ (w R h a b), fun x y z w1 w2 R h a b => h.2.2 _ _ _ (w1 R h a b) (w2 R h a b)⟩
theorem gen_al {α ρ : Nat → Nat} (x : Nat) : genR α ρ x (α x) := fun _ _ a _ => a x
theorem gen_rh {α ρ : Nat → Nat} (x : Nat) : genR α ρ x (ρ x) := fun _ _ _ b => b x
noncomputable def gnZ (α ρ : Nat → Nat) (N : Nat) : Int := (N : Int) + 2 * (clsN (genR α ρ) N : Int) - (clsN (orbN α) N : Int) - (clsN (orbN ρ) N : Int) - (clsN (orbN (fun x => ρ (α x))) N : Int)
theorem jn_in {R : Nat → Nat → Prop} {a b : Nat} (h : eqvR R) : jnR R a b a b := Or.inr (Or.inl ⟨h.1 a, h.1 b⟩)
theorem cls_jle {R : Nat → Nat → Prop} (h : eqvR R) {n a b : Nat} (ha : a < n) (hb : b < n) : clsN R n ≤ clsN (jnR R a b) n + 1 ∧ (R a b → clsN R n = clsN (jnR R a b) n) := by
  by_cases e : R a b
  · have : clsN R n = clsN (jnR R a b) n := cls_c (fun x y _ _ => ⟨Or.inl, fun w => by
      rcases w with w | ⟨w1, w2⟩ | ⟨w1, w2⟩
      · exact w
      · exact h.2.2 _ _ _ w1 (h.2.2 _ _ _ e w2)
      · exact h.2.2 _ _ _ w1 (h.2.2 _ _ _ (h.2.1 _ _ e) w2)⟩)
    exact ⟨by omega, fun _ => this⟩
  · exact ⟨by rw [cls_join h ha hb e]; exact Nat.le_refl _, fun w => absurd w e⟩
theorem cmp_prm {α ρ : Nat → Nat} {N : Nat} (h1 : prmN α N) (h2 : prmN ρ N) : prmN (fun x => ρ (α x)) N := ⟨fun x hx => h2.1 _ (h1.1 x hx), fun x hx => by
  show ρ (α x) = x
  rw [h1.2.1 x hx, h2.2.1 x hx], fun x y e => h1.2.2 _ _ (h2.2.2 _ _ e)⟩
/-- an edge is cut: its two goings have no back any more -/
theorem gn_a {α ρ : Nat → Nat} {N d d' : Nat} (h1 : prmN α N) (h2 : prmN ρ N) (hd : d < N) (hd' : d' < N) (ne : d ≠ d') (e1 : α d = d') (e2 : α d' = d) : gnZ (swpN α d d') ρ N ≤ gnZ α ρ N := by
  have P := cmp_prm h1 h2
  have eφ : (fun x => ρ (swpN α d d' x)) = swpN (fun x => ρ (α x)) d d' := by
    funext x
    unfold swpN
    split
    · rfl
    · split <;> rfl
  have cα : clsN (orbN (swpN α d d')) N = clsN (orbN α) N + 1 := (cls_swp h1 hd hd' ne).2 ⟨1, e1⟩
  have G' : eqvR (genR (swpN α d d') ρ) := gen_eqv
  have eG : ∀ x y, genR α ρ x y ↔ jnR (genR (swpN α d d') ρ) d d' x y := fun x y => by
    constructor
    · intro w
      refine w _ (jnR_eqv G') (fun z => ?_) (fun z => Or.inl (gen_rh z))
      by_cases z1 : z = d
      · rw [z1, e1]
        exact jn_in G'
      · by_cases z2 : z = d'
        · rw [z2, e2]
          exact (jnR_eqv G').2.1 _ _ (jn_in G')
        · have := gen_al (α := swpN α d d') (ρ := ρ) z
          rw [swp_n z1 z2] at this
          exact Or.inl this
    · have sub : ∀ x y, genR (swpN α d d') ρ x y → genR α ρ x y := fun x y w => w _ gen_eqv (fun z => by
        by_cases z1 : z = d
        · rw [z1, swp_a, e2]
          exact gen_eqv.1 _
        · by_cases z2 : z = d'
          · rw [z2, swp_b, e1]
            exact gen_eqv.1 _
          · rw [swp_n z1 z2]
            exact gen_al z) gen_rh
      have dd : genR α ρ d d' := by
        have := gen_al (α := α) (ρ := ρ) d
        rw [e1] at this
        exact this
      rintro (w | ⟨w1, w2⟩ | ⟨w1, w2⟩)
      · exact sub _ _ w
      · exact gen_eqv.2.2 _ _ _ (sub _ _ w1) (gen_eqv.2.2 _ _ _ dd (sub _ _ w2))
      · exact gen_eqv.2.2 _ _ _ (sub _ _ w1) (gen_eqv.2.2 _ _ _ (gen_eqv.2.1 _ _ dd) (sub _ _ w2))
  have cG := cls_c (n := N) (fun x y _ _ => eG x y)
  obtain ⟨j1, j2⟩ := cls_jle G' hd hd'
  obtain ⟨s1, s2⟩ := cls_swp P hd hd' ne
  unfold gnZ
  rw [eφ, cα, cG]
  by_cases o : orbN (fun x => ρ (α x)) d d'
  · rw [s2 o]
    omega
  · have := s1 o
    have con : genR (swpN α d d') ρ d d' := by
      have := (swp_one P hd hd' o d d').mpr (jn_in (orb_eqv P))
      rw [← eφ] at this
      exact orb_sub G' (fun z => G'.2.2 _ _ _ (gen_al z) (gen_rh _)) this
    have := j2 con
    omega
/-- a going without a back leaves its round -/
theorem gn_b {α ρ : Nat → Nat} {N d p q : Nat} (h1 : prmN α N) (h2 : prmN ρ N) (hd : d < N) (hp : p < N) (hq : q < N) (ne : d ≠ p) (e1 : α d = d) (e2 : ρ p = d) (e3 : α q = p) : gnZ α (swpN ρ d p) N ≤ gnZ α ρ N := by
  have P := cmp_prm h1 h2
  have nq : d ≠ q := fun z => ne (by rw [← e3, ← z, e1])
  have eφ : (fun x => swpN ρ d p (α x)) = swpN (fun x => ρ (α x)) d q := by
    funext x
    by_cases x1 : x = d
    · rw [x1, swp_a, e1, swp_a, e3]
    · by_cases x2 : x = q
      · rw [x2, swp_b, e3, swp_b, e1]
      · rw [swp_n x1 x2, swp_n (fun z => x1 (h1.2.2 _ _ (by rw [z, e1]))) (fun z => x2 (h1.2.2 _ _ (by rw [z, e3])))]
  have cρ : clsN (orbN (swpN ρ d p)) N = clsN (orbN ρ) N + 1 := (cls_swp h2 hd hp ne).2 ((orb_eqv h2).2.1 _ _ ⟨1, e2⟩)
  have cφ : clsN (orbN (swpN (fun x => ρ (α x)) d q)) N = clsN (orbN (fun x => ρ (α x))) N + 1 := (cls_swp P hd hq nq).2 ((orb_eqv P).2.1 _ _ ⟨1, by show ρ (α q) = d; rw [e3, e2]⟩)
  have G' : eqvR (genR α (swpN ρ d p)) := gen_eqv
  have pd : genR α ρ p d := by
    have := gen_rh (α := α) (ρ := ρ) p
    rw [e2] at this
    exact this
  have eG : ∀ x y, genR α ρ x y ↔ jnR (genR α (swpN ρ d p)) d p x y := fun x y => by
    constructor
    · intro w
      have J := jnR_eqv (a := d) (b := p) G'
      refine w _ J (fun z => Or.inl (gen_al z)) (fun z => ?_)
      by_cases z1 : z = d
      · have := gen_rh (α := α) (ρ := swpN ρ d p) p
        rw [swp_b] at this
        rw [z1]
        exact J.2.2 _ _ _ (jn_in G') (Or.inl this)
      · by_cases z2 : z = p
        · rw [z2, e2]
          exact J.2.1 _ _ (jn_in G')
        · have := gen_rh (α := α) (ρ := swpN ρ d p) z
          rw [swp_n z1 z2] at this
          exact Or.inl this
    · have sub : ∀ x y, genR α (swpN ρ d p) x y → genR α ρ x y := fun x y w => w _ gen_eqv gen_al (fun z => by
        by_cases z1 : z = d
        · rw [z1, swp_a, e2]
          exact gen_eqv.1 _
        · by_cases z2 : z = p
          · rw [z2, swp_b]
            exact gen_eqv.2.2 _ _ _ pd (gen_rh d)
          · rw [swp_n z1 z2]
            exact gen_rh z)
      rintro (w | ⟨w1, w2⟩ | ⟨w1, w2⟩)
      · exact sub _ _ w
      · exact gen_eqv.2.2 _ _ _ (sub _ _ w1) (gen_eqv.2.2 _ _ _ (gen_eqv.2.1 _ _ pd) (sub _ _ w2))
      · exact gen_eqv.2.2 _ _ _ (sub _ _ w1) (gen_eqv.2.2 _ _ _ pd (sub _ _ w2))
  have cG := cls_c (n := N) (fun x y _ _ => eG x y)
  obtain ⟨j1, j2⟩ := cls_jle G' hd hp
  unfold gnZ
  rw [eφ, cρ, cφ, cG]
  omega
end
