/-! THE PURE PART, drawings: no drawing lacks less than nothing; what lacks nothing keeps so without an edge. -/
section
def skpN (ρ : Nat → Nat) (d x : Nat) : Nat := if x = d then d else if ρ x = d then ρ d else ρ x
theorem skp_sw {ρ : Nat → Nat} {N d : Nat} (h : prmN ρ N) (hd : d < N) : (ρ d = d ∧ skpN ρ d = ρ) ∨ ∃ p, p < N ∧ d ≠ p ∧ ρ p = d ∧ skpN ρ d = swpN ρ d p := by
  by_cases e : ρ d = d
  · refine Or.inl ⟨e, ?_⟩
    funext x
    unfold skpN
    by_cases z : x = d
    · rw [if_pos z, z, e]
    · rw [if_neg z, if_neg (fun w => z (h.2.2 _ _ (by rw [w, e])))]
  · obtain ⟨K, K0, K1⟩ := itA_per h d
    obtain ⟨k, rfl⟩ : ∃ k, K = k + 1 := ⟨K - 1, by omega⟩
    have hp : ρ (itA ρ k d) = d := K1
    refine Or.inr ⟨itA ρ k d, itA_lt h hd k, fun z => e (by rw [← z] at hp; exact hp), hp, ?_⟩
    funext x
    unfold skpN swpN
    by_cases z : x = d
    · rw [if_pos z, if_pos z, hp]
    · rw [if_neg z, if_neg z]
      by_cases w : ρ x = d
      · rw [if_pos w, if_pos (h.2.2 _ _ (by rw [w, hp]))]
      · rw [if_neg w, if_neg (fun y => w (by rw [y, hp]))]
theorem skp_prm {ρ : Nat → Nat} {N d : Nat} (h : prmN ρ N) (hd : d < N) : prmN (skpN ρ d) N := by
  rcases skp_sw h hd with ⟨_, e⟩ | ⟨p, p1, _, _, e⟩
  · rw [e]
    exact h
  · rw [e]
    exact swp_prm h hd p1
/-- backs: there and back again -/
def invN (α : Nat → Nat) (N : Nat) : Prop := prmN α N ∧ ∀ x, α (α x) = x
theorem gn_skip {α ρ : Nat → Nat} {N d : Nat} (h1 : invN α N) (h2 : prmN ρ N) (hd : d < N) (e1 : α d = d) : gnZ α (skpN ρ d) N ≤ gnZ α ρ N := by
  rcases skp_sw h2 hd with ⟨_, e⟩ | ⟨p, p1, p2, p3, e⟩
  · rw [e]
    exact Int.le_refl _
  · rw [e]
    exact gn_b h1.1 h2 hd p1 (h1.1.1 p p1) p2 e1 p3 (h1.2 p)
theorem cut_inv {α : Nat → Nat} {N d : Nat} (h : invN α N) (hd : d < N) : invN (swpN α d (α d)) N := by
  refine ⟨swp_prm h.1 hd (h.1.1 d hd), fun x => ?_⟩
  by_cases x1 : x = d
  · rw [x1, swp_a, h.2, swp_a, h.2]
  · by_cases x2 : x = α d
    · rw [x2, swp_b, swp_b]
    · rw [swp_n x1 x2, swp_n (fun z => x2 (by rw [← z, h.2])) (fun z => x1 (h.1.2.2 _ _ z)), h.2]
/-- without one edge -/
theorem gn_cut {α ρ : Nat → Nat} {N d : Nat} (h1 : invN α N) (h2 : prmN ρ N) (hd : d < N) (ne : α d ≠ d) : gnZ (swpN α d (α d)) (skpN (skpN ρ d) (α d)) N ≤ gnZ α ρ N := by
  have I := cut_inv h1 hd
  have hd' := h1.1.1 d hd
  have s1 := gn_a h1.1 h2 hd hd' (fun z => ne z.symm) rfl (h1.2 d)
  have s2 := gn_skip I h2 hd (by rw [swp_a, h1.2])
  have s3 := gn_skip I (skp_prm h2 hd) hd' swp_b
  exact Int.le_trans s3 (Int.le_trans s2 s1)
theorem cls_id {R : Nat → Nat → Prop} {n : Nat} (h : ∀ x y, R x y → x = y) : clsN R n = n := by
  have : clsN R n = cnt (fun _ => true) n := cnt_eq n (fun i _ => frN_t.mpr (fun j hj w => by
    have := h _ _ w
    omega))
  rw [this, cnt_T]
theorem gn_0 {α ρ : Nat → Nat} {N : Nat} (h1 : ∀ x, α x = x) (h2 : ∀ x, ρ x = x) : gnZ α ρ N = 0 := by
  have e1 : α = fun x => x := funext h1
  have e2 : ρ = fun x => x := funext h2
  subst e1
  subst e2
  have o : ∀ k x, itA (fun x => x) k x = x := fun k x => by
    induction k with
    | zero => rfl
    | succ k ih => exact ih
  have c1 : clsN (orbN (fun x => x)) N = N := cls_id (fun x y w => by
    obtain ⟨k, e⟩ := w
    rw [o] at e
    exact e)
  have c2 : clsN (genR (fun x => x) (fun x => x)) N = N := cls_id (fun x y w => w Eq ⟨fun _ => rfl, fun _ _ e => e.symm, fun _ _ _ a b => a.trans b⟩ (fun _ => rfl) (fun _ => rfl))
  unfold gnZ
  rw [c1, c2]
  omega
def movB (f : Nat → Nat) (x : Nat) : Bool := !decide (f x = x)
theorem movB_f {f : Nat → Nat} {x : Nat} : movB f x = false ↔ f x = x := by
  unfold movB
  rw [Bool.not_eq_false', decide_eq_true_iff]
theorem movB_t {f : Nat → Nat} {x : Nat} : movB f x = true ↔ f x ≠ x := by
  unfold movB
  rw [Bool.not_eq_true', decide_eq_false_iff_not]
/-- no drawing lacks less than nothing -/
theorem gn_pos {N : Nat} : ∀ k (α ρ : Nat → Nat), cnt (movB α) N + cnt (movB ρ) N ≤ k → invN α N → prmN ρ N → 0 ≤ gnZ α ρ N := by
  intro k
  induction k with
  | zero =>
    intro α ρ hk h1 h2
    have fx : ∀ f, prmN f N → cnt (movB f) N = 0 → ∀ x, f x = x := fun f hf hc x => by
      by_cases hx : x < N
      · refine Classical.byContradiction fun z => ?_
        have := cnt_pos (movB_t.mpr z) hx
        omega
      · exact hf.2.1 x (by omega)
    rw [gn_0 (fx α h1.1 (by omega)) (fx ρ h2 (by omega))]
    exact Int.le_refl _
  | succ k ih =>
    intro α ρ hk h1 h2
    by_cases a : ∃ d, d < N ∧ α d ≠ d
    · obtain ⟨d, hd, ne⟩ := a
      have I := cut_inv h1 hd
      have lt : cnt (movB (swpN α d (α d))) N < cnt (movB α) N := cnt_lt (fun j _ hj => by
        rw [movB_t] at hj ⊢
        intro z
        refine hj ?_
        by_cases x1 : j = d
        · rw [x1, swp_a, h1.2]
        · by_cases x2 : j = α d
          · rw [x2, swp_b]
          · rw [swp_n x1 x2, z]) hd (movB_f.mpr (by rw [swp_a, h1.2])) (movB_t.mpr ne)
      have := ih _ ρ (by omega) I h2
      exact Int.le_trans this (gn_a h1.1 h2 hd (h1.1.1 d hd) (fun z => ne z.symm) rfl (h1.2 d))
    · have fa : ∀ x, x < N → α x = x := fun x hx => Classical.byContradiction fun z => a ⟨x, hx, z⟩
      by_cases r : ∃ d, d < N ∧ ρ d ≠ d
      · obtain ⟨d, hd, ne⟩ := r
        have lt : cnt (movB (skpN ρ d)) N < cnt (movB ρ) N := cnt_lt (fun j _ hj => by
          rw [movB_t] at hj ⊢
          intro z
          refine hj ?_
          unfold skpN
          by_cases x1 : j = d
          · rw [if_pos x1, x1]
          · rw [if_neg x1, if_neg (fun w => x1 (by rw [← w, z])), z]) hd (movB_f.mpr (if_pos rfl)) (movB_t.mpr ne)
        have := ih α _ (by omega) h1 (skp_prm h2 hd)
        exact Int.le_trans this (gn_skip h1 h2 hd (fa d hd))
      · rw [gn_0 (fun x => by
          by_cases hx : x < N
          · exact fa x hx
          · exact h1.1.2.1 x (by omega)) (fun x => by
          by_cases hx : x < N
          · exact Classical.byContradiction fun z => r ⟨x, hx, z⟩
          · exact h2.2.1 x (by omega))]
        exact Int.le_refl _
/-- what lacks nothing lacks nothing without an edge -/
theorem gn_her {α ρ : Nat → Nat} {N d : Nat} (h1 : invN α N) (h2 : prmN ρ N) (hd : d < N) (ne : α d ≠ d) (h0 : gnZ α ρ N = 0) : gnZ (swpN α d (α d)) (skpN (skpN ρ d) (α d)) N = 0 := by
  have a := gn_cut h1 h2 hd ne
  have b := gn_pos _ (swpN α d (α d)) (skpN (skpN ρ d) (α d)) (Nat.le_refl _) (cut_inv h1 hd) (skp_prm (skp_prm h2 hd) (h1.1.1 d hd))
  omega
end
