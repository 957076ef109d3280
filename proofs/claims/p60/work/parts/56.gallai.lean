/-! THE PURE PART, pairings: Gallai's lemma by exchange, and what goes when a node is left out. -/
section
theorem cnt_two {P Q : Nat → Bool} {n x y : Nat} (hx : x < n) (hy : y < n) (hxy : x ≠ y) (px : P x = true) (py : P y = true) (qx : Q x = false) (qy : Q y = false) (h : ∀ i, i ≠ x → i ≠ y → Q i = P i) : cnt P n = cnt Q n + 2 := by
  rw [cnt_del px n hx, cnt_del (X := cdel P x) (i := y) (cdel_eq.mpr ⟨py, fun e => hxy e.symm⟩) n hy, cnt_eq (X := cdel (cdel P x) y) (Y := Q) n (fun i _ => ?_)]
  unfold cdel
  by_cases e1 : i = x
  · subst e1
    rw [decide_eq_true rfl, qx]
    cases P i <;> rfl
  · by_cases e2 : i = y
    · subst e2
      rw [decide_eq_true (p := i = i) rfl, qy]
      cases P i && !decide (i = x) <;> rfl
    · rw [decide_eq_false e1, decide_eq_false e2, h i e1 e2]
      cases P i <;> rfl
/-- a pairing within X -/
def Mt (ad : Nat → Nat → Bool) (X : Nat → Bool) (p : Nat → Nat) : Prop := ∀ i, p (p i) = i ∧ (p i ≠ i → X i = true ∧ ad i (p i) = true)
def alo (X : Nat → Bool) (p : Nat → Nat) (n : Nat) : Nat := cnt (fun i => X i && decide (p i = i)) n
def Mx (ad : Nat → Nat → Bool) (X : Nat → Bool) (n : Nat) (p : Nat → Nat) : Prop := Mt ad X p ∧ ∀ q, Mt ad X q → alo X p n ≤ alo X q n
def swp (p : Nat → Nat) (x y i : Nat) : Nat := if i = x then y else if i = y then x else p i
def ctp (p : Nat → Nat) (x i : Nat) : Nat := if i = x ∨ i = p x then i else p i
theorem Mt.X {ad : Nat → Nat → Bool} {X : Nat → Bool} {p : Nat → Nat} (h : Mt ad X p) {i : Nat} (hi : p i ≠ i) : X (p i) = true := by
  have h1 := (h i).1
  exact ((h (p i)).2 (by rw [h1]; exact fun e => hi e.symm)).1
theorem Mt.sw {ad : Nat → Nat → Bool} {X : Nat → Bool} {p : Nat → Nat} {x y : Nat} (h : Mt ad X p) (hxy : x ≠ y) (px : p x = x) (py : p y = y) (hx : X x = true) (hy : X y = true) (a1 : ad x y = true) (a2 : ad y x = true) : Mt ad X (swp p x y) := by
  intro i
  unfold swp
  by_cases e1 : i = x
  · subst e1
    rw [if_pos rfl, if_neg (fun e => hxy e.symm), if_pos rfl]
    exact ⟨rfl, fun _ => ⟨hx, a1⟩⟩
  · by_cases e2 : i = y
    · subst e2
      rw [if_neg e1, if_pos rfl, if_pos rfl]
      exact ⟨rfl, fun _ => ⟨hy, a2⟩⟩
    · rw [if_neg e1, if_neg e2, if_neg (fun e => e1 (by rw [← (h i).1, e, px])), if_neg (fun e => e2 (by rw [← (h i).1, e, py]))]
      exact h i
theorem alo_swp {X : Nat → Bool} {p : Nat → Nat} {n x y : Nat} (hxy : x ≠ y) (px : p x = x) (py : p y = y) (hx : X x = true) (hy : X y = true) (xn : x < n) (yn : y < n) : alo X p n = alo X (swp p x y) n + 2 := by
  refine cnt_two xn yn hxy ?_ ?_ ?_ ?_ (fun i e1 e2 => ?_)
  · show (X x && decide (p x = x)) = true
    rw [hx, decide_eq_true px]
    rfl
  · show (X y && decide (p y = y)) = true
    rw [hy, decide_eq_true py]
    rfl
  · show (X x && decide (swp p x y x = x)) = false
    unfold swp
    rw [if_pos rfl, decide_eq_false (fun e => hxy e.symm), Bool.and_false]
  · show (X y && decide (swp p x y y = y)) = false
    unfold swp
    rw [if_neg (fun e => hxy e.symm), if_pos rfl, decide_eq_false hxy, Bool.and_false]
  · show (X i && decide (swp p x y i = i)) = (X i && decide (p i = i))
    unfold swp
    rw [if_neg e1, if_neg e2]
theorem Mt.ct {ad : Nat → Nat → Bool} {X : Nat → Bool} {p : Nat → Nat} {x : Nat} (h : Mt ad X p) : Mt ad X (ctp p x) := by
  intro i
  unfold ctp
  by_cases e : i = x ∨ i = p x
  · rw [if_pos e, if_pos e]
    exact ⟨rfl, fun z => absurd rfl z⟩
  · rw [if_neg e, if_neg (fun z => e ?_)]
    · exact h i
    · rcases z with z | z
      · right
        rw [← z, (h i).1]
      · left
        rw [← (h i).1, z, (h x).1]
theorem alo_ctp {ad : Nat → Nat → Bool} {X : Nat → Bool} {p : Nat → Nat} {n x : Nat} (hX : ∀ i, X i = true → i < n) (h : Mt ad X p) (px : p x ≠ x) : alo X (ctp p x) n = alo X p n + 2 := by
  have h1 := (h x).2 px
  have h2 := h.X px
  refine cnt_two (x := x) (y := p x) (hX _ h1.1) (hX _ h2) (fun e => px e.symm) ?_ ?_ ?_ ?_ (fun i e1 e2 => ?_)
  · show (X x && decide (ctp p x x = x)) = true
    unfold ctp
    rw [if_pos (Or.inl rfl), h1.1, decide_eq_true rfl]
    rfl
  · show (X (p x) && decide (ctp p x (p x) = p x)) = true
    unfold ctp
    rw [if_pos (Or.inr rfl), h2, decide_eq_true rfl]
    rfl
  · show (X x && decide (p x = x)) = false
    rw [decide_eq_false px, Bool.and_false]
  · show (X (p x) && decide (p (p x) = p x)) = false
    rw [(h x).1, decide_eq_false (fun e => px e.symm), Bool.and_false]
  · show (X i && decide (p i = i)) = (X i && decide (ctp p x i = i))
    unfold ctp
    rw [if_neg (fun z => z.elim e1 e2)]
theorem Mx.eq {ad : Nat → Nat → Bool} {X : Nat → Bool} {n : Nat} {p q : Nat → Nat} (h1 : Mx ad X n p) (h2 : Mx ad X n q) : alo X p n = alo X q n := Nat.le_antisymm (h1.2 q h2.1) (h2.2 p h1.1)
theorem Mx.of {ad : Nat → Nat → Bool} {X : Nat → Bool} {n : Nat} {p q : Nat → Nat} (h1 : Mx ad X n p) (h2 : Mt ad X q) (e : alo X q n ≤ alo X p n) : Mx ad X n q := ⟨h2, fun r hr => Nat.le_trans e (h1.2 r hr)⟩
/-- two that are alone are not neighbours -/
theorem Mx.na {ad : Nat → Nat → Bool} {X : Nat → Bool} {n : Nat} {p : Nat → Nat} {x y : Nat} (hX : ∀ i, X i = true → i < n) (hs : ∀ i j, ad i j = true → ad j i = true) (h : Mx ad X n p) (hxy : x ≠ y) (px : p x = x) (py : p y = y) (hx : X x = true) (hy : X y = true) : ad x y = false := by
  cases e : ad x y with
  | false => rfl
  | true =>
    have := h.2 _ (h.1.sw hxy px py hx hy e (hs _ _ e))
    have := alo_swp hxy px py hx hy (hX _ hx) (hX _ hy)
    omega
theorem gallai {ad : Nat → Nat → Bool} {X : Nat → Bool} {n : Nat} {M : Nat → Nat} {u v t : Nat} (hX : ∀ i, X i = true → i < n) (hs : ∀ i j, ad i j = true → ad j i = true) (hM : Mx ad X n M) (huv : u ≠ v) (mu : M u = u) (mv : M v = v) (hu : X u = true) (hv : X v = true) : ∀ k N, n ≤ cnt (fun i => decide (M i = N i ∧ M i ≠ i)) n + k → Mx ad X n N → X t = true → N t = t → ∃ N', Mx ad X n N' ∧ N' t = t ∧ (N' u = u ∨ N' v = v) := by
  intro k
  induction k with
  | zero =>
    intro N hk _ _ _
    have := of_decide_eq_true (cnt_full (X := fun i => decide (M i = N i ∧ M i ≠ i)) (n := n) hk (hX _ hu))
    exact absurd mu this.2
  | succ k ih =>
    intro N hk hN ht nt
    by_cases nu : N u = u
    · exact ⟨N, hN, nt, Or.inl nu⟩
    by_cases nv : N v = v
    · exact ⟨N, hN, nt, Or.inr nv⟩
    have hx : ∃ x, x ≠ t ∧ X x = true ∧ N x = x ∧ M x ≠ x := by
      rcases Classical.em (∃ x, x ≠ t ∧ X x = true ∧ N x = x ∧ M x ≠ x) with h | h
      · exact h
      · exfalso
        have e := hM.eq hN
        unfold alo at e
        have d1 := cnt_del (X := fun i => X i && decide (N i = i)) (i := t) (by show (X t && decide (N t = t)) = true; rw [ht, decide_eq_true nt]; rfl) n (hX _ ht)
        have d2 := cnt_del (X := fun i => X i && decide (M i = i)) (i := u) (by show (X u && decide (M u = u)) = true; rw [hu, decide_eq_true mu]; rfl) n (hX _ hu)
        have d3 := cnt_del (X := cdel (fun i => X i && decide (M i = i)) u) (i := v) (cdel_eq.mpr ⟨by show (X v && decide (M v = v)) = true; rw [hv, decide_eq_true mv]; rfl, fun e => huv e.symm⟩) n (hX _ hv)
        have le := cnt_le (X := cdel (fun i => X i && decide (N i = i)) t) (Y := cdel (cdel (fun i => X i && decide (M i = i)) u) v) n (fun i _ hi => by
          obtain ⟨a1, a2⟩ := cdel_eq.mp hi
          have a1 : (X i && decide (N i = i)) = true := a1
          rw [Bool.and_eq_true, decide_eq_true_eq] at a1
          have mi : M i = i := Classical.byContradiction fun z => h ⟨i, a2, a1.1, a1.2, z⟩
          refine cdel_eq.mpr ⟨cdel_eq.mpr ⟨by show (X i && decide (M i = i)) = true; rw [a1.1, decide_eq_true mi]; rfl, fun e => nu ?_⟩, fun e => nv ?_⟩
          · rw [← e]
            exact a1.2
          · rw [← e]
            exact a1.2)
        omega
    obtain ⟨x, x1, x2, x3, x4⟩ := hx
    have y1 := hM.1.X x4
    have y2 := ((hM.1 x).2 x4).2
    have y3 := (hM.1 x).1
    have yx : x ≠ M x := fun e => x4 e.symm
    have ny : N (M x) ≠ M x := fun e => by
      have := hN.na hX hs yx x3 e x2 y1
      rw [y2] at this
      exact absurd this (by decide)
    generalize hy : M x = y at *
    have zx : x ≠ N y := fun e => yx (by have := (hN.1 y).1; rw [← e, x3] at this; exact this)
    have cx : ctp N y x = x := by unfold ctp; rw [if_neg (fun z => z.elim yx zx)]; exact x3
    have cy : ctp N y y = y := by unfold ctp; rw [if_pos (Or.inl rfl)]
    have hM' := (hN.1.ct (x := y)).sw yx cx cy x2 y1 y2 (hs _ _ y2)
    have al1 := alo_ctp (x := y) hX hN.1 ny
    have al2 := alo_swp yx cx cy x2 y1 (hX _ x2) (hX _ y1)
    have ty : t ≠ y := fun e => ny (by rw [← e]; exact nt)
    have tz : t ≠ N y := fun e => ny (by have := (hN.1 y).1; rw [← e, nt] at this; rw [← this]; exact nt)
    have val : ∀ i, i ≠ x → i ≠ y → i ≠ N y → swp (ctp N y) x y i = N i := fun i a b c => by
      unfold swp ctp
      rw [if_neg a, if_neg b, if_neg (fun z => z.elim b c)]
    refine ih (swp (ctp N y) x y) ?_ (hN.of hM' (by omega)) ht (by rw [val t (fun e => x1 e.symm) ty tz]; exact nt)
    have lt := cnt_lt (X := fun i => decide (M i = N i ∧ M i ≠ i)) (Y := fun i => decide (M i = swp (ctp N y) x y i ∧ M i ≠ i)) (n := n) (i := x) (fun i _ hi => by
      have hi := of_decide_eq_true hi
      refine decide_eq_true ⟨?_, hi.2⟩
      by_cases e1 : i = x
      · subst e1
        unfold swp
        rw [if_pos rfl]
        exact hy
      · by_cases e2 : i = y
        · subst e2
          unfold swp
          rw [if_neg e1, if_pos rfl]
          exact y3
        · by_cases e3 : i = N y
          · have := (hN.1 y).1
            rw [← e3, ← hi.1] at this
            rw [← (hM.1 i).1, this, y3] at e1
            exact absurd rfl e1
          · rw [val i e1 e2 e3]
            exact hi.1) (hX _ x2) (decide_eq_false (fun z => x4 (by rw [hy] at z; rw [z.1]; exact x3))) (decide_eq_true ⟨by unfold swp; rw [if_pos rfl]; exact hy, by rw [hy]; exact x4⟩)
    omega
/-- can be alone -/
def Dn (ad : Nat → Nat → Bool) (X : Nat → Bool) (n v : Nat) : Prop := ∃ p, Mx ad X n p ∧ X v = true ∧ p v = v
/-- never both alone -/
def Nb (ad : Nat → Nat → Bool) (X : Nat → Bool) (n u v : Nat) : Prop := ∀ p, Mx ad X n p → X u = true → X v = true → p u = u → p v = v → u = v
theorem Nb.tr {ad : Nat → Nat → Bool} {X : Nat → Bool} {n u t v : Nat} (hX : ∀ i, X i = true → i < n) (hs : ∀ i j, ad i j = true → ad j i = true) (ht : Dn ad X n t) (h1 : Nb ad X n u t) (h2 : Nb ad X n t v) : Nb ad X n u v := by
  intro p hp xu xv pu pv
  rcases Nat.decEq u v with ne | e
  · obtain ⟨N, hN, xt, nt⟩ := ht
    obtain ⟨N', a, b, c⟩ := gallai hX hs hp ne pu pv xu xv n N (by omega) hN xt nt
    rcases c with c | c
    · have e := h1 N' a xu xt c b
      subst e
      exact h2 p hp xu xv pu pv
    · have e := h2 N' a xt xv b c
      subst e
      exact h1 p hp xu xv pu pv
  · exact e
theorem Nb.sy {ad : Nat → Nat → Bool} {X : Nat → Bool} {n u v : Nat} (h : Nb ad X n u v) : Nb ad X n v u := fun p hp xv xu pv pu => (h p hp xu xv pu pv).symm
theorem Nb.ad {ad : Nat → Nat → Bool} {X : Nat → Bool} {n u v : Nat} (hX : ∀ i, X i = true → i < n) (hs : ∀ i j, ad i j = true → ad j i = true) (h : ad u v = true) : Nb ad X n u v := fun p hp xu xv pu pv => by
  rcases Nat.decEq u v with ne | e
  · have := hp.na hX hs ne pu pv xu xv
    rw [h] at this
    exact absurd this (by decide)
  · exact e
end
