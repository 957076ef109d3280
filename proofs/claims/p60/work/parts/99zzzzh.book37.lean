/-! REDUCTIONS: pairs out of chosen edges; out of a flow. -/
section
def pwR (A B : Nat → Nat) (ch : Nat → Bool) (s : Nat) : Nat → List Int32
  | 0 => (List.range s).map nI
  | j + 1 => if ch j = true then ((pwR A B ch s j).set (A j) (nI (B j))).set (B j) (nI (A j)) else pwR A B ch s j
theorem pwR_len {A B : Nat → Nat} {ch : Nat → Bool} {s : Nat} : ∀ n, (pwR A B ch s n).length = s
  | 0 => by rw [pwR, List.length_map, List.length_range]
  | n + 1 => by
    rw [pwR]
    by_cases h : ch n = true
    · rw [if_pos h, List.length_set, List.length_set, pwR_len n]
    · rw [if_neg h, pwR_len n]
theorem pwR_at {A B : Nat → Nat} {ch : Nat → Bool} {s v : Nat} (hv : v < s) : ∀ n, (∀ j, j < n → A j < s ∧ B j < s) → (∃ j, j < n ∧ ch j = true ∧ (A j = v ∧ (pwR A B ch s n).getD v 0 = nI (B j) ∨ B j = v ∧ (pwR A B ch s n).getD v 0 = nI (A j))) ∨ ((∀ j, j < n → ch j = true → A j ≠ v ∧ B j ≠ v) ∧ (pwR A B ch s n).getD v 0 = nI v)
  | 0, _ => by
    right
    refine ⟨fun j hj => absurd hj (Nat.not_lt_zero _), ?_⟩
    rw [pwR, List.getD_eq_getElem?_getD, List.getElem?_map, List.getElem?_range hv]
    rfl
  | n + 1, h => by
    have ih := pwR_at (ch := ch) hv n (fun j hj => h j (by omega))
    obtain ⟨a1, a2⟩ := h n (by omega)
    by_cases hc : ch n = true
    · have e : (pwR A B ch s (n + 1)).getD v 0 = if v = B n then nI (A n) else if v = A n then nI (B n) else (pwR A B ch s n).getD v 0 := by
        rw [pwR, if_pos hc, getD_set _ _ (by rw [List.length_set, pwR_len]; exact a2), getD_set _ _ (by rw [pwR_len]; exact a1)]
      rw [e]
      by_cases z1 : v = B n
      · rw [if_pos z1]
        exact Or.inl ⟨n, by omega, hc, Or.inr ⟨z1.symm, rfl⟩⟩
      rw [if_neg z1]
      by_cases z2 : v = A n
      · rw [if_pos z2]
        exact Or.inl ⟨n, by omega, hc, Or.inl ⟨z2.symm, rfl⟩⟩
      rw [if_neg z2]
      rcases ih with ⟨j, j1, j2, j3⟩ | ⟨i1, i2⟩
      · exact Or.inl ⟨j, by omega, j2, j3⟩
      · refine Or.inr ⟨fun j hj hj2 => ?_, i2⟩
        by_cases ej : j = n
        · rw [ej]
          exact ⟨fun c => z2 c.symm, fun c => z1 c.symm⟩
        · exact i1 j (by omega) hj2
    · have e : pwR A B ch s (n + 1) = pwR A B ch s n := by rw [pwR, if_neg hc]
      rw [e]
      rcases ih with ⟨j, j1, j2, j3⟩ | ⟨i1, i2⟩
      · exact Or.inl ⟨j, by omega, j2, j3⟩
      · refine Or.inr ⟨fun j hj hj2 => ?_, i2⟩
        by_cases ej : j = n
        · rw [ej] at hj2
          exact absurd hj2 hc
        · exact i1 j (by omega) hj2
/-- no two that are chosen share a node -/
def dsj (A B : Nat → Nat) (ch : Nat → Bool) (m : Nat) : Prop := ∀ i j, i < m → j < m → ch i = true → ch j = true → (A i = A j ∨ A i = B j ∨ B i = A j ∨ B i = B j) → i = j
/-- a node is taken -/
def covB (A B : Nat → Nat) (ch : Nat → Bool) (v : Nat) : Nat → Bool
  | 0 => false
  | j + 1 => covB A B ch v j || (ch j && (decide (A j = v) || decide (B j = v)))
theorem covB_iff {A B : Nat → Nat} {ch : Nat → Bool} {v : Nat} : ∀ n, covB A B ch v n = true ↔ ∃ j, j < n ∧ ch j = true ∧ (A j = v ∨ B j = v)
  | 0 => ⟨fun h => (Bool.false_ne_true h).elim, fun ⟨j, h, _⟩ => absurd h (Nat.not_lt_zero _)⟩
  | n + 1 => by
    rw [covB, Bool.or_eq_true, covB_iff n, Bool.and_eq_true, Bool.or_eq_true, decide_eq_true_eq, decide_eq_true_eq]
    constructor
    · rintro (⟨j, h1, h2⟩ | ⟨h1, h2⟩)
      · exact ⟨j, by omega, h2⟩
      · exact ⟨n, by omega, h1, h2⟩
    · rintro ⟨j, h1, h2⟩
      by_cases e : j = n
      · subst e
        exact Or.inr h2
      · exact Or.inl ⟨j, by omega, h2⟩
theorem pwR_ok {s m b : Nat} {A B : Nat → Nat} {ch : Nat → Bool} (hs : s ≤ 9) (hA : ∀ j, j < m → A j < s ∧ B j < s ∧ A j ≠ B j) (hd : dsj A B ch m) (hb : s ≤ cnt (fun v => covB A B ch v m) s + b) : pairOK s (nrA m A B) b (pwR A B ch s m) := by
  have at' : ∀ v, v < s → (∃ j, j < m ∧ ch j = true ∧ (A j = v ∧ pX (pwR A B ch s m) v = B j ∨ B j = v ∧ pX (pwR A B ch s m) v = A j)) ∨ ((∀ j, j < m → ch j = true → A j ≠ v ∧ B j ≠ v) ∧ pX (pwR A B ch s m) v = v) := fun v hv => by
    rcases pwR_at (ch := ch) hv m (fun j hj => ⟨(hA j hj).1, (hA j hj).2.1⟩) with ⟨j, j1, j2, ⟨j3, j4⟩ | ⟨j3, j4⟩⟩ | ⟨j1, j2⟩
    · have := (hA j j1).2.1
      exact Or.inl ⟨j, j1, j2, Or.inl ⟨j3, pX_eq j4 (by omega)⟩⟩
    · have := (hA j j1).1
      exact Or.inl ⟨j, j1, j2, Or.inr ⟨j3, pX_eq j4 (by omega)⟩⟩
    · exact Or.inr ⟨j1, pX_eq j2 (by omega)⟩
  have one : ∀ j, j < m → ch j = true → pX (pwR A B ch s m) (A j) = B j ∧ pX (pwR A B ch s m) (B j) = A j := fun j hj hc => by
    obtain ⟨h1, h2, h3⟩ := hA j hj
    constructor
    · rcases at' (A j) h1 with ⟨i, i1, i2, ⟨i3, i4⟩ | ⟨i3, i4⟩⟩ | ⟨i1, _⟩
      · have e := hd i j i1 hj i2 hc (Or.inl i3)
        rw [i4, e]
      · have e := hd i j i1 hj i2 hc (Or.inr (Or.inr (Or.inl i3)))
        rw [e] at i3
        exact absurd i3.symm h3
      · exact absurd rfl (i1 j hj hc).1
    · rcases at' (B j) h2 with ⟨i, i1, i2, ⟨i3, i4⟩ | ⟨i3, i4⟩⟩ | ⟨i1, _⟩
      · have e := hd i j i1 hj i2 hc (Or.inr (Or.inl i3))
        rw [e] at i3
        exact absurd i3 h3
      · have e := hd i j i1 hj i2 hc (Or.inr (Or.inr (Or.inr i3)))
        rw [i4, e]
      · exact absurd rfl (i1 j hj hc).2
  refine ⟨⟨pwR_len m, fun i hi => ?_⟩, fun v hv => ?_, fun v hv ne => ?_, ?_⟩
  · rw [pwR_len] at hi
    rcases pwR_at (ch := ch) hi m (fun j hj => ⟨(hA j hj).1, (hA j hj).2.1⟩) with ⟨j, j1, j2, ⟨j3, j4⟩ | ⟨j3, j4⟩⟩ | ⟨j1, j2⟩
    · exact ⟨B j, (hA j j1).2.1, j4⟩
    · exact ⟨A j, (hA j j1).1, j4⟩
    · exact ⟨i, hi, j2⟩
  · rcases at' v hv with ⟨j, j1, j2, ⟨j3, j4⟩ | ⟨j3, j4⟩⟩ | ⟨j1, j2⟩
    · rw [j4, (one j j1 j2).2, j3]
    · rw [j4, (one j j1 j2).1, j3]
    · rw [j2, j2]
  · rcases at' v hv with ⟨j, j1, j2, ⟨j3, j4⟩ | ⟨j3, j4⟩⟩ | ⟨j1, j2⟩
    · rw [j4]
      exact (nearN_bit m).mpr ⟨j, j1, rfl, Or.inl ⟨j3, rfl⟩⟩
    · rw [j4]
      exact (nearN_bit m).mpr ⟨j, j1, rfl, Or.inr ⟨j3, rfl⟩⟩
    · exact absurd j2 ne
  · have e : cnt (fun i => decide (pX (pwR A B ch s m) i = i)) s = cnt (fun i => !covB A B ch i m) s := cnt_eq s (fun v hv => by
      rcases at' v hv with ⟨j, j1, j2, j3⟩ | ⟨j1, j2⟩
      · have c : covB A B ch v m = true := (covB_iff m).mpr ⟨j, j1, j2, j3.imp (fun z => z.1) (fun z => z.1)⟩
        rw [c]
        refine decide_eq_false (fun z => ?_)
        have := (hA j j1).2.2
        rcases j3 with ⟨k1, k2⟩ | ⟨k1, k2⟩ <;> omega
      · rw [decide_eq_true j2]
        cases c : covB A B ch v m with
        | false => rfl
        | true =>
          obtain ⟨j, k1, k2, k3⟩ := (covB_iff m).mp c
          rcases k3 with k3 | k3
          · exact absurd k3 (j1 j k1 k2).1
          · exact absurd k3 (j1 j k1 k2).2)
    rw [e]
    have := cnt_not (X := fun v => covB A B ch v m) s
    omega
theorem exs_d {A B : Nat → Nat} {f : Nat → Int} {v : Nat} : ∀ m, exs A B f v m = dsz m (fun j => (if A j = v then f j else 0) - (if B j = v then f j else 0))
  | 0 => rfl
  | m + 1 => by
    rw [exs, dsz, exs_d m]
    omega
def bA (s : Nat) (lf : Nat → Bool) (A B : Nat → Nat) (i : Nat) : Nat := if i < s then (if lf i = true then 0 else i + 1) else (if lf (A (i - s)) = true then A (i - s) + 1 else B (i - s) + 1)
def bB (s : Nat) (lf : Nat → Bool) (A B : Nat → Nat) (i : Nat) : Nat := if i < s then (if lf i = true then i + 1 else s + 1) else (if lf (A (i - s)) = true then B (i - s) + 1 else A (i - s) + 1)
theorem bAB_hi {s j : Nat} {lf : Nat → Bool} {A B : Nat → Nat} : bA s lf A B (s + j) = (if lf (A j) = true then A j + 1 else B j + 1) ∧ bB s lf A B (s + j) = (if lf (A j) = true then B j + 1 else A j + 1) := by
  unfold bA bB
  rw [if_neg (show ¬ s + j < s by omega), if_neg (show ¬ s + j < s by omega), Nat.add_sub_cancel_left]
  exact ⟨rfl, rfl⟩
theorem bAB_lo {s i : Nat} {lf : Nat → Bool} {A B : Nat → Nat} (h : i < s) : bA s lf A B i = (if lf i = true then 0 else i + 1) ∧ bB s lf A B i = (if lf i = true then i + 1 else s + 1) := by
  unfold bA bB
  rw [if_pos h, if_pos h]
  exact ⟨rfl, rfl⟩
theorem fl_node {s m v : Nat} {lf : Nat → Bool} {A B : Nat → Nat} {f : Nat → Int} (hv : v < s) (hl : ∀ j, j < m → lf (A j) ≠ lf (B j)) : exs (bA s lf A B) (bB s lf A B) f (v + 1) (s + m) = if lf v = true then dsz m (fun j => if A j = v ∨ B j = v then f (s + j) else 0) - f v else f v - dsz m (fun j => if A j = v ∨ B j = v then f (s + j) else 0) := by
  rw [exs_d, dsz_split, dsz_1 s hv (fun i hi ne => by
    obtain ⟨e1, e2⟩ := bAB_lo (lf := lf) (A := A) (B := B) hi
    rw [e1, e2]
    cases lf i
    · simp only [Bool.false_eq_true, if_false]
      rw [if_neg (by omega), if_neg (by omega)]
      rfl
    · simp only [if_true]
      rw [if_neg (by omega), if_neg (by omega)]
      rfl)]
  obtain ⟨e1, e2⟩ := bAB_lo (lf := lf) (A := A) (B := B) hv
  rw [e1, e2]
  cases hlv : lf v
  · simp only [Bool.false_eq_true, if_false]
    rw [if_pos trivial, if_neg (show ¬ s + 1 = v + 1 by omega), dsz_congr m (g := fun j => -(if A j = v ∨ B j = v then f (s + j) else 0)) (fun j hj => by
      obtain ⟨g1, g2⟩ := bAB_hi (s := s) (j := j) (lf := lf) (A := A) (B := B)
      have := hl j hj
      rw [g1, g2]
      grind), dsz_neg]
    omega
  · simp only [if_true]
    rw [if_neg (show ¬ 0 = v + 1 by omega), dsz_congr m (g := fun j => (if A j = v ∨ B j = v then f (s + j) else 0)) (fun j hj => by
      obtain ⟨g1, g2⟩ := bAB_hi (s := s) (j := j) (lf := lf) (A := A) (B := B)
      have := hl j hj
      rw [g1, g2]
      grind)]
    omega
theorem fl_0 {s m : Nat} {lf : Nat → Bool} {A B : Nat → Nat} {f : Nat → Int} : exs (bA s lf A B) (bB s lf A B) f 0 (s + m) = dsz s (fun v => if lf v = true then f v else 0) := by
  rw [exs_d, dsz_split, dsz_0 m (fun j hj => by
    obtain ⟨g1, g2⟩ := bAB_hi (s := s) (j := j) (lf := lf) (A := A) (B := B)
    rw [g1, g2]
    grind), Int.add_zero]
  refine dsz_congr s (fun i hi => ?_)
  obtain ⟨e1, e2⟩ := bAB_lo (lf := lf) (A := A) (B := B) hi
  rw [e1, e2]
  grind
theorem dsz_ge {f : Nat → Int} : ∀ n, (∀ i, i < n → 0 ≤ f i) → 0 ≤ dsz n f
  | 0, _ => Int.le_refl _
  | n + 1, h => by
    rw [dsz]
    have := dsz_ge n (fun i hi => h i (by omega))
    have := h n (by omega)
    omega
theorem dsz_g1 {f : Nat → Int} {a : Nat} : ∀ n, a < n → (∀ i, i < n → 0 ≤ f i) → f a ≤ dsz n f
  | 0, h, _ => absurd h (Nat.not_lt_zero _)
  | n + 1, ha, h => by
    rw [dsz]
    have := h n (by omega)
    by_cases e : a = n
    · have := dsz_ge n (fun i hi => h i (by omega))
      rw [e]
      omega
    · have := dsz_g1 n (a := a) (by omega) (fun i hi => h i (by omega))
      omega
theorem dsz_g2 {f : Nat → Int} {a c : Nat} (hac : a < c) : ∀ n, c < n → (∀ i, i < n → 0 ≤ f i) → f a + f c ≤ dsz n f
  | 0, h, _ => absurd h (Nat.not_lt_zero _)
  | n + 1, ha, h => by
    rw [dsz]
    have := h n (by omega)
    by_cases e : c = n
    · have := dsz_g1 n (a := a) (by omega) (fun i hi => h i (by omega))
      rw [e]
      omega
    · have := dsz_g2 hac n (by omega) (fun i hi => h i (by omega))
      omega
theorem cnt_dsz {X : Nat → Bool} : ∀ n, (cnt X n : Int) = dsz n (fun i => if X i = true then 1 else 0)
  | 0 => rfl
  | n + 1 => by
    rw [cnt, dsz, ← cnt_dsz n]
    by_cases h : X n = true
    · rw [if_pos h, if_pos h]
      omega
    · rw [if_neg h, if_neg h]
      omega
/-- what comes to the nodes of one side -/
theorem side_sum {s m : Nat} {A B : Nat → Nat} {P : Nat → Bool} {y : Nat → Int} (hA : ∀ j, j < m → A j < s ∧ B j < s ∧ P (A j) ≠ P (B j)) : dsz s (fun v => if P v = true then dsz m (fun j => if A j = v ∨ B j = v then y j else 0) else 0) = dsz m y := by
  rw [dsz_congr s (g := fun v => dsz m (fun j => if P v = true then (if A j = v ∨ B j = v then y j else 0) else 0)) (fun v _ => by
    cases P v
    · rw [if_neg (by decide)]
      exact (dsz_0 m (fun j _ => if_neg (by decide))).symm
    · rw [if_pos rfl]
      exact dsz_congr m (fun j _ => (if_pos rfl).symm)), dsz_swap]
  refine dsz_congr m (fun j hj => ?_)
  obtain ⟨h1, h2, h3⟩ := hA j hj
  cases hp : P (A j)
  · rw [hp] at h3
    have hb : P (B j) = true := by cases e : P (B j) with | true => rfl | false => exact absurd e.symm h3
    rw [dsz_1 s h2 (fun v _ ne => by
      by_cases e : P v = true
      · rw [if_pos e, if_neg (fun c => c.elim (fun z => by rw [z, e] at hp; cases hp) (fun z => ne z.symm))]
      · rw [if_neg e]), if_pos hb, if_pos (Or.inr rfl)]
  · rw [hp] at h3
    have hb : P (B j) = false := by cases e : P (B j) with | false => rfl | true => exact absurd e.symm h3
    rw [dsz_1 s h1 (fun v _ ne => by
      by_cases e : P v = true
      · rw [if_pos e, if_neg (fun c => c.elim (fun z => ne z.symm) (fun z => by rw [z, e] at hb; cases hb))]
      · rw [if_neg e]), if_pos hp, if_pos (Or.inl rfl)]
theorem pairs_flow {s m bf b : Nat} {A B : Nat → Nat} {lf : Nat → Bool} {xs : List Int32} (hs : s ≤ 9) (hA : ∀ j, j < m → A j < s ∧ B j < s ∧ A j ≠ B j ∧ lf (A j) ≠ lf (B j)) (h : flowOK (s + m) s (bA s lf A B) (bB s lf A B) (fun _ => 1) bf xs) (hb : s ≤ 2 * bf + b) : pairOK s (nrA m A B) b (pwR A B (fun j => decide (xs.getD (s + j) 0 = 1)) s m) := by
  obtain ⟨_, h2, h3, h4⟩ := h
  obtain ⟨x, hx⟩ : ∃ x : Nat → Int, ∀ i, x i = (xs.getD i 0).toInt := ⟨_, fun _ => rfl⟩
  have e0 : (fun i => (xs.getD i 0).toInt) = x := funext (fun i => (hx i).symm)
  rw [e0] at h3 h4
  have h2 : ∀ i, i < s + m → 0 ≤ x i ∧ x i ≤ 1 := fun i hi => by rw [hx]; exact h2 i hi
  have hl : ∀ j, j < m → lf (A j) ≠ lf (B j) := fun j hj => (hA j hj).2.2.2
  have nd : ∀ v, v < s → x v = dsz m (fun j => if A j = v ∨ B j = v then x (s + j) else 0) := fun v hv => by
    have a := h3 (v + 1) (by omega) (by omega)
    rw [fl_node hv hl] at a
    cases e : lf v
    · rw [e, if_neg (by decide)] at a
      omega
    · rw [e, if_pos rfl] at a
      omega
  have pos : ∀ v j, j < m → 0 ≤ (if A j = v ∨ B j = v then x (s + j) else 0) := fun v j hj => by
    split
    · exact (h2 (s + j) (by omega)).1
    · exact Int.le_refl _
  have ch1 : ∀ j, decide (xs.getD (s + j) 0 = 1) = true ↔ x (s + j) = 1 := fun j => by
    rw [decide_eq_true_eq, hx]
    exact ⟨fun e => by rw [e]; rfl, fun e => Int32.toInt_inj.mp e⟩
  refine pwR_ok hs (fun j hj => ⟨(hA j hj).1, (hA j hj).2.1, (hA j hj).2.2.1⟩) (fun i j hi hj ci cj hn => ?_) ?_
  · have two : ∀ i j v, i < j → j < m → x (s + i) = 1 → x (s + j) = 1 → v < s → (A i = v ∨ B i = v) → (A j = v ∨ B j = v) → False := fun i j v hij hj xi xj hv vi vj => by
      have a := dsz_g2 hij m hj (fun k hk => pos v k hk)
      rw [← nd v hv, if_pos vi, if_pos vj, xi, xj] at a
      have := h2 v (by omega)
      omega
    rw [ch1] at ci cj
    have ne : ∀ v, v < s → (A i = v ∨ B i = v) → (A j = v ∨ B j = v) → i = j := fun v hv vi vj => by
      rcases Nat.lt_trichotomy i j with z | z | z
      · exact (two i j v z hj ci cj hv vi vj).elim
      · exact z
      · exact (two j i v z hi cj ci hv vj vi).elim
    obtain ⟨a1, a2, _⟩ := hA i hi
    rcases hn with z | z | z | z
    · exact ne _ a1 (Or.inl rfl) (Or.inl z.symm)
    · exact ne _ a1 (Or.inl rfl) (Or.inr z.symm)
    · exact ne _ a2 (Or.inr rfl) (Or.inl z.symm)
    · exact ne _ a2 (Or.inr rfl) (Or.inr z.symm)
  · have cv : ∀ v, v < s → (if covB A B (fun j => decide (xs.getD (s + j) 0 = 1)) v m = true then (1 : Int) else 0) = x v := fun v hv => by
      by_cases c : covB A B (fun j => decide (xs.getD (s + j) 0 = 1)) v m = true
      · rw [if_pos c]
        obtain ⟨j, j1, j2, j3⟩ := (covB_iff m).mp c
        have a := dsz_g1 m j1 (fun k hk => pos v k hk)
        rw [← nd v hv, if_pos j3, (ch1 j).mp j2] at a
        have := h2 v (by omega)
        omega
      · rw [if_neg c, nd v hv]
        refine (dsz_0 m (fun j hj => ?_)).symm
        by_cases z : A j = v ∨ B j = v
        · rw [if_pos z]
          have n1 : ¬ x (s + j) = 1 := fun y => c ((covB_iff m).mpr ⟨j, hj, (ch1 j).mpr y, z⟩)
          have := h2 (s + j) (by omega)
          omega
        · rw [if_neg z]
    have tot : ((cnt (fun v => covB A B (fun j => decide (xs.getD (s + j) 0 = 1)) v m) s : Nat) : Int) = 2 * bf := by
      have yl : dsz s (fun v => if lf v = true then x v else 0) = dsz m (fun j => x (s + j)) := by
        rw [← side_sum (s := s) (A := A) (B := B) (P := lf) (fun j hj => ⟨(hA j hj).1, (hA j hj).2.1, hl j hj⟩)]
        refine dsz_congr s (fun v hv => ?_)
        rw [nd v hv]
      have yr : dsz s (fun v => if (!lf v) = true then x v else 0) = dsz m (fun j => x (s + j)) := by
        rw [← side_sum (s := s) (A := A) (B := B) (P := fun v => !lf v) (fun j hj => ⟨(hA j hj).1, (hA j hj).2.1, fun z => hl j hj (by
          have z : (!lf (A j)) = (!lf (B j)) := z
          cases a : lf (A j) <;> cases b : lf (B j) <;> rw [a, b] at z <;> first | rfl | cases z)⟩)]
        refine dsz_congr s (fun v hv => ?_)
        rw [nd v hv]
      rw [fl_0] at h4
      rw [cnt_dsz, dsz_congr s (g := fun v => (if lf v = true then x v else 0) + (if (!lf v) = true then x v else 0)) (fun v hv => by
        rw [cv v hv]
        cases lf v
        · rw [if_neg (by decide), if_pos (by decide), Int.zero_add]
        · rw [if_pos rfl, if_neg (by decide), Int.add_zero]), dsz_add, yl, yr, ← yl, h4]
      omega
    omega
end
/-! REDUCTIONS: nodes out of a bar. -/
section
theorem filL_len {X : Nat → Bool} : ∀ n, (filL X n).length = cnt X n
  | 0 => rfl
  | n + 1 => by
    rw [filL, cnt]
    by_cases h : X n = true
    · rw [if_pos h, if_pos h, List.length_append, filL_len n]
      rfl
    · rw [if_neg h, if_neg h, filL_len n]
      rfl
theorem lftN_filL {s i : Nat} {K : Nat → Bool} (hs : s < 2 ^ 20) : (lftN s (filL K s) (filL K s).length).testBit i = true ↔ i < s ∧ K i = false := by
  obtain ⟨f1, f2, _⟩ := filL_in (X := K) s
  rw [lftN_bit]
  refine ⟨fun ⟨h1, h2⟩ => ⟨h1, ?_⟩, fun ⟨h1, h2⟩ => ⟨h1, fun l hl e => ?_⟩⟩
  · cases c : K i with
    | false => rfl
    | true =>
      obtain ⟨l, l1, l2⟩ := f2 i h1 c
      exact absurd (pX_eq l2 (by omega)) (h2 l l1)
  · obtain ⟨v, v1, v2, v3⟩ := f1 l hl
    rw [pX_eq v3 (by omega)] at e
    rw [e, h2] at v2
    cases v2
theorem pop_one : ∀ j, j < 9 → pop (2 ^ j) % 2 = 1 := by decide +kernel
theorem ocs_iso {nr : Nat → Nat} {L0 s : Nat} {I : Nat → Bool} (hs : s ≤ 9) (hI : ∀ i, i < s → I i = true → L0.testBit i = true ∧ ∀ u, L0.testBit u = true → (nr i).testBit u = false ∧ (nr u).testBit i = false) : ∀ j, j ≤ s → cnt I j ≤ (ocs nr L0 j).2 ∧ (∀ i, j ≤ i → i < s → I i = true → (ocs nr L0 j).1.testBit i = true) ∧ ∀ i, (ocs nr L0 j).1.testBit i = true → L0.testBit i = true
  | 0, _ => ⟨Nat.zero_le _, fun i _ hi h => (hI i hi h).1, fun i h => h⟩
  | j + 1, hj => by
    obtain ⟨i1, i2, i3⟩ := ocs_iso hs hI j (by omega)
    rw [ocs, cnt]
    by_cases hb : (ocs nr L0 j).1.testBit j = true
    · rw [if_pos hb]
      refine ⟨?_, fun i hi his hI' => ?_, fun i h => ?_⟩
      · show cnt I j + (if I j = true then 1 else 0) ≤ (ocs nr L0 j).2 + pop (hang nr 9 (ocs nr L0 j).1 j) % 2
        by_cases c : I j = true
        · have e : hang nr 9 (ocs nr L0 j).1 j = 2 ^ j := nb_ext (fun u => by
            rw [nb_pow]
            cases x : (hang nr 9 (ocs nr L0 j).1 j).testBit u with
            | true =>
              have := hang_ind (P := fun u => j = u) rfl (fun u w hu _ hw ht => by
                rw [← hu] at hw
                have := ((hI j (by omega) c).2 w (i3 w ht)).1
                rw [this] at hw
                cases hw) u x
              exact (decide_eq_true this).symm
            | false =>
              refine (decide_eq_false (fun z => ?_)).symm
              rw [← z, hang_self] at x
              cases x)
          rw [if_pos c, e, pop_one j (by omega)]
          omega
        · rw [if_neg c]
          omega
      · show (nsd (ocs nr L0 j).1 (hang nr 9 (ocs nr L0 j).1 j)).testBit i = true
        rw [nsd_bit, i2 i (by omega) his hI']
        have := fun x => hang_ind (nr := nr) (N := 9) (T := (ocs nr L0 j).1) (node := j) (P := fun u => u ≠ i ∧ L0.testBit u = true) ⟨by omega, i3 j hb⟩ (fun u w hu _ hw ht => ⟨fun z => (by
          rw [z] at hw
          rw [((hI i his hI').2 u hu.2).2] at hw
          cases hw), i3 w ht⟩) i x
        cases x : (hang nr 9 (ocs nr L0 j).1 j).testBit i with
        | false => rfl
        | true => exact absurd rfl (this x).1
      · exact i3 i (nsd_sub h)
    · rw [if_neg hb]
      have c : ¬ I j = true := fun c => hb (i2 j (Nat.le_refl _) (by omega) c)
      rw [if_neg c]
      exact ⟨i1, fun i hi => i2 i (by omega), i3⟩
theorem cnt_eq1 {a : Nat} : ∀ s, cnt (fun v => decide (a = v)) s ≤ 1
  | 0 => Nat.zero_le _
  | s + 1 => by
    rw [cnt]
    by_cases h : a = s
    · have : cnt (fun v => decide (a = v)) s = 0 := cnt_0 s (fun i hi => decide_eq_false (by omega))
      rw [this]
      split <;> omega
    · have := cnt_eq1 (a := a) s
      rw [if_neg (by rw [decide_eq_true_eq]; exact h)]
      omega
theorem cnt_ends {A B : Nat → Nat} {ch : Nat → Bool} {s : Nat} : ∀ m, cnt (fun v => covB A B ch v m) s ≤ 2 * cnt ch m
  | 0 => by
    have : cnt (fun v => covB A B ch v 0) s = 0 := cnt_0 s (fun i _ => rfl)
    omega
  | m + 1 => by
    have ih := cnt_ends (A := A) (B := B) (ch := ch) (s := s) m
    have o := cnt_or (X := fun v => covB A B ch v m) (Y := fun v => ch m && (decide (A m = v) || decide (B m = v))) s
    rw [cnt]
    show cnt (fun v => covB A B ch v m || (ch m && (decide (A m = v) || decide (B m = v)))) s ≤ _
    by_cases c : ch m = true
    · have o2 := cnt_or (X := fun v => decide (A m = v)) (Y := fun v => decide (B m = v)) s
      have a1 := cnt_eq1 (a := A m) s
      have a2 := cnt_eq1 (a := B m) s
      have e : cnt (fun v => ch m && (decide (A m = v) || decide (B m = v))) s = cnt (fun v => decide (A m = v) || decide (B m = v)) s := cnt_eq s (fun v _ => by rw [c, Bool.true_and])
      rw [if_pos c]
      omega
    · have c : ch m = false := by cases e : ch m with | false => rfl | true => exact absurd e c
      have e : cnt (fun v => ch m && (decide (A m = v) || decide (B m = v))) s = 0 := cnt_0 s (fun v _ => by rw [c, Bool.false_and])
      rw [if_neg (by rw [c]; decide)]
      omega
theorem nsum_app {w : Nat → Nat} {a : Nat} : ∀ b, nsum w (a + b) = nsum w a + nsum (fun i => w (a + i)) b
  | 0 => rfl
  | b + 1 => by
    show nsum w (a + b) + w (a + b) = _
    rw [nsum_app b, nsum]
    omega
theorem nsum_cnt {X : Nat → Bool} : ∀ n, nsum (fun i => if X i = true then 1 else 0) n = cnt X n
  | 0 => rfl
  | n + 1 => by rw [nsum, cnt, nsum_cnt n]
theorem nodes_bar {s m bf b : Nat} {A B : Nat → Nat} {lf : Nat → Bool} {zs : List Int32} (hs : s ≤ 9) (hA : ∀ j, j < m → A j < s ∧ B j < s ∧ A j ≠ B j ∧ lf (A j) ≠ lf (B j)) (h : barOK (s + m) s (bA s lf A B) (bB s lf A B) (fun _ => 1) bf zs) (hb : 2 * bf ≤ s - b + 1) : nodesOK s (nrA m A B) b (filL (fun v => lf v != rowSt zs (v + 1)) s) := by
  obtain ⟨h1, h2, h3, h4, h5⟩ := h
  obtain ⟨X, hX⟩ : ∃ X : Nat → Bool, rowSt zs = X := ⟨_, rfl⟩
  have x0 : X 0 = true := by rw [← hX]; exact rowSt_iff.mpr ⟨0, by omega, h2⟩
  have xs : X (s + 1) = false := by
    rw [← hX]
    cases z : rowSt zs (s + 1) with
    | false => rfl
    | true =>
      obtain ⟨i, i1, i2⟩ := rowSt_iff.mp z
      obtain ⟨j, j1, j2⟩ := h4 i i1
      rw [i2] at j2
      have := (nI_eq (by omega) (by omega)).mp j2
      omega
  rw [hX] at h5 ⊢
  obtain ⟨K, hK⟩ : ∃ K : Nat → Bool, ∀ v, K v = (lf v != X (v + 1)) := ⟨_, fun _ => rfl⟩
  obtain ⟨U, hU⟩ : ∃ U : Nat → Bool, ∀ j, U j = (X (bA s lf A B (s + j)) && !X (bB s lf A B (s + j))) := ⟨_, fun _ => rfl⟩
  have eK : (fun v => lf v != X (v + 1)) = K := funext (fun v => (hK v).symm)
  rw [eK]
  have tot : nsum (barW X (bA s lf A B) (bB s lf A B) (fun _ => 1)) (s + m) = cnt K s + cnt U m := by
    rw [nsum_app, ← nsum_cnt s, ← nsum_cnt m]
    congr 1
    · refine nsum_cg s (fun i hi => ?_)
      obtain ⟨e1, e2⟩ := bAB_lo (lf := lf) (A := A) (B := B) hi
      unfold barW
      rw [e1, e2, hK]
      cases lf i <;> cases e : X (i + 1) <;> simp [x0, xs, e]
    · refine nsum_cg m (fun j hj => ?_)
      unfold barW
      rw [hU]
      cases X (bA s lf A B (s + j)) <;> cases X (bB s lf A B (s + j)) <;> rfl
  rw [tot] at h5
  have fl := filL_len (X := K) s
  obtain ⟨I, hI⟩ : ∃ I : Nat → Bool, ∀ v, I v = !(K v || covB A B U v m) := ⟨_, fun _ => rfl⟩
  have iso := ocs_iso (nr := nrA m A B) (L0 := lftN s (filL K s) (filL K s).length) (I := I) hs (fun v hv hv2 => by
    rw [hI] at hv2
    have kv : K v = false := by cases e : K v with | false => rfl | true => rw [e] at hv2; exact (Bool.false_ne_true hv2).elim
    have cv : covB A B U v m = false := by cases e : covB A B U v m with | false => rfl | true => rw [kv, e] at hv2; exact absurd hv2 (by decide)
    have no : ∀ j, j < m → U j = true → A j ≠ v ∧ B j ≠ v := fun j hj hu => by
      constructor
      · intro z
        rw [(covB_iff m).mpr ⟨j, hj, hu, Or.inl z⟩] at cv
        cases cv
      · intro z
        rw [(covB_iff m).mpr ⟨j, hj, hu, Or.inr z⟩] at cv
        cases cv
    refine ⟨(lftN_filL (by omega)).mpr ⟨hv, kv⟩, fun u hu => ?_⟩
    obtain ⟨u1, u2⟩ := (lftN_filL (by omega)).mp hu
    rw [hK] at kv u2
    have ed : ∀ j, j < m → (A j = v ∧ B j = u ∨ A j = u ∧ B j = v) → False := fun j hj hor => by
      have nl := (hA j hj).2.2.2
      obtain ⟨g1, g2⟩ := bAB_hi (s := s) (j := j) (lf := lf) (A := A) (B := B)
      have uj : U j = true := by
        rw [hU, g1, g2]
        rcases hor with ⟨z1, z2⟩ | ⟨z1, z2⟩ <;> rw [z1, z2] at nl ⊢ <;> revert kv u2 nl <;> cases lf v <;> cases lf u <;> (try simp only [Bool.false_eq_true, if_false, if_true]) <;> cases X (v + 1) <;> cases X (u + 1) <;> simp
      have := no j hj uj
      rcases hor with ⟨z1, z2⟩ | ⟨z1, z2⟩
      · exact this.1 z1
      · exact this.2 z2
    have bf : ∀ a c, (a = v ∧ c = u ∨ a = u ∧ c = v) → (nrA m A B a).testBit c = false := fun a c hac => by
      cases e : (nrA m A B a).testBit c with
      | false => rfl
      | true =>
        obtain ⟨j, j1, _, j3⟩ := (nearN_bit m).mp e
        refine (ed j j1 ?_).elim
        rcases hac with ⟨rfl, rfl⟩ | ⟨rfl, rfl⟩ <;> rcases j3 with ⟨k1, k2⟩ | ⟨k1, k2⟩
        · exact Or.inl ⟨k1, k2⟩
        · exact Or.inr ⟨k2, k1⟩
        · exact Or.inr ⟨k1, k2⟩
        · exact Or.inl ⟨k2, k1⟩
    exact ⟨bf v u (Or.inl ⟨rfl, rfl⟩), bf u v (Or.inr ⟨rfl, rfl⟩)⟩) s (Nat.le_refl _)
  refine ⟨filL_in2 (fun v hv _ => hv), fun i _ hi => filL_rise s (by omega) i hi, ?_⟩
  have c1 : cnt I s + cnt (fun v => K v || covB A B U v m) s = s := by
    rw [show cnt I s = cnt (fun v => !(K v || covB A B U v m)) s from cnt_eq s (fun v _ => hI v)]
    exact cnt_not s
  have c2 := cnt_or (X := K) (Y := fun v => covB A B U v m) s
  have c3 := cnt_ends (A := A) (B := B) (ch := U) (s := s) m
  have c4 := iso.1
  omega
end
