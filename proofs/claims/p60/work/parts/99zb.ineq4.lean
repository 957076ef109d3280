/-! THE PURE PART, inequalities: the tables, their labels, the row of the sum; what an exchange keeps. -/
section
abbrev lpS : Type := (Nat → Nat → Int) × (Nat → Nat) × (Nat → Nat) × Nat × Int
abbrev sT (S : lpS) : Nat → Nat → Int := S.1
abbrev sR (S : lpS) : Nat → Nat := S.2.1
abbrev sC (S : lpS) : Nat → Nat := S.2.2.1
abbrev sK (S : lpS) : Nat := S.2.2.2.1
abbrev sL (S : lpS) : Int := S.2.2.2.2
/-- the column that comes in -/
def entC (S : lpS) (goal : Nat) : Nat → Option Nat
  | 0 => none
  | c + 1 => if 0 < sT S goal c ∧ (sK S).testBit (sC S c) = false ∧ (∀ b, entC S goal c = some b → sC S c < sC S b) then some c else entC S goal c
/-- the row that goes out -/
def lvR (S : lpS) (C col : Nat) : Nat → Option Nat
  | 0 => none
  | r + 1 => if 0 < sT S r col ∧ (∀ o, lvR S C col r = some o → sT S r C * sT S o col < sT S o C * sT S r col ∨ (sT S r C * sT S o col = sT S o C * sT S r col ∧ sR S r < sR S o)) then some r else lvR S C col r
def exS (S : lpS) (C row col : Nat) : lpS := (exT (sT S) (sL S) row col, exL (sR S) row (sC S col), exL (sC S) col (sR S row), if C ≤ sR S row then sK S ||| 2 ^ sR S row else sK S, sT S row col)
def impS (S : lpS) (R C goal : Nat) : Option lpS := match entC S goal C with
  | none => none
  | some col => match lvR S C col R with
    | none => none
    | some row => some (exS S C row col)
theorem ent_sp {S : lpS} {goal : Nat} : ∀ n, (∀ b, entC S goal n = some b → b < n ∧ 0 < sT S goal b ∧ (sK S).testBit (sC S b) = false ∧ ∀ c, c < n → 0 < sT S goal c → (sK S).testBit (sC S c) = false → sC S b ≤ sC S c) ∧ (entC S goal n = none → ∀ c, c < n → 0 < sT S goal c → (sK S).testBit (sC S c) = true)
  | 0 => ⟨fun b h => (by cases h), fun _ c hc => absurd hc (Nat.not_lt_zero _)⟩
  | n + 1 => by
    obtain ⟨i1, i2⟩ := ent_sp (S := S) (goal := goal) n
    rw [entC]
    by_cases h : 0 < sT S goal n ∧ (sK S).testBit (sC S n) = false ∧ (∀ b, entC S goal n = some b → sC S n < sC S b)
    · rw [if_pos h]
      refine ⟨fun b hb => ?_, fun hn => by cases hn⟩
      cases hb
      refine ⟨Nat.lt_succ_self _, h.1, h.2.1, fun c hc c1 c2 => ?_⟩
      by_cases e : c = n
      · rw [e]
        exact Nat.le_refl _
      · cases q : entC S goal n with
        | none =>
          have := i2 q c (by omega) c1
          rw [c2] at this
          cases this
        | some b =>
          have x := (i1 b q).2.2.2 c (by omega) c1 c2
          have y := h.2.2 b q
          omega
    · rw [if_neg h]
      refine ⟨fun b hb => ?_, fun hn c hc c1 => ?_⟩
      · obtain ⟨j1, j2, j3, j4⟩ := i1 b hb
        refine ⟨by omega, j2, j3, fun c hc c1 c2 => ?_⟩
        by_cases e : c = n
        · subst e
          refine Nat.le_of_not_lt fun w => h ⟨c1, c2, fun b' hb' => ?_⟩
          rw [hb] at hb'
          cases hb'
          exact w
        · exact j4 c (by omega) c1 c2
      · by_cases e : c = n
        · subst e
          cases q : (sK S).testBit (sC S c) with
          | true => rfl
          | false => exact absurd ⟨c1, q, fun b hb => by rw [hn] at hb; cases hb⟩ h
        · exact i2 hn c (by omega) c1
theorem rat_tr {a b c x y z : Int} (hx : 0 < x) (hy : 0 < y) (hz : 0 < z) (h1 : a * y ≤ b * x) (h2 : b * z ≤ c * y) : a * z ≤ c * x := by
  have k1 := Int.mul_le_mul_of_nonneg_right h1 (show 0 ≤ z by omega)
  have k2 := Int.mul_le_mul_of_nonneg_right h2 (show 0 ≤ x by omega)
  have e1 : a * y * z = y * (a * z) := by
    clear h1 h2 k1 k2
    grind
  have e2 : b * x * z = b * z * x := by
    clear h1 h2 k1 k2 e1
    grind
  have e3 : c * y * x = y * (c * x) := by
    clear h1 h2 k1 k2 e1 e2
    grind
  rw [e1, e2] at k1
  rw [e3] at k2
  exact Int.le_of_mul_le_mul_left (Int.le_trans k1 k2) hy
theorem lv_sp {S : lpS} {C col : Nat} : ∀ n, (∀ o, lvR S C col n = some o → o < n ∧ 0 < sT S o col ∧ ∀ r, r < n → 0 < sT S r col → sT S o C * sT S r col ≤ sT S r C * sT S o col ∧ (sT S o C * sT S r col = sT S r C * sT S o col → sR S o ≤ sR S r)) ∧ (lvR S C col n = none → ∀ r, r < n → sT S r col ≤ 0)
  | 0 => ⟨fun b h => (by cases h), fun _ c hc => absurd hc (Nat.not_lt_zero _)⟩
  | n + 1 => by
    obtain ⟨i1, i2⟩ := lv_sp (S := S) (C := C) (col := col) n
    rw [lvR]
    by_cases h : 0 < sT S n col ∧ (∀ o, lvR S C col n = some o → sT S n C * sT S o col < sT S o C * sT S n col ∨ (sT S n C * sT S o col = sT S o C * sT S n col ∧ sR S n < sR S o))
    · rw [if_pos h]
      refine ⟨fun o ho => ?_, fun hn => by cases hn⟩
      cases ho
      refine ⟨Nat.lt_succ_self _, h.1, fun r hr r1 => ?_⟩
      by_cases e : r = n
      · subst e
        exact ⟨Int.le_refl _, fun _ => Nat.le_refl _⟩
      · cases q : lvR S C col n with
        | none =>
          have := i2 q r (by omega)
          omega
        | some o =>
          obtain ⟨j1, j2, j3⟩ := i1 o q
          obtain ⟨k1, k2⟩ := j3 r (by omega) r1
          have hn := h.2 o q
          have le1 : sT S n C * sT S o col ≤ sT S o C * sT S n col := by omega
          have tr := rat_tr h.1 j2 r1 le1 k1
          refine ⟨tr, fun eq => ?_⟩
          -- equal to the new one: equal to the old one
          have back := rat_tr r1 h.1 j2 (Int.le_of_eq eq.symm) le1
          have := k2 (Int.le_antisymm k1 back)
          rcases hn with w | w
          · exfalso
            have b2 := rat_tr j2 r1 h.1 k1 (Int.le_of_eq eq.symm)
            omega
          · omega
    · rw [if_neg h]
      refine ⟨fun o ho => ?_, fun hn r hr => ?_⟩
      · obtain ⟨j1, j2, j3⟩ := i1 o ho
        refine ⟨by omega, j2, fun r hr r1 => ?_⟩
        by_cases e : r = n
        · subst e
          have w : ¬ (sT S r C * sT S o col < sT S o C * sT S r col ∨ (sT S r C * sT S o col = sT S o C * sT S r col ∧ sR S r < sR S o)) := fun w => h ⟨r1, fun o' ho' => by
            rw [ho] at ho'
            cases ho'
            exact w⟩
          refine ⟨Int.not_lt.mp fun z => w (Or.inl z), fun eq => Nat.le_of_not_lt fun z => w (Or.inr ⟨eq.symm, z⟩)⟩
        · exact j3 r (by omega) r1
      · by_cases e : r = n
        · subst e
          refine Int.not_lt.mp fun z => h ⟨z, fun o ho => by rw [hn] at ho; cases ho⟩
        · exact i2 hn r (by omega)
def gSm (S : lpS) (R C c : Nat) : Int := dsz R (fun r => if C ≤ sR S r then sT S r c else 0)
/-- what holds of each table -/
def lpI (a : Nat → Nat → Int) (R C : Nat) (S : lpS) : Prop :=
  tbD a R C (sT S) (sR S) (sC S) (sL S) ∧ 0 < sL S ∧ (∀ r, r < R → 0 ≤ sT S r C) ∧ ((∀ r, r < R → sR S r < C + R) ∧ (∀ c, c < C → sC S c < C + R) ∧ (∀ r r', r < R → r' < R → sR S r = sR S r' → r = r') ∧ (∀ c c', c < C → c' < C → sC S c = sC S c' → c = c') ∧ (∀ r c, r < R → c < C → sR S r ≠ sC S c) ∧ sC S C = C + R ∧ ∀ l, l < C + R → (∃ r, r < R ∧ sR S r = l) ∨ ∃ c, c < C ∧ sC S c = l) ∧ ((∀ c, c < C → sT S R c = gSm S R C c - (if C ≤ sC S c then sL S else 0)) ∧ sT S R C = gSm S R C C) ∧ ∀ c, c < C → C ≤ sC S c → (sK S).testBit (sC S c) = true
theorem exL_k {f : Nat → Nat} {k v : Nat} : exL f k v k = v := if_pos rfl
theorem exL_n {f : Nat → Nat} {k v j : Nat} (h : j ≠ k) : exL f k v j = f j := if_neg h
theorem exS_ok {a : Nat → Nat → Int} {R C : Nat} {S : lpS} {row col : Nat} (h : lpI a R C S) (hr : row < R) (hc : col < C) (hp : 0 < sT S row col) (hs : sC S col < C) (hm : ∀ r, r < R → 0 < sT S r col → sT S row C * sT S r col ≤ sT S r C * sT S row col) : lpI a R C (exS S C row col) ∧ (∀ r c, r ≤ R → c ≤ C → r ≠ row → c ≠ col → sL S * sT (exS S C row col) r c = sT S row col * sT S r c - sT S r col * sT S row c) := by
  obtain ⟨h1, h2, h3, ⟨l1, l2, l3, l4, l5, l6, l7⟩, ⟨g1, g2⟩, h6⟩ := h
  obtain ⟨x1, x2⟩ := exch_ok h1 (show sL S ≠ 0 by omega) hr hc (show sT S row col ≠ 0 by omega)
  obtain ⟨X, hX⟩ : ∃ X, X = exS S C row col := ⟨_, rfl⟩
  have eT : sT X = exT (sT S) (sL S) row col := by rw [hX]; rfl
  have eR : sR X = exL (sR S) row (sC S col) := by rw [hX]; rfl
  have eC : sC X = exL (sC S) col (sR S row) := by rw [hX]; rfl
  have eL : sL X = sT S row col := by rw [hX]; rfl
  have eK : sK X = if C ≤ sR S row then sK S ||| 2 ^ sR S row else sK S := by rw [hX]; rfl
  -- the sums
  have T_row : ∀ c, c ≠ col → sT X row c = sT S row c := fun c hc' => by
    rw [eT]
    unfold exT
    rw [if_pos rfl, if_neg hc']
  have T_col : ∀ r, r ≠ row → sT X r col = -sT S r col := fun r hr' => by
    rw [eT]
    unfold exT
    rw [if_neg hr', if_pos rfl]
  have T_in : ∀ r c, r < R → c ≤ C → r ≠ row → c ≠ col → sL S * sT X r c = sT S row col * sT S r c - sT S r col * sT S row c := fun r c a1 a2 a3 a4 => by
    rw [eT]
    exact x2 r c a1 a2 a3 a4
  have sm : ∀ c, c ≤ C → c ≠ col → sL S * gSm X R C c = sT S row col * gSm S R C c - gSm S R C col * sT S row c := fun c hc1 hc2 => by
    unfold gSm
    rw [← dsz_mul, ← dsz_mul, ← dsz_sub]
    refine dsz_congr R (fun r hr' => ?_)
    show sL S * (if C ≤ sR X r then sT X r c else 0) = sT S row col * (if C ≤ sR S r then sT S r c else 0) - (if C ≤ sR S r then sT S r col else 0) * sT S row c
    rw [eR]
    by_cases e : r = row
    · subst e
      rw [exL_k, if_neg (by omega)]
      by_cases f : C ≤ sR S r
      · rw [if_pos f, if_pos f]
        omega
      · rw [if_neg f, if_neg f]
        omega
    · rw [exL_n e]
      by_cases f : C ≤ sR S r
      · rw [if_pos f, if_pos f, if_pos f]
        exact T_in r c hr' hc1 e hc2
      · rw [if_neg f, if_neg f, if_neg f]
        omega
  have smc : gSm X R C col = -gSm S R C col + (if C ≤ sR S row then sT S row col else 0) := by
    unfold gSm
    have t := dsz_upd (f := fun r => if C ≤ sR S r then sT S r col else 0) (o := row) (x := 0) R hr
    have u : dsz R (fun r => if C ≤ sR X r then sT X r col else 0) = -dsz R (fun r => if r = row then (0 : Int) else if C ≤ sR S r then sT S r col else 0) := by
      rw [← dsz_neg]
      refine dsz_congr R (fun r hr' => ?_)
      show (if C ≤ sR X r then sT X r col else 0) = -(if r = row then (0 : Int) else if C ≤ sR S r then sT S r col else 0)
      rw [eR]
      by_cases e : r = row
      · subst e
        rw [exL_k, if_neg (by omega), if_pos rfl]
        rfl
      · rw [exL_n e, if_neg e]
        by_cases f : C ≤ sR S r
        · rw [if_pos f, if_pos f]
          exact T_col r e
        · rw [if_neg f, if_neg f]
          rfl
    have t : dsz R (fun r => if r = row then (0 : Int) else if C ≤ sR S r then sT S r col else 0) = dsz R (fun r => if C ≤ sR S r then sT S r col else 0) - (if C ≤ sR S row then sT S row col else 0) + 0 := t
    omega
  have gcol : sT S R col = gSm S R C col := by
    have := g1 col hc
    rw [if_neg (by omega)] at this
    omega
  have Rn : R ≠ row := by omega
  have goalrow : ∀ c, c ≤ C → c ≠ col → ∀ w : Int, sT S R c = gSm S R C c - w * sL S → sT X R c = gSm X R C c - w * sT S row col ∧ sL S * sT X R c = sT S row col * sT S R c - sT S R col * sT S row c := fun c hc1 hc2 w hw => by
    have q : sT S row col * sT S R c - sT S R col * sT S row c = sL S * (gSm X R C c - w * sT S row col) := by
      rw [Int.mul_sub, sm c hc1 hc2, hw, gcol]
      generalize sT S row col = x
      generalize gSm S R C c = y
      generalize gSm S R C col = z
      generalize sT S row c = v
      generalize sL S = u
      grind
    have e : sT X R c = (sT S row col * sT S R c - sT S R col * sT S row c).tdiv (sL S) := by
      rw [eT]
      unfold exT
      rw [if_neg Rn, if_neg hc2]
    rw [q, Int.mul_tdiv_cancel_left _ (show sL S ≠ 0 by omega)] at e
    exact ⟨e, by rw [e, q]⟩
  rw [← hX]
  refine ⟨⟨by rw [eT, eR, eC, eL]; exact x1, by rw [eL]; exact hp, fun r hr' => ?_, ⟨fun r hr' => ?_, fun c hc' => ?_, fun r r' hr1 hr2 e => ?_, fun c c' hc1 hc2 e => ?_, fun r c hr1 hc1 e => ?_, ?_, fun l hl => ?_⟩, ⟨fun c hc' => ?_, ?_⟩, fun c hc' hcc => ?_⟩, fun r c hr1 hc1 hr2 hc2 => ?_⟩
  · by_cases e : r = row
    · rw [e, T_row C (by omega)]
      exact h3 row hr
    · have t := T_in r C hr' (Nat.le_refl _) e (by omega)
      have nn : 0 ≤ sT S row col * sT S r C - sT S r col * sT S row C := by
        rcases Int.lt_or_le 0 (sT S r col) with z | z
        · have := hm r hr' z
          rw [Int.mul_comm (sT S row col), Int.mul_comm (sT S r col)]
          omega
        · have a1 := Int.mul_nonneg (show 0 ≤ sT S row col by omega) (h3 r hr')
          have a2 := Int.mul_nonneg (show 0 ≤ -sT S r col by omega) (h3 row hr)
          rw [Int.neg_mul] at a2
          omega
      rw [← t] at nn
      refine Int.not_lt.mp fun z => ?_
      have := Int.mul_neg_of_pos_of_neg h2 z
      omega
  · rw [eR]
    by_cases e : r = row
    · rw [e, exL_k]
      exact l2 col hc
    · rw [exL_n e]
      exact l1 r hr'
  · rw [eC]
    by_cases e : c = col
    · rw [e, exL_k]
      exact l1 row hr
    · rw [exL_n e]
      exact l2 c hc'
  · rw [eR] at e
    by_cases f : r = row
    · by_cases g : r' = row
      · omega
      · rw [f, exL_k, exL_n g] at e
        exact absurd e.symm (l5 r' col hr2 hc)
    · by_cases g : r' = row
      · rw [g, exL_k, exL_n f] at e
        exact absurd e (l5 r col hr1 hc)
      · rw [exL_n f, exL_n g] at e
        exact l3 r r' hr1 hr2 e
  · rw [eC] at e
    by_cases f : c = col
    · by_cases g : c' = col
      · omega
      · rw [f, exL_k, exL_n g] at e
        exact absurd e (l5 row c' hr hc2)
    · by_cases g : c' = col
      · rw [g, exL_k, exL_n f] at e
        exact absurd e.symm (l5 row c hr hc1)
      · rw [exL_n f, exL_n g] at e
        exact l4 c c' hc1 hc2 e
  · rw [eR, eC] at e
    by_cases f : r = row
    · by_cases g : c = col
      · rw [f, g, exL_k, exL_k] at e
        exact l5 row col hr hc e.symm
      · rw [f, exL_k, exL_n g] at e
        exact g (l4 col c hc hc1 e).symm
    · by_cases g : c = col
      · rw [g, exL_k, exL_n f] at e
        exact f (l3 r row hr1 hr e)
      · rw [exL_n f, exL_n g] at e
        exact l5 r c hr1 hc1 e
  · rw [eC, exL_n (by omega)]
    exact l6
  · rcases l7 l hl with ⟨r, r1, r2⟩ | ⟨c, c1, c2⟩
    · by_cases e : r = row
      · refine Or.inr ⟨col, hc, ?_⟩
        rw [eC, exL_k, ← e]
        exact r2
      · refine Or.inl ⟨r, r1, ?_⟩
        rw [eR, exL_n e]
        exact r2
    · by_cases e : c = col
      · refine Or.inl ⟨row, hr, ?_⟩
        rw [eR, exL_k, ← e]
        exact c2
      · refine Or.inr ⟨c, c1, ?_⟩
        rw [eC, exL_n e]
        exact c2
  · by_cases e : c = col
    · rw [e, T_col R Rn, smc, eC, exL_k, eL, gcol]
      omega
    · have q := g1 c hc'
      rw [eC, exL_n e, eL]
      by_cases f : C ≤ sC S c
      · rw [if_pos f] at q ⊢
        have := (goalrow c (by omega) e 1 (by omega)).1
        omega
      · rw [if_neg f] at q ⊢
        have := (goalrow c (by omega) e 0 (by omega)).1
        omega
  · have := (goalrow C (Nat.le_refl _) (by omega) 0 (by omega)).1
    omega
  · rw [eK]
    rw [eC] at hcc ⊢
    by_cases e : c = col
    · rw [e, exL_k] at hcc ⊢
      rw [if_pos hcc, Nat.testBit_or, Nat.testBit_two_pow_self, Bool.or_true]
    · rw [exL_n e] at hcc ⊢
      have := h6 c hc' hcc
      by_cases f : C ≤ sR S row
      · rw [if_pos f, Nat.testBit_or, this, Bool.true_or]
      · rw [if_neg f]
        exact this
  · by_cases e : r = R
    · subst e
      by_cases f : c = C
      · rw [f]
        exact (goalrow C (Nat.le_refl _) (by omega) 0 (by omega)).2
      · have q := g1 c (by omega)
        by_cases g : C ≤ sC S c
        · rw [if_pos g] at q
          exact (goalrow c hc1 hc2 1 (by omega)).2
        · rw [if_neg g] at q
          exact (goalrow c hc1 hc2 0 (by omega)).2
    · exact T_in r c (by omega) hc1 hr2 hc2
end
