/-! THE PURE PART, pairings: the greatest number of pairs within a set, by the lowest of it. -/
section
def lowB (S : Nat) : Nat → Nat
  | 0 => 0
  | k + 1 => if lowB S k < k then lowB S k else if S.testBit k = true then k else k + 1
theorem lowB_spec {S : Nat} : ∀ k, (lowB S k < k → S.testBit (lowB S k) = true) ∧ (∀ l, l < lowB S k → S.testBit l = false) ∧ lowB S k ≤ k
  | 0 => ⟨fun h => absurd h (Nat.not_lt_zero _), fun l h => absurd h (Nat.not_lt_zero l), Nat.le_refl _⟩
  | k + 1 => by
    obtain ⟨a, b, c⟩ := lowB_spec (S := S) k
    rw [lowB]
    by_cases h : lowB S k < k
    · rw [if_pos h]
      exact ⟨fun _ => a h, b, by omega⟩
    · have e : lowB S k = k := by omega
      rw [if_neg h]
      rw [e] at b
      by_cases h2 : S.testBit k = true
      · rw [if_pos h2]
        exact ⟨fun _ => h2, b, by omega⟩
      · rw [if_neg h2]
        refine ⟨fun z => absurd z (Nat.lt_irrefl _), fun l hl => ?_, Nat.le_refl _⟩
        by_cases e2 : l = k
        · subst e2
          exact Bool.eq_false_iff.mpr h2
        · exact b l (by omega)
def low (S : Nat) : Nat := lowB S 31
theorem low_spec {S : Nat} (h : S < 2 ^ 31) (h0 : S ≠ 0) : low S < 31 ∧ S.testBit (low S) = true ∧ ∀ l, l < low S → S.testBit l = false := by
  obtain ⟨a, b, c⟩ := lowB_spec (S := S) 31
  have lt : lowB S 31 < 31 := by
    rcases Nat.lt_or_ge (lowB S 31) 31 with z | z
    · exact z
    · refine absurd (nb_ext fun i => ?_) h0
      rw [Nat.zero_testBit]
      by_cases hi : i < 31
      · exact b i (by omega)
      · exact nb_big h (by omega)
  exact ⟨lt, a lt, b⟩
theorem low_un {S i : Nat} (h : S < 2 ^ 31) (h1 : S.testBit i = true) (h2 : ∀ l, l < i → S.testBit l = false) : low S = i := by
  have h0 : S ≠ 0 := fun e => by rw [e, Nat.zero_testBit] at h1; exact absurd h1 (by decide)
  obtain ⟨a, b, c⟩ := low_spec h h0
  rcases Nat.lt_trichotomy (low S) i with z | z | z
  · rw [h2 _ z] at b
    exact absurd b (by decide)
  · exact z
  · rw [c _ z] at h1
    exact absurd h1 (by decide)
theorem nsd_cdel (S v : Nat) : (fun i => (nsd S (2 ^ v)).testBit i) = cdel (fun i => S.testBit i) v := by
  funext i
  rw [nsd_bit, nb_pow]
  unfold cdel
  congr 1
  congr 1
  exact decide_eq_decide.mpr ⟨fun z => z.symm, fun z => z.symm⟩
theorem nsd_le (S T : Nat) : nsd S T ≤ S := by
  have e : nsd S T = S &&& nsd S T := nb_ext fun i => by
    rw [Nat.testBit_and, nsd_bit]
    cases S.testBit i <;> cases T.testBit i <;> rfl
  rw [e]
  exact Nat.and_le_left
theorem nsd_ltS {S v : Nat} (h : S.testBit v = true) : nsd S (2 ^ v) < S := by
  rcases Nat.lt_or_ge (nsd S (2 ^ v)) S with z | z
  · exact z
  · have e := Nat.le_antisymm (nsd_le S (2 ^ v)) z
    have := nsd_bit S (2 ^ v) v
    rw [e, h, nb_pow, decide_eq_true rfl] at this
    exact absurd this (by decide)
def mxo (nr g : Nat → Nat) (R v : Nat) : Nat → Nat
  | 0 => g R
  | j + 1 => if v < j ∧ (R &&& nr v).testBit j = true then max (mxo nr g R v j) (1 + g (nsd R (2 ^ j))) else mxo nr g R v j
theorem mxo_lo {nr g : Nat → Nat} {R v : Nat} : ∀ k, k ≤ v + 1 → mxo nr g R v k = g R
  | 0, _ => rfl
  | k + 1, h => by
    rw [mxo, if_neg (fun z => absurd z.1 (by omega))]
    exact mxo_lo k (by omega)
theorem mxo_ge0 {nr g : Nat → Nat} {R v : Nat} : ∀ k, g R ≤ mxo nr g R v k
  | 0 => Nat.le_refl _
  | k + 1 => by
    have := mxo_ge0 (nr := nr) (g := g) (R := R) (v := v) k
    rw [mxo]
    by_cases h : v < k ∧ (R &&& nr v).testBit k = true
    · rw [if_pos h]
      omega
    · rw [if_neg h]
      exact this
theorem mxo_ge {nr g : Nat → Nat} {R v j : Nat} (h1 : v < j) (h2 : (R &&& nr v).testBit j = true) : ∀ k, j < k → 1 + g (nsd R (2 ^ j)) ≤ mxo nr g R v k
  | 0, h => absurd h (Nat.not_lt_zero _)
  | k + 1, h => by
    rw [mxo]
    by_cases e : j = k
    · subst e
      rw [if_pos ⟨h1, h2⟩]
      omega
    · have := mxo_ge (nr := nr) (g := g) h1 h2 k (by omega)
      by_cases h : v < k ∧ (R &&& nr v).testBit k = true
      · rw [if_pos h]
        omega
      · rw [if_neg h]
        exact this
theorem mxo_ex {nr g : Nat → Nat} {R v : Nat} : ∀ k, mxo nr g R v k = g R ∨ ∃ j, j < k ∧ v < j ∧ (R &&& nr v).testBit j = true ∧ mxo nr g R v k = 1 + g (nsd R (2 ^ j))
  | 0 => Or.inl rfl
  | k + 1 => by
    rw [mxo]
    by_cases h : v < k ∧ (R &&& nr v).testBit k = true
    · rw [if_pos h]
      rcases Nat.le_total (mxo nr g R v k) (1 + g (nsd R (2 ^ k))) with z | z
      · rw [Nat.max_eq_right z]
        exact Or.inr ⟨k, by omega, h.1, h.2, rfl⟩
      · rw [Nat.max_eq_left z]
        rcases mxo_ex (nr := nr) (g := g) (R := R) (v := v) k with q | ⟨j, a, b⟩
        · exact Or.inl q
        · exact Or.inr ⟨j, by omega, b⟩
    · rw [if_neg h]
      rcases mxo_ex (nr := nr) (g := g) (R := R) (v := v) k with q | ⟨j, a, b⟩
      · exact Or.inl q
      · exact Or.inr ⟨j, by omega, b⟩
theorem mxo_cg {nr g g' : Nat → Nat} {R v : Nat} (h : ∀ x, x ≤ R → g x = g' x) : ∀ k, mxo nr g R v k = mxo nr g' R v k
  | 0 => h R (Nat.le_refl _)
  | k + 1 => by
    rw [mxo, mxo, mxo_cg h k, h _ (nsd_le _ _)]
def nuT (nr : Nat → Nat) (s : Nat) : Nat → Nat → Nat
  | 0, _ => 0
  | S + 1, x => if x = S then (if S = 0 then 0 else mxo nr (nuT nr s S) (nsd S (2 ^ low S)) (low S) s) else nuT nr s S x
def nu (nr : Nat → Nat) (s S : Nat) : Nat := nuT nr s (S + 1) S
theorem nuT_at {nr : Nat → Nat} {s x : Nat} : ∀ k, x < k → nuT nr s k x = nu nr s x
  | 0, h => absurd h (Nat.not_lt_zero _)
  | k + 1, h => by
    by_cases e : x = k
    · subst e
      rfl
    · rw [nuT, if_neg e]
      exact nuT_at k (by omega)
theorem nu_0 {nr : Nat → Nat} {s : Nat} : nu nr s 0 = 0 := rfl
theorem nu_eq {nr : Nat → Nat} {s S : Nat} (hS : S < 2 ^ 31) (h0 : S ≠ 0) : nu nr s S = mxo nr (nu nr s) (nsd S (2 ^ low S)) (low S) s := by
  unfold nu
  rw [nuT, if_pos rfl, if_neg h0]
  have := nsd_ltS (low_spec hS h0).2.1
  exact mxo_cg (fun x hx => nuT_at S (by omega)) s
theorem nu_bd {nr : Nat → Nat} {s : Nat} : ∀ k S, S < k → S < 2 ^ 31 → nu nr s S ≤ S := by
  intro k
  induction k with
  | zero => intro S h; omega
  | succ k ih =>
    intro S hk hS
    by_cases h0 : S = 0
    · subst h0
      exact Nat.le_refl _
    · rw [nu_eq hS h0]
      have l1 := nsd_ltS (low_spec hS h0).2.1
      rcases mxo_ex (nr := nr) (g := nu nr s) (R := nsd S (2 ^ low S)) (v := low S) s with e | ⟨j, _, _, hb, e⟩
      · rw [e]
        have := ih _ (show nsd S (2 ^ low S) < k by omega) (by omega)
        omega
      · rw [e]
        rw [Nat.testBit_and, Bool.and_eq_true] at hb
        have l2 := nsd_ltS hb.1
        have := ih _ (show nsd (nsd S (2 ^ low S)) (2 ^ j) < k by omega) (by omega)
        omega
/-- no pairing has more -/
theorem nu_le {nr : Nat → Nat} {s : Nat} (hs : s ≤ 9) (hsym : ∀ u w, (nr u).testBit w = true → (nr w).testBit u = true) : ∀ k S, S < k → S < 2 ^ s → ∀ p, Mt (fun u w => (nr u).testBit w) (fun i => S.testBit i) p → cnt (fun i => S.testBit i) s ≤ alo (fun i => S.testBit i) p s + 2 * nu nr s S := by
  have s9 : (2 : Nat) ^ s ≤ 2 ^ 9 := Nat.pow_le_pow_right (by decide) hs
  intro k
  induction k with
  | zero => intro S h; omega
  | succ k ih =>
    intro S hk hS p hp
    by_cases h0 : S = 0
    · subst h0
      rw [cnt_0 s (fun i _ => Nat.zero_testBit i)]
      exact Nat.zero_le _
    · obtain ⟨v1, v2, v3⟩ := low_spec (by omega) h0
      have hX : ∀ i, S.testBit i = true → i < s := fun i hi => by
        rcases Nat.lt_or_ge i s with z | z
        · exact z
        · rw [nb_big hS z] at hi
          exact absurd hi (by decide)
      have l1 := nsd_ltS v2
      have e1 := cnt_del (X := fun i => S.testBit i) v2 s (hX _ v2)
      rw [← nsd_cdel] at e1
      rw [nu_eq (by omega) h0]
      generalize low S = v at *
      by_cases pv : p v = v
      · have a1 := alo_del (X := fun i => S.testBit i) v2 (hX _ v2) pv
        have a2 := hp.down pv
        rw [← nsd_cdel] at a1 a2
        have := ih _ (by omega) (nsd_lt hS) p a2
        have := mxo_ge0 (nr := nr) (g := nu nr s) (R := nsd S (2 ^ v)) (v := v) s
        omega
      · have w1 := hp.X pv
        have w2 := ((hp v).2 pv).2
        have hq := hp.ct (x := v)
        have q1 : ctp p v v = v := by unfold ctp; rw [if_pos (Or.inl rfl)]
        have q2 : ctp p v (p v) = p v := by unfold ctp; rw [if_pos (Or.inr rfl)]
        have a0 := alo_ctp (X := fun i => S.testBit i) (x := v) hX hp pv
        have a1 := alo_del (X := fun i => S.testBit i) v2 (hX _ v2) q1
        have a2 := hq.down q1
        rw [← nsd_cdel] at a1 a2
        have b1 : (nsd S (2 ^ v)).testBit (p v) = true := by
          rw [nsd_bit, w1, nb_pow, decide_eq_false (fun e => pv e.symm)]
          rfl
        have b2 : v < p v := by
          rcases Nat.lt_trichotomy v (p v) with z | z | z
          · exact z
          · exact absurd z.symm pv
          · rw [v3 _ z] at w1
            exact absurd w1 (by decide)
        have a3 := alo_del (X := fun i => (nsd S (2 ^ v)).testBit i) b1 (hX _ w1) q2
        have a4 := a2.down q2
        have e2 := cnt_del (X := fun i => (nsd S (2 ^ v)).testBit i) b1 s (hX _ w1)
        rw [← nsd_cdel] at a3 a4 e2
        have l2 := nsd_ltS b1
        have := ih _ (by omega) (nsd_lt (nsd_lt hS)) _ a4
        have := mxo_ge (nr := nr) (g := nu nr s) (R := nsd S (2 ^ v)) b2 (by rw [Nat.testBit_and, b1]; exact w2) s (hX _ w1)
        omega
/-- and one has as many -/
theorem nu_ex {nr : Nat → Nat} {s : Nat} (hs : s ≤ 9) (hsym : ∀ u w, (nr u).testBit w = true → (nr w).testBit u = true) : ∀ k S, S < k → S < 2 ^ s → ∃ p, Mt (fun u w => (nr u).testBit w) (fun i => S.testBit i) p ∧ cnt (fun i => S.testBit i) s = alo (fun i => S.testBit i) p s + 2 * nu nr s S := by
  have s9 : (2 : Nat) ^ s ≤ 2 ^ 9 := Nat.pow_le_pow_right (by decide) hs
  intro k
  induction k with
  | zero => intro S h; omega
  | succ k ih =>
    intro S hk hS
    by_cases h0 : S = 0
    · subst h0
      refine ⟨fun i => i, fun i => ⟨rfl, fun z => absurd rfl z⟩, ?_⟩
      unfold alo
      rw [cnt_0 s (fun i _ => Nat.zero_testBit i), cnt_0 s (fun i _ => by show (Nat.testBit 0 i && _) = false; rw [Nat.zero_testBit, Bool.false_and])]
      rfl
    · obtain ⟨v1, v2, v3⟩ := low_spec (by omega) h0
      have hX : ∀ i, S.testBit i = true → i < s := fun i hi => by
        rcases Nat.lt_or_ge i s with z | z
        · exact z
        · rw [nb_big hS z] at hi
          exact absurd hi (by decide)
      have l1 := nsd_ltS v2
      have e1 := cnt_del (X := fun i => S.testBit i) v2 s (hX _ v2)
      rw [← nsd_cdel] at e1
      rw [nu_eq (by omega) h0]
      generalize low S = v at *
      have sub : ∀ i, (nsd S (2 ^ v)).testBit i = true → S.testBit i = true := fun i hi => by
        rw [nsd_bit, Bool.and_eq_true] at hi
        exact hi.1
      have vR : (nsd S (2 ^ v)).testBit v = false := by
        rw [nsd_bit, nb_pow, decide_eq_true rfl, Bool.not_true, Bool.and_false]
      rcases mxo_ex (nr := nr) (g := nu nr s) (R := nsd S (2 ^ v)) (v := v) s with e | ⟨w, _, hvw, hb, e⟩
      · rw [e]
        obtain ⟨p, p1, p2⟩ := ih _ (show nsd S (2 ^ v) < k by omega) (nsd_lt hS)
        have pv : p v = v := p1.out vR
        have a1 := alo_del (X := fun i => S.testBit i) v2 (hX _ v2) pv
        rw [← nsd_cdel] at a1
        exact ⟨p, p1.up sub, by omega⟩
      · rw [e]
        rw [Nat.testBit_and, Bool.and_eq_true] at hb
        have l2 := nsd_ltS hb.1
        obtain ⟨p, p1, p2⟩ := ih _ (show nsd (nsd S (2 ^ v)) (2 ^ w) < k by omega) (nsd_lt (nsd_lt hS))
        have sub2 : ∀ i, (nsd (nsd S (2 ^ v)) (2 ^ w)).testBit i = true → (nsd S (2 ^ v)).testBit i = true := fun i hi => by
          rw [nsd_bit, Bool.and_eq_true] at hi
          exact hi.1
        have pv : p v = v := p1.out (by
          cases hh : (nsd (nsd S (2 ^ v)) (2 ^ w)).testBit v with
          | false => rfl
          | true => rw [sub2 v hh] at vR; exact absurd vR (by decide))
        have pw : p w = w := p1.out (by rw [nsd_bit, nb_pow, decide_eq_true rfl, Bool.not_true, Bool.and_false])
        have p3 := (p1.up sub2).up sub
        have xw := sub w hb.1
        have vw : v ≠ w := by omega
        have a1 := alo_del (X := fun i => S.testBit i) v2 (hX _ v2) pv
        have e2 := cnt_del (X := fun i => (nsd S (2 ^ v)).testBit i) hb.1 s (hX _ xw)
        rw [← nsd_cdel] at a1 e2
        have a2 := alo_del (X := fun i => (nsd S (2 ^ v)).testBit i) hb.1 (hX _ xw) pw
        rw [← nsd_cdel] at a2
        have a3 := alo_swp (X := fun i => S.testBit i) vw pv pw v2 xw (hX _ v2) (hX _ xw)
        exact ⟨_, p3.sw vw pv pw v2 xw hb.2 (hsym _ _ hb.2), by omega⟩
end
