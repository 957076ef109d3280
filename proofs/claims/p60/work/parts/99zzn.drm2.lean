/-! THE PURE PART, drawings: the machine finds what follows a going, and counts the walks. -/
section
/-- what the machine holds of an edge set -/
def edS (V : mV) (nb : Nat → Nat) (n : Nat) : Prop := V.fI 3 8 = nI n ∧ V.fI 3 9 = nI (sdN nb 7) ∧ (∀ u, u < 7 → V.rI 27 u = nI (nb u)) ∧ (∀ u, u < n → V.rI 29 u = nI (sdN nb u)) ∧ (∀ p, p < sdN nb 7 → V.rI 30 p = nI (owN nb p)) ∧ ∀ u, u < n → V.rI 33 u = dueI nb u
/-- the rounds of the nodes up to l -/
def rgS (V : mV) (nb t : Nat → Nat) (l : Nat) : Prop := (∀ p, p < sdN nb (l + 1) → V.rI 31 p = nI (t p)) ∧ ∀ u, u ≤ l → ∀ p, plB nb u p → V.rI 32 (7 * u + t p) = nI p
theorem T_behind {F l p n : Nat} {nb t s : Nat → Nat} {V : mV} (hF : 64 ≤ F) (hg : gph nb n) (hE : edS V nb n) (hl : l < n) (h : okR nb t s (l + 1)) (hR : rgS V nb t l) (hp : plL nb t l p) : mTo (mX2_behind F (nI p) (nI l) V) (fun v => v = nI (bhP nb t s l p)) := by
  obtain ⟨g1, g2, g3, g4, g5, g6⟩ := hg
  obtain ⟨a1, a2, a3, a4, a5, a6⟩ := hE
  obtain ⟨r1, r2⟩ := hR
  obtain ⟨b1, k0, b2, b3, b4, b5⟩ := bh_find g2 (by omega) h hp
  obtain ⟨o1, o2⟩ := pl_own (show l < 7 by omega) hp.1
  have tl := hp.2
  have sm : sdN nb (l + 1) ≤ sdN nb 7 := sdN_mono 7 (by omega)
  have p22 := hp.1
  obtain ⟨q, hq⟩ : ∃ q, q = s (7 * t p + owN nb p) := ⟨_, rfl⟩
  rw [← hq] at b1 b3 b4 b5
  have sq : V.rI 32 (7 * t p + owN nb p) = nI q := by
    have := okT_sur h (show t p < l + 1 by omega) (show owN nb p < 7 by omega) (by
      have := (h _ (show owN nb p < l + 1 by omega) p o2).2.1
      rw [← g2 _ _ (show owN nb p < 7 by omega) (show t p < 7 by omega)]
      exact this)
    rw [← hq] at this
    have e := r2 (t p) tl q this.1
    rw [this.2] at e
    exact e
  have en : sdN nb (t p + 1) = sdN nb (t p) + degN nb (t p) := rfl
  have sm2 : sdN nb (t p + 1) ≤ sdN nb 7 := sdN_mono 7 (by omega)
  have go : ∀ k' j, degN nb (t p) < j + k' → j ≤ k0 → mTo (mX2_behind_go F k' 0 (nI l) (nI (t p)) (nI q) (nI (degN nb (t p))) (nI (itA (cycN nb (t p)) j q)) (nI j) V) (fun v => v = nI (bhP nb t s l p)) := by
    intro k'
    induction k' with
    | zero => intro j h1 h2; omega
    | succ k ih =>
      intro j h1 h2
      rw [mX2_behind_go, if_pos rfl]
      unfold mX2_behind_b0
      have dl := degN_le (nb := nb) (u := t p)
      have ci := (roT_cy (show l + 1 ≤ 7 by omega) h (show t p < l + 1 by omega) b1 j).1
      have cn := (roT_cy (show l + 1 ≤ 7 by omega) h (show t p < l + 1 by omega) b1 (j + 1)).1
      have cl := pl_lt (show t p ≤ l by omega) cn
      have e0 : itA (cycN nb (t p)) (j + 1) q = cycN nb (t p) (itA (cycN nb (t p)) j q) := rfl
      obtain ⟨z, hz⟩ : ∃ z, z = itA (cycN nb (t p)) j q := ⟨_, rfl⟩
      rw [← hz] at ci e0
      rw [← hz]
      obtain ⟨ci1, ci2⟩ := ci
      have rg := r1 _ cl
      have fin : ∀ x : Int32, x = nI (cycN nb (t p) z) → mTo (if nI l < V.rI 31 (cycN nb (t p) z) then (mLt (nI j + (1 : Int32)) fun x7 => mX2_behind_go F k 0 (nI l) (nI (t p)) (nI q) (nI (degN nb (t p))) x x7 V) else some x) (fun v => v = nI (bhP nb t s l p)) := fun x hx => by
        subst hx
        rw [← e0, rg]
        have t7 := (h _ (show t p < l + 1 by omega) _ cn).1
        refine mTo.ltI rfl rfl (by omega) (by omega) (fun y => mTo.lt ?_) (fun y => mTo.ret ?_)
        · rw [nI_1]
          refine ih (j + 1) (by omega) ?_
          apply Classical.byContradiction
          intro c
          rw [show j = k0 by omega] at y
          omega
        · have : j = k0 := by
            apply Classical.byContradiction
            intro c
            exact b5 j (by omega) y
          rw [b3, this]
      refine mTo.le rfl rfl (by omega) (by omega) (fun y => by omega) (fun y => mTo.lt (mTo.ix rfl (by omega) (by omega) ?_))
      rw [nI_clamp (n := t p) (by omega), a4 _ (by omega), nI_add, ← en, nI_1]
      unfold cycN at fin
      refine mTo.ltI rfl rfl (by omega) (by omega) (fun y => ?_) (fun y => mTo.ic rfl (by omega) (by omega) ?_)
      · rw [if_neg (show ¬ z + 1 = sdN nb (t p + 1) by omega)] at fin
        refine mTo.ix rfl (by omega) (by omega) ?_
        rw [nI_clamp (n := z + 1) (by omega)]
        exact fin _ rfl
      · rw [if_pos (show z + 1 = sdN nb (t p + 1) by omega)] at fin
        refine mTo.lt (mTo.ix rfl (by omega) (by omega) ?_)
        rw [nI_clamp (n := sdN nb (t p)) (by omega)]
        exact fin _ rfl
  unfold mX2_behind mX2_behind_s
  refine mTo.ix rfl (by omega) (by omega) ?_
  rw [nI_clamp (n := p) (by omega), r1 p hp.1, a5 p (by omega)]
  refine mTo.lt (mTo.ic rfl (by omega) (by omega) ?_)
  rw [show (7 : Int32) = nI 7 from rfl, nI_mulC, nI_add, show t p * 7 + owN nb p = 7 * t p + owN nb p by omega]
  refine mTo.ix rfl (by omega) (by omega) ?_
  rw [nI_clamp (n := 7 * t p + owN nb p) (by omega), sq, nI_clamp (n := t p) (by omega), a3 (t p) (by omega)]
  refine mTo.lt (mTo.ic rfl (by omega) (by omega) ?_)
  have lt := g4 (t p)
  refine mTo.so (T_pop (by omega)) ?_
  rw [pop_deg rfl lt]
  have dl := degN_le (nb := nb) (u := t p)
  exact go F 0 (by omega) (Nat.zero_le _)
/-- the least period, of a permutation below N -/
theorem per_le {f : Nat → Nat} {N x : Nat} (hp : prmN f N) (hx : x < N) : ∃ K, 0 < K ∧ K ≤ N ∧ itA f K x = x ∧ (∀ i j, i < K → j < K → itA f i x = itA f j x → i = j) ∧ ∀ y, orbN f x y → ∃ i, i < K ∧ itA f i x = y := by
  obtain ⟨K0, k1, k2⟩ := itA_per hp x
  obtain ⟨K, ⟨k3, k4⟩, k5⟩ := lst_k (P := fun k => 0 < k ∧ itA f k x = x) K0 ⟨K0, Nat.le_refl _, k1, k2⟩
  have dis : ∀ i j, i < K → j < K → itA f i x = itA f j x → i = j := by
    have half : ∀ i j, i < j → j < K → itA f i x = itA f j x → False := by
      intro i j h1 h2 e
      have e2 := itA_add (f := f) (x := x) (b := j - i) i
      rw [show i + (j - i) = j by omega, ← e] at e2
      have := itA_inj hp i e2
      exact k5 (j - i) (by omega) ⟨by omega, this.symm⟩
    intro i j h1 h2 e
    rcases Nat.lt_trichotomy i j with l | l | l
    · exact absurd (half i j l h2 e) id
    · exact l
    · exact absurd (half j i l h1 e.symm) id
  refine ⟨K, k3, ?_, k4, dis, fun y hy => ?_⟩
  · have := cnt_inj (X := fun _ => true) (Y := fun _ => true) (f := fun i => itA f i x) (m := N) K (fun i _ _ => ⟨itA_lt hp hx i, rfl⟩) (fun i j hi hj _ _ e => dis i j hi hj e)
    rw [cnt_T, cnt_T] at this
    exact this
  · obtain ⟨k, hk⟩ := hy
    refine ⟨k % K, Nat.mod_lt _ k3, ?_⟩
    have e := itA_add (f := f) (x := x) (b := K * (k / K)) (k % K)
    rw [itA_mul k4, show k % K + K * (k / K) = k from Nat.mod_add_div k K, hk] at e
    exact e.symm
/-- the walks among the nodes up to l -/
noncomputable def wkN (nb t s : Nat → Nat) (l : Nat) : Nat := clG (plb nb t l) (orbN (bhP nb t s l)) (sdN nb (l + 1))
theorem T_countWalks {F l n : Nat} {nb t s : Nat → Nat} {V : mV} (hF : 2 ^ 12 ≤ F) (hg : gph nb n) (hE : edS V nb n) (hl : l < n) (h : okR nb t s (l + 1)) (hR : rgS V nb t l) : mTo (mX2_countWalks F (nI l) V) (fun v => v = nI (wkN nb t s l)) := by
  have hg' := hg
  obtain ⟨g1, g2, g3, g4, g5, g6⟩ := hg
  have hE' := hE
  obtain ⟨a1, a2, a3, a4, a5, a6⟩ := hE
  have sm : sdN nb (l + 1) ≤ sdN nb 7 := sdN_mono 7 (by omega)
  have hp := bh_prm g2 (show l < 7 by omega) h
  have oe := orb_eqv hp
  obtain ⟨N, hN⟩ : ∃ N, N = sdN nb (l + 1) := ⟨_, rfl⟩
  rw [← hN] at hp sm
  obtain ⟨f, hf⟩ : ∃ f, f = bhP nb t s l := ⟨_, rfl⟩
  rw [← hf] at hp oe
  have seen : ∀ j (S : Nat), (∀ p, S.testBit p = true ↔ ∃ i, i < j ∧ plb nb t l i = true ∧ orbN f i p) → (plb nb t l j = true → (S.testBit j = false ↔ fstG (plb nb t l) (orbN f) j = true)) := fun j S hS hj => by
    rw [fstG_t]
    constructor
    · intro c
      refine ⟨hj, fun i hi gi oi => ?_⟩
      have := (hS j).mpr ⟨i, hi, gi, oi⟩
      rw [c] at this
      exact absurd this (by decide)
    · rintro ⟨_, c⟩
      cases e : S.testBit j with
      | false => rfl
      | true =>
        obtain ⟨i, i1, i2, i3⟩ := (hS j).mp e
        exact absurd i3 (c i i1 i2)
  have go : ∀ k', (∀ (j S : Nat), (N - j) * 50 + 1 ≤ k' → j ≤ N → S < 2 ^ 22 → (∀ p, S.testBit p = true ↔ ∃ i, i < j ∧ plb nb t l i = true ∧ orbN f i p) → mTo (mX2_countWalks_go F k' 0 (nI l) (nI S) (nI (cnt (fstG (plb nb t l) (orbN f)) j)) (nI j) 0 0 V) (fun v => v = nI (wkN nb t s l))) ∧ (∀ (j S S0 g K : Nat), (N - j - 1) * 50 + (K - g) + 3 ≤ k' → j < N → S < 2 ^ 22 → plb nb t l j = true → (∀ p, S0.testBit p = true ↔ ∃ i, i < j ∧ plb nb t l i = true ∧ orbN f i p) → S0.testBit j = false → (∀ p, S.testBit p = true ↔ S0.testBit p = true ∨ ∃ h, h < g ∧ itA f h j = p) → g ≤ K → 0 < K → K ≤ 22 → itA f K j = j → (∀ a b, a < K → b < K → itA f a j = itA f b j → a = b) → (∀ y, orbN f j y → ∃ i, i < K ∧ itA f i j = y) → mTo (mX2_countWalks_go F k' 1 (nI l) (nI S) (nI (cnt (fstG (plb nb t l) (orbN f)) j)) (nI j) (nI (itA f g j)) (nI g) V) (fun v => v = nI (wkN nb t s l))) := by
    intro k'
    induction k' with
    | zero => exact ⟨fun j S h1 => by omega, fun j S S0 g K h1 => by omega⟩
    | succ k ih =>
      obtain ⟨ih0, ih1⟩ := ih
      have hn : ∀ (X : Nat → Bool) j, cnt X (j + 1) = cnt X j + (if X j = true then 1 else 0) := fun X j => rfl
      refine ⟨fun j S h1 h2 h3 h4 => ?_, fun j S S0 g K h1 h2 h3 hj h4 hj0 h5 h6 h7 h8 h9 h10 h11 => ?_⟩
      · rw [mX2_countWalks_go, if_pos rfl]
        unfold mX2_countWalks_b0
        have fin : j = N → nI (cnt (fstG (plb nb t l) (orbN f)) j) = nI (wkN nb t s l) := fun e => by
          unfold wkN clG
          rw [e, hf, hN]
        have c1 := cnt_n (X := fstG (plb nb t l) (orbN f)) j
        refine mTo.le a2 rfl (by omega) (by omega) (fun z => mTo.ret (fin (by omega))) (fun z => mTo.ix rfl (by omega) (by omega) ?_)
        rw [nI_clamp (n := j) (by omega), a5 j z]
        obtain ⟨u, u1, u2⟩ := pl_ex 7 z
        have ou := ow_pl u1 u2
        refine mTo.ltI rfl rfl (by omega) (by omega) (fun y => mTo.ret (fin ?_)) (fun y => mTo.ic rfl (by omega) (by omega) ?_)
        · -- its node is a later one
          have := sdN_mono (nb := nb) (a := l + 1) u (by omega)
          have := u2.1
          omega
        · have jN : j < N := by
            rw [hN]
            exact pl_lt (show u ≤ l by omega) u2
          obtain ⟨t1, t2, t3⟩ := h u (by omega) j u2
          rw [hR.1 j (by omega)]
          refine mTo.ltI rfl rfl (by omega) (by omega) (fun x => mTo.lt ?_) (fun x => ?_)
          · have nj : plb nb t l j ≠ true := fun c => by have := (plb_t.mp c).2; omega
            have g := ih0 (j + 1) S (by omega) (by omega) h3 (fun p => by
              rw [h4]
              constructor
              · rintro ⟨i, i1, i2⟩
                exact ⟨i, by omega, i2⟩
              · rintro ⟨i, i1, i2, i3⟩
                have : i ≠ j := fun c => nj (by rw [← c]; exact i2)
                exact ⟨i, by omega, i2, i3⟩)
            rw [hn, if_neg (fun c => nj (fstG_t.mp c).1), Nat.add_zero] at g
            rw [nI_1]
            exact g
          · have hj : plb nb t l j = true := plb_t.mpr ⟨by omega, x⟩
            have sj := seen j S h4 hj
            refine mTo.ite (fun w => ?_) (fun w => mTo.lt ?_)
            · have w := (nb_bit (by omega) (by omega)).mp w
              obtain ⟨K, k1, k2, k3, k4, k5⟩ := per_le hp jN
              exact ih1 j S S 0 K (by omega) jN h3 hj h4 w (fun p => ⟨Or.inl, fun c => c.elim id (fun ⟨h, c, _⟩ => absurd c (Nat.not_lt_zero h))⟩) (Nat.zero_le _) k1 (by omega) k3 k4 k5
            · have w : S.testBit j = true := by
                cases e : S.testBit j with
                | true => rfl
                | false => exact absurd ((nb_bit (by omega) (by omega)).mpr e) w
              have g := ih0 (j + 1) S (by omega) (by omega) h3 (fun p => by
                rw [h4]
                constructor
                · rintro ⟨i, i1, i2⟩
                  exact ⟨i, by omega, i2⟩
                · rintro ⟨i, i1, i2, i3⟩
                  by_cases c : i = j
                  · rw [c] at i3
                    obtain ⟨i', j1, j2, j3⟩ := (h4 j).mp w
                    exact ⟨i', j1, j2, oe.2.2 _ _ _ j3 i3⟩
                  · exact ⟨i, by omega, i2, i3⟩)
              rw [hn, if_neg (fun c => by rw [sj.mpr c] at w; exact absurd w (by decide)), Nat.add_zero] at g
              rw [nI_1]
              exact g
      · rw [mX2_countWalks_go, if_neg (by decide), if_pos rfl]
        unfold mX2_countWalks_b1
        have pj := plb_t.mp hj
        have it := bh_it g2 (show l < 7 by omega) h pj g
        rw [← hf] at it
        have il := it.1.1
        have iN := itA_lt hp h2 g
        have close : g = K → mTo (mX2_countWalks_go F k 0 (nI l) (nI S) (nI (cnt (fstG (plb nb t l) (orbN f)) j) + 1) (nI j + 1) 0 0 V) (fun v => v = nI (wkN nb t s l)) := fun e => by
          have g' := ih0 (j + 1) S (by omega) (by omega) h3 (fun p => by
            rw [h5, h4]
            constructor
            · rintro (⟨i, i1, i2⟩ | ⟨h, hh, e⟩)
              · exact ⟨i, by omega, i2⟩
              · exact ⟨j, by omega, hj, h, e⟩
            · rintro ⟨i, i1, i2, i3⟩
              by_cases c : i = j
              · rw [c] at i3
                obtain ⟨h, h1, h2⟩ := h11 p i3
                exact Or.inr ⟨h, by omega, h2⟩
              · exact Or.inl ⟨i, by omega, i2, i3⟩)
          rw [hn, if_pos ((seen j S0 h4 hj).mp hj0)] at g'
          rw [nI_1, nI_1]
          exact g'
        refine mTo.le (a := 22) rfl rfl (by decide) (by omega) (fun z => mTo.lt (mTo.lt (close (by omega)))) (fun z => ?_)
        refine mTo.ite (fun w => mTo.lt ?_) (fun w => mTo.lt (mTo.lt (close ?_)))
        · have w := (nb_bit (K := S) (l := itA f g j) (by omega) (by omega)).mp w
          have gK : g < K := by
            apply Classical.byContradiction
            intro c
            rw [show g = K by omega, h9] at w
            have := (h5 j).mpr (Or.inr ⟨0, by omega, rfl⟩)
            rw [w] at this
            exact absurd this (by decide)
          have it1 := bh_it g2 (show l < 7 by omega) h pj (g + 1)
          refine mTo.N (T_behind (F := F) (by omega) hg' hE' hl h hR it.1) (fun v _ hv => mTo.lt ?_)
          subst hv
          have l22 : itA f g j < 22 := by omega
          rw [nb_one (by omega), nb_or, nI_1, ← hf]
          refine ih1 j (S ||| 2 ^ itA f g j) S0 (g + 1) K (by omega) h2 (nb_or_lt h3 (nb_p2 l22)) hj h4 hj0 (fun p => ?_) gK h7 h8 h9 h10 h11
          rw [Nat.testBit_or, Bool.or_eq_true, nb_pow, decide_eq_true_iff, h5]
          constructor
          · rintro ((a | ⟨h, a, b⟩) | a)
            · exact Or.inl a
            · exact Or.inr ⟨h, by omega, b⟩
            · exact Or.inr ⟨g, by omega, a⟩
          · rintro (a | ⟨h, a, b⟩)
            · exact Or.inl (Or.inl a)
            · by_cases c : h = g
              · rw [c] at b
                exact Or.inr b
              · exact Or.inl (Or.inr ⟨h, by omega, b⟩)
        · have w : S.testBit (itA f g j) = true := by
            cases e : S.testBit (itA f g j) with
            | true => rfl
            | false => exact absurd ((nb_bit (K := S) (l := itA f g j) (by omega) (by omega)).mpr e) w
          rcases (h5 _).mp w with c | ⟨h, c, d⟩
          · obtain ⟨i, i1, i2, i3⟩ := (h4 _).mp c
            have := (h4 j).mpr ⟨i, i1, i2, oe.2.2 _ _ _ i3 (oe.2.1 _ _ ⟨g, rfl⟩)⟩
            rw [hj0] at this
            exact absurd this (by decide)
          · apply Classical.byContradiction
            intro ne
            have := h10 h g (by omega) (by omega) d
            omega
  unfold mX2_countWalks mX2_countWalks_s
  exact (go F).1 0 0 (by omega) (Nat.zero_le _) (by decide) (fun p => by
    rw [Nat.zero_testBit]
    exact ⟨fun c => absurd c (by decide), fun ⟨i, c, _⟩ => absurd c (Nat.not_lt_zero i)⟩)
end
