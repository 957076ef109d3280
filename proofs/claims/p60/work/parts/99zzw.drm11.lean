/-! THE PURE PART, drawings: what is kept is accepted; never in both senses. -/
section
theorem lex_ex {nb : Nat → Nat} (h : ∃ t, goodT nb t) : ∀ k, ∃ t, goodT nb t ∧ ∀ t', goodT nb t' → lexL k t t'
  | 0 => by
    obtain ⟨t, ht⟩ := h
    exact ⟨t, ht, fun t' _ i hi => absurd hi (Nat.not_lt_zero i)⟩
  | k + 1 => by
    obtain ⟨t, h1, h2⟩ := lex_ex h k
    obtain ⟨v, ⟨t2, a1, a2, a3⟩, a4⟩ := lst_k (P := fun v => ∃ t2, goodT nb t2 ∧ agP k t t2 ∧ t2 k = v) (t k) ⟨t k, Nat.le_refl _, t, h1, fun q _ => rfl, rfl⟩
    refine ⟨t2, a1, fun t' gt i hi hj => ?_⟩
    by_cases c : i = k
    · rw [c, a3]
      apply Classical.byContradiction
      intro d
      exact a4 (t' k) (by omega) ⟨t', gt, fun q hq => by rw [a2 q hq, hj q (by omega)], rfl⟩
    · rw [← a2 i (by omega)]
      exact h2 t' gt i (by omega) (fun j hj' => by rw [a2 j (by omega), hj j hj'])
theorem tLe_good {nb : Nat → Nat} (hl : ∀ u, u < 7 → (nb u).testBit u = false) (h : drnE nb) : goodT nb (tLe nb) := by
  have ex := lex_ex (drn_good hl h) (sdN nb 7)
  unfold tLe
  rw [dif_pos ex]
  exact (Classical.choose_spec ex).1
theorem rowP_yes {d : Nat → Int32} {s m b : Nat} {A B : Nat → Nat} (hs : s ≤ 7) (s0 : 0 < s) (hm : m ≤ 11) (hd : qP d s m A B) (h : drnE (nbP m b A B)) : drawOK (nbP m b A B) s (rowDr m b A B) := by
  have hg : gph (nbP m b A B) s := near_gph hs hm hd
  unfold rowDr
  rw [if_pos h]
  obtain ⟨G, hG⟩ : ∃ G, G = nbP m b A B := ⟨_, rfl⟩
  rw [← hG] at h hg
  rw [← hG]
  obtain ⟨sg, k⟩ := tLe_good hg.2.2.1 h
  exact ⟨rwL_len _, tLe G, sg, fun i hi => rwL_at _ hi, k.1, k.2.1, gd_at hg (by omega) (by omega) k⟩
theorem near_c {P Q : Nat → Bool} {A B : Nat → Nat} {m : Nat} (h : ∀ i, i < m → P i = Q i) : nearN P A B m = nearN Q A B m := by
  funext u
  refine nb_ext fun v => ?_
  rw [Bool.eq_iff_iff, nearN_bit, nearN_bit]
  exact ⟨fun ⟨i, a, b, c⟩ => ⟨i, a, by rw [← h i a]; exact b, c⟩, fun ⟨i, a, b, c⟩ => ⟨i, a, by rw [h i a]; exact b, c⟩⟩
theorem near_sub {P Q : Nat → Bool} {A B : Nat → Nat} {m : Nat} (h : ∀ i, i < m → P i = true → Q i = true) (x : Nat) (g : gngB (nearN P A B m) x) : gngB (nearN Q A B m) x := by
  obtain ⟨i, a, b, c⟩ := (nearN_bit m).mp g.2
  exact ⟨g.1, (nearN_bit m).mpr ⟨i, a, h i a b, c⟩⟩
theorem rmv_s {nb : Nat → Nat} {a b : Nat} (hs : symB nb) (ne : a ≠ b) : symB (rmvE nb a b) := fun u v hu hv => by
  have t1 := rmvE_t (nb := nb) (u := u) (v := v) ne
  have t2 := rmvE_t (nb := nb) (u := v) (v := u) ne
  have s := hs u v hu hv
  rw [← s] at t2
  have : (rmvE nb a b u).testBit v = true ↔ (rmvE nb a b v).testBit u = true := by
    rw [t1, t2]
    exact ⟨fun w => ⟨w.1, fun y => w.2.2 ⟨y.2, y.1⟩, fun y => w.2.1 ⟨y.2, y.1⟩⟩, fun w => ⟨w.1, fun y => w.2.2 ⟨y.2, y.1⟩, fun y => w.2.1 ⟨y.2, y.1⟩⟩⟩
  exact Bool.eq_iff_iff.mpr this
theorem coS_sub {m : Nat} {A B : Nat → Nat} : ∀ j S i, (coS m A B j S).testBit i = true → S.testBit i = true
  | 0, S, i, h => h
  | j + 1, S, i, h => by
    rw [coS] at h
    by_cases c : S.testBit j = true ∧ ¬ drnE (nbS m A B (nsd S (2 ^ j)))
    · rw [if_pos c] at h
      have := coS_sub j _ i h
      rw [nsd_bit, Bool.and_eq_true] at this
      exact this.1
    · rw [if_neg c] at h
      exact coS_sub j S i h
theorem coS_not {m : Nat} {A B : Nat → Nat} : ∀ j S, ¬ drnE (nbS m A B S) → ¬ drnE (nbS m A B (coS m A B j S))
  | 0, S, h => h
  | j + 1, S, h => by
    rw [coS]
    by_cases c : S.testBit j = true ∧ ¬ drnE (nbS m A B (nsd S (2 ^ j)))
    · rw [if_pos c]
      exact coS_not j _ c.2
    · rw [if_neg c]
      exact coS_not j S h
theorem coS_min {d : Nat → Int32} {s m : Nat} {A B : Nat → Nat} (hs : s ≤ 7) (hm : m ≤ 11) (hd : qP d s m A B) : ∀ k S i, i < k → (coS m A B k S).testBit i = true → drnE (nbS m A B (nsd (coS m A B k S) (2 ^ i)))
  | 0, S, i, h, _ => absurd h (Nat.not_lt_zero i)
  | k + 1, S, i, h, hb => by
    rw [coS] at hb ⊢
    by_cases c : S.testBit k = true ∧ ¬ drnE (nbS m A B (nsd S (2 ^ k)))
    · rw [if_pos c] at hb ⊢
      by_cases e : i = k
      · have := coS_sub k _ i hb
        rw [nsd_bit, nb_pow, e, decide_eq_true rfl] at this
        exact absurd this (by cases S.testBit k <;> decide)
      · exact coS_min hs hm hd k _ i (by omega) hb
    · rw [if_neg c] at hb ⊢
      by_cases e : i = k
      · subst e
        have bi := coS_sub i S i hb
        have dr : drnE (nbS m A B (nsd S (2 ^ i))) := Classical.byContradiction fun x => c ⟨bi, x⟩
        have g1 : gph (nbS m A B (nsd S (2 ^ i))) s := near_gph hs hm hd
        have g2 : gph (nbS m A B (nsd (coS m A B i S) (2 ^ i))) s := near_gph hs hm hd
        refine drn_sub g2.2.1 g1.2.2.1 (fun x gx => near_sub (fun j _ hj => ?_) x gx) dr
        have hj : (nsd (coS m A B i S) (2 ^ i)).testBit j = true := hj
        show (nsd S (2 ^ i)).testBit j = true
        rw [nsd_bit, Bool.and_eq_true] at hj ⊢
        exact ⟨coS_sub i S j hj.1, hj.2⟩
      · exact coS_min hs hm hd k S i (by omega) hb
theorem rowP_no {d : Nat → Int32} {s m b : Nat} {A B : Nat → Nat} (hs : s ≤ 7) (hm : m ≤ 11) (hb : b ≤ 11) (hd : qP d s m A B) (h : ¬ drnE (nbP m b A B)) : coreOK m b A B (rowDr m b A B) := by
  unfold rowDr
  rw [if_neg h]
  have e0 : nbP m b A B = nbS m A B (2 ^ min m b - 1) := near_c (fun i _ => by rw [Nat.testBit_two_pow_sub_one])
  rw [e0] at h
  obtain ⟨T, hT⟩ : ∃ T, T = coS m A B m (2 ^ min m b - 1) := ⟨_, rfl⟩
  have nT := coS_not m _ h
  have mT := coS_min hs hm hd m (2 ^ min m b - 1)
  have sT := coS_sub (m := m) (A := A) (B := B) m (2 ^ min m b - 1)
  rw [← hT] at nT mT sT
  rw [← hT]
  have cT : ∀ i, T.testBit i = true → i < min m b := fun i hi => by
    have := sT i hi
    rw [Nat.testBit_two_pow_sub_one, decide_eq_true_iff] at this
    exact this
  have hg : gph (nbS m A B T) s := near_gph hs hm hd
  obtain ⟨f1, f2, f3⟩ := filL_in (X := fun v => T.testBit v) m
  have len : (rwC m A B T).length = (filL (fun v => T.testBit v) m).length + 1 := List.length_cons
  have at1 : ∀ i, (rwC m A B T).getD (i + 1) 0 = (filL (fun v => T.testBit v) m).getD i 0 := fun i => List.getD_cons_succ
  have kd : kdN (nbS m A B T) = 5 ∨ kdN (nbS m A B T) = 3 := by
    unfold kdN
    split
    · exact Or.inl rfl
    · exact Or.inr rfl
  have rt : ∀ i, i < m → rwTl (rwC m A B T) i = T.testBit i := fun i hi => by
    rw [Bool.eq_iff_iff, rwT_t]
    constructor
    · rintro ⟨j, j1, j2, j3⟩
      obtain ⟨j', rfl⟩ : ∃ j', j = j' + 1 := ⟨j - 1, by omega⟩
      rw [at1] at j3
      obtain ⟨v, v1, v2, v3⟩ := f1 j' (by omega)
      rw [v3] at j3
      have := (nI_eq (by omega) (by omega)).mp j3
      rw [← this]
      exact v2
    · intro hb
      obtain ⟨j, j1, j2⟩ := f2 i hi hb
      exact ⟨j + 1, by omega, by omega, by rw [at1, j2]⟩
  refine ⟨by omega, ⟨kdN (nbS m A B T), kd, rfl, ?_⟩, fun i h1 h2 => ?_, fun i h1 h2 => ?_⟩
  · rw [near_c rt]
    show jcB (nbS m A B T) (kdN (nbS m A B T)) = true
    refine kur_min hg.2.1 hg.2.2.1 (fun u hu => hg.2.2.2.2.1 u (by omega)) hg.2.2.2.1 hg.2.2.2.2.2 nT (fun a c ha hc hac => ?_)
    obtain ⟨i, i1, i2, i3⟩ := (nearN_bit m).mp hac
    have i2 : T.testBit i = true := i2
    have ne : a ≠ c := by
      have := (hd.1 i i1).2.2.2.2
      omega
    have g2 : gph (nbS m A B (nsd T (2 ^ i))) s := near_gph hs hm hd
    refine drn_sub (rmv_s hg.2.1 ne) g2.2.2.1 (fun x gx => ?_) (mT i i1 i2)
    obtain ⟨x1, x2⟩ := gx
    obtain ⟨y1, y2, y3⟩ := (rmvE_t ne).mp x2
    obtain ⟨j, j1, j2, j3⟩ := (nearN_bit m).mp y1
    have j2 : T.testBit j = true := j2
    refine ⟨x1, (nearN_bit m).mpr ⟨j, j1, ?_, j3⟩⟩
    show (nsd T (2 ^ i)).testBit j = true
    rw [nsd_bit, j2, nb_pow, decide_eq_false (fun e => ?_)]
    · rfl
    · subst e
      omega
  · obtain ⟨j, rfl⟩ : ∃ j, i = j + 1 := ⟨i - 1, by omega⟩
    obtain ⟨v, v1, v2, v3⟩ := f1 j (by omega)
    exact ⟨v, cT v v2, by rw [at1, v3]⟩
  · obtain ⟨j, rfl⟩ : ∃ j, i = j + 1 := ⟨i - 1, by omega⟩
    rw [at1, at1]
    exact filL_rise m (by omega) j (by omega)
theorem draw_core {d : Nat → Int32} {s m b : Nat} {A B : Nat → Nat} {xs ys : List Int32} (hs : s ≤ 7) (s0 : 0 < s) (hm : m ≤ 11) (hd : qP d s m A B) (h1 : drawOK (nbP m b A B) s xs) (h2 : coreOK m b A B ys) : False := by
  have hg : gph (nbP m b A B) s := near_gph hs hm hd
  have hg2 : gph (nearN (rwTl ys) A B m) s := near_gph hs hm hd
  obtain ⟨_, t, sg, _, a2, _, a4⟩ := h1
  have dr := w_drn hg (show s - 1 < 7 by omega) (by omega) a2 a4
  obtain ⟨_, ⟨kd, k1, k2, k3⟩, k4, _⟩ := h2
  refine jc_not hg2.2.1 hg2.2.2.1 hg2.2.2.2.2.2 k3 (drn_sub hg2.2.1 hg.2.2.1 (fun x gx => near_sub (fun i hi hr => ?_) x gx) dr)
  obtain ⟨j, j1, j2, j3⟩ := rwT_t.mp hr
  obtain ⟨v, v1, v2⟩ := k4 j j1 j2
  rw [v2] at j3
  have := (nI_eq (by omega) (by omega)).mp j3
  exact decide_eq_true (by omega)
end
