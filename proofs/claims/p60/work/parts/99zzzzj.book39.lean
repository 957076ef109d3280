/-! REDUCTIONS: the left side. -/
section
theorem it_stab1 {G : Nat → Nat} {N S0 a : Nat} (hS : S0 < 2 ^ N) (hb : ∀ S, S < 2 ^ N → G S < 2 ^ N) (hinc : ∀ S i, S < 2 ^ N → S.testBit i = true → (G S).testBit i = true) (ha : S0.testBit a = true) (haN : a < N) : G (it G (N - 1) S0) = it G (N - 1) S0 := by
  have key : ∀ k, G (it G k S0) = it G k S0 ∨ k + 1 ≤ cnt (fun i => (it G k S0).testBit i) N := by
    intro k
    induction k with
    | zero => exact Or.inr (cnt_pos (X := fun i => S0.testBit i) ha haN)
    | succ k ih =>
      have hk := it_lt hS hb k
      by_cases e : G (it G k S0) = it G k S0
      · left
        show G (G (it G k S0)) = G (it G k S0)
        rw [e, e]
      · right
        obtain ⟨i, h1, h2, h3⟩ := nb_diff hk (hb _ hk) (fun i => hinc _ i hk) e
        have := cnt_lt (X := fun i => (it G k S0).testBit i) (Y := fun i => (it G (k + 1) S0).testBit i) (n := N) (fun j _ => hinc _ j hk) h1 h2 h3
        have := ih.resolve_left e
        omega
  rcases key (N - 1) with h | h
  · exact h
  · have hN := it_lt hS hb (N - 1)
    apply nb_ext
    intro i
    by_cases hi : i < N
    · have a := cnt_full (X := fun i => (it G (N - 1) S0).testBit i) (n := N) (by omega) hi
      rw [hinc _ i hN a]
      exact a.symm
    · rw [nb_big (hb _ hN) (by omega), nb_big hN (by omega)]
def nbN (nr : Nat → Nat) (S : Nat) : Nat → Nat
  | 0 => 0
  | k + 1 => if S.testBit k = true then nbN nr S k ||| nr k else nbN nr S k
theorem nbN_bit {nr : Nat → Nat} {S i : Nat} : ∀ n, (nbN nr S n).testBit i = true ↔ ∃ k, k < n ∧ S.testBit k = true ∧ (nr k).testBit i = true
  | 0 => by
    rw [nbN, Nat.zero_testBit]
    exact ⟨fun h => absurd h (by decide), fun ⟨k, h, _⟩ => absurd h (Nat.not_lt_zero k)⟩
  | n + 1 => by
    rw [nbN]
    by_cases h : S.testBit n = true
    · rw [if_pos h, Nat.testBit_or, Bool.or_eq_true, nbN_bit n]
      constructor
      · rintro (⟨k, a, b⟩ | a)
        · exact ⟨k, by omega, b⟩
        · exact ⟨n, by omega, h, a⟩
      · rintro ⟨k, a, b, c⟩
        by_cases e : k = n
        · subst e
          exact Or.inr c
        · exact Or.inl ⟨k, by omega, b, c⟩
    · rw [if_neg h, nbN_bit n]
      constructor
      · rintro ⟨k, a, b⟩
        exact ⟨k, by omega, b⟩
      · rintro ⟨k, a, b, c⟩
        by_cases e : k = n
        · subst e
          exact absurd b h
        · exact ⟨k, by omega, b, c⟩
theorem nbN_lt {nr : Nat → Nat} {S N : Nat} (h : ∀ v, nr v < 2 ^ N) (n : Nat) : nbN nr S n < 2 ^ N := nb_lt fun i hi => by
  cases e : (nbN nr S n).testBit i with
  | false => rfl
  | true =>
    obtain ⟨k, _, _, c⟩ := (nbN_bit n).mp e
    rw [nb_big (h k) hi] at c
    exact c.symm
def lfR (nr : Nat → Nat) : Nat → Nat × Nat → Nat × Nat
  | 0, p => p
  | r + 1, p => ((lfR nr r p).1 ||| nbN nr ((lfR nr r p).2 ||| nbN nr (lfR nr r p).1 9) 9, (lfR nr r p).2 ||| nbN nr (lfR nr r p).1 9)
def lfA (nr : Nat → Nat) (s : Nat) : Nat → Nat × Nat
  | 0 => (0, 0)
  | j + 1 => lfR nr s (if ((lfA nr s j).1 ||| (lfA nr s j).2).testBit j = true then lfA nr s j else ((lfA nr s j).1 ||| 2 ^ j, (lfA nr s j).2))
theorem or_t {a b : Nat} {i : Nat} : (a ||| b).testBit i = true ↔ a.testBit i = true ∨ b.testBit i = true := by
  rw [Nat.testBit_or, Bool.or_eq_true]
theorem lfR_lt {nr : Nat → Nat} {N : Nat} {p : Nat × Nat} (h : ∀ v, nr v < 2 ^ N) (h1 : p.1 < 2 ^ N) (h2 : p.2 < 2 ^ N) : ∀ r, (lfR nr r p).1 < 2 ^ N ∧ (lfR nr r p).2 < 2 ^ N
  | 0 => ⟨h1, h2⟩
  | r + 1 => ⟨nb_or_lt (lfR_lt h h1 h2 r).1 (nbN_lt h 9), nb_or_lt (lfR_lt h h1 h2 r).2 (nbN_lt h 9)⟩
theorem lfR_inc {nr : Nat → Nat} {p : Nat × Nat} {i : Nat} : ∀ r, (p.1.testBit i = true → (lfR nr r p).1.testBit i = true) ∧ (p.2.testBit i = true → (lfR nr r p).2.testBit i = true)
  | 0 => ⟨fun h => h, fun h => h⟩
  | r + 1 => ⟨fun h => or_t.mpr (Or.inl ((lfR_inc r).1 h)), fun h => or_t.mpr (Or.inl ((lfR_inc r).2 h))⟩
theorem lfA_lt {nr : Nat → Nat} {s : Nat} (h : ∀ v, nr v < 2 ^ s) : ∀ j, j ≤ s → (lfA nr s j).1 < 2 ^ s ∧ (lfA nr s j).2 < 2 ^ s
  | 0, _ => ⟨Nat.two_pow_pos s, Nat.two_pow_pos s⟩
  | j + 1, hj => by
    obtain ⟨h1, h2⟩ := lfA_lt h j (by omega)
    rw [lfA]
    by_cases c : ((lfA nr s j).1 ||| (lfA nr s j).2).testBit j = true
    · rw [if_pos c]
      exact lfR_lt h h1 h2 s
    · rw [if_neg c]
      exact lfR_lt (p := ((lfA nr s j).1 ||| 2 ^ j, (lfA nr s j).2)) h (nb_or_lt h1 (nb_p2 (show j < s by omega))) h2 s
theorem lfA_all {nr : Nat → Nat} {s v : Nat} : ∀ j, v < j → (lfA nr s j).1.testBit v = true ∨ (lfA nr s j).2.testBit v = true
  | 0, h => absurd h (Nat.not_lt_zero _)
  | j + 1, hv => by
    rw [lfA]
    by_cases c : ((lfA nr s j).1 ||| (lfA nr s j).2).testBit j = true
    · rw [if_pos c]
      have : (lfA nr s j).1.testBit v = true ∨ (lfA nr s j).2.testBit v = true := by
        by_cases e : v = j
        · rw [e]
          exact or_t.mp c
        · exact lfA_all j (by omega)
      exact this.imp (lfR_inc s).1 (lfR_inc s).2
    · rw [if_neg c]
      by_cases e : v = j
      · refine Or.inl ((lfR_inc s).1 (or_t.mpr (Or.inr ?_)))
        rw [nb_pow]
        exact decide_eq_true e.symm
      · exact (lfA_all j (by omega)).imp (fun z => (lfR_inc s).1 (or_t.mpr (Or.inl z))) (fun z => (lfR_inc s).2 z)
/-- after as many rounds as nodes nothing comes any more -/
theorem lfR_fix {nr : Nat → Nat} {s a : Nat} {p : Nat × Nat} (hs : s ≤ 9) (h : ∀ v, nr v < 2 ^ s) (h1 : p.1 < 2 ^ s) (h2 : p.2 < 2 ^ s) (ha : p.1.testBit a = true) (has : a < s) : (∀ u w, (lfR nr s p).1.testBit u = true → (nr u).testBit w = true → (lfR nr s p).2.testBit w = true) ∧ (∀ u w, (lfR nr s p).2.testBit u = true → (nr u).testBit w = true → (lfR nr s p).1.testBit w = true) := by
  obtain ⟨G, hG⟩ : ∃ G : Nat → Nat, ∀ L, G L = L ||| nbN nr (p.2 ||| nbN nr L 9) 9 := ⟨_, fun _ => rfl⟩
  have mono : ∀ (L M : Nat), (∀ i, L.testBit i = true → M.testBit i = true) → ∀ i, (nbN nr L 9).testBit i = true → (nbN nr M 9).testBit i = true := fun L M hl i hi => by
    obtain ⟨k, k1, k2, k3⟩ := (nbN_bit 9).mp hi
    exact (nbN_bit 9).mpr ⟨k, k1, hl k k2, k3⟩
  have R1 : ∀ k, (lfR nr (k + 1) p).2 = p.2 ||| nbN nr (lfR nr k p).1 9 := by
    intro k
    induction k with
    | zero => rfl
    | succ k ih =>
      show (lfR nr (k + 1) p).2 ||| nbN nr (lfR nr (k + 1) p).1 9 = _
      rw [ih]
      apply nb_ext
      intro i
      rw [Bool.eq_iff_iff, or_t, or_t, or_t]
      constructor
      · rintro ((x | x) | x)
        · exact Or.inl x
        · exact Or.inr (mono _ _ (fun j hj => or_t.mpr (Or.inl hj)) i x)
        · exact Or.inr x
      · rintro (x | x)
        · exact Or.inl (Or.inl x)
        · exact Or.inr x
  have L1 : ∀ k, (lfR nr k p).1 = it G k p.1 := by
    intro k
    induction k with
    | zero => rfl
    | succ k ih =>
      have e : (lfR nr (k + 1) p).1 = (lfR nr k p).1 ||| nbN nr (lfR nr (k + 1) p).2 9 := rfl
      rw [e, R1 k]
      show _ = G (it G k p.1)
      rw [hG, ih]
  have bG : ∀ S, S < 2 ^ s → G S < 2 ^ s := fun S hS => by
    rw [hG]
    exact nb_or_lt hS (nbN_lt h 9)
  have st := it_stab1 h1 bG (fun S i _ hi => by rw [hG]; exact or_t.mpr (Or.inl hi)) ha has
  obtain ⟨t, rfl⟩ : ∃ t, s = t + 1 := ⟨s - 1, by omega⟩
  rw [Nat.add_sub_cancel] at st
  have eL : (lfR nr (t + 1) p).1 = (lfR nr t p).1 := by
    rw [L1, L1]
    exact st
  have b9 : ∀ S, S < 2 ^ (t + 1) → ∀ u, S.testBit u = true → u < 9 := fun S hS u hu => by
    rcases Nat.lt_or_ge u (t + 1) with z | z
    · omega
    · rw [nb_big hS z] at hu
      cases hu
  have lt := lfR_lt h h1 h2 (t + 1)
  refine ⟨fun u w hu hw => ?_, fun u w hu hw => ?_⟩
  · rw [R1 t, ← eL]
    exact or_t.mpr (Or.inr ((nbN_bit 9).mpr ⟨u, b9 _ lt.1 u hu, hu, hw⟩))
  · have e : (lfR nr (t + 1) p).1 = (lfR nr t p).1 ||| nbN nr (lfR nr (t + 1) p).2 9 := rfl
    rw [e]
    exact or_t.mpr (Or.inr ((nbN_bit 9).mpr ⟨u, b9 _ lt.2 u hu, hu, hw⟩))
theorem lf_ok {m s : Nat} {A B : Nat → Nat} (hs : s ≤ 9) (h0 : 0 < s) (hA : ∀ j, j < m → A j < s ∧ B j < s ∧ A j ≠ B j) (hd : (lfA (nrA m A B) s s).1 &&& (lfA (nrA m A B) s s).2 = 0) : ∀ j, j < m → A j < s ∧ B j < s ∧ A j ≠ B j ∧ (lfA (nrA m A B) s s).1.testBit (A j) ≠ (lfA (nrA m A B) s s).1.testBit (B j) := by
  have hn : ∀ v, nrA m A B v < 2 ^ s := fun v => nearN_lt (fun i hi => ⟨(hA i hi).1, (hA i hi).2.1⟩)
  have all := fun v (hv : v < s) => lfA_all (nr := nrA m A B) (s := s) (v := v) s hv
  have dis : ∀ v, (lfA (nrA m A B) s s).1.testBit v = true → (lfA (nrA m A B) s s).2.testBit v = true → False := fun v a b => by
    have : ((lfA (nrA m A B) s s).1 &&& (lfA (nrA m A B) s s).2).testBit v = true := by rw [Nat.testBit_and, a, b]; rfl
    rw [hd, Nat.zero_testBit] at this
    cases this
  obtain ⟨t, rfl⟩ : ∃ t, s = t + 1 := ⟨s - 1, by omega⟩
  have lt := lfA_lt hn t (by omega)
  have fx : (∀ u w, (lfA (nrA m A B) (t + 1) (t + 1)).1.testBit u = true → (nrA m A B u).testBit w = true → (lfA (nrA m A B) (t + 1) (t + 1)).2.testBit w = true) ∧ (∀ u w, (lfA (nrA m A B) (t + 1) (t + 1)).2.testBit u = true → (nrA m A B u).testBit w = true → (lfA (nrA m A B) (t + 1) (t + 1)).1.testBit w = true) := by
    have in1 : ∃ a, a < t + 1 ∧ (if ((lfA (nrA m A B) (t + 1) t).1 ||| (lfA (nrA m A B) (t + 1) t).2).testBit t = true then lfA (nrA m A B) (t + 1) t else ((lfA (nrA m A B) (t + 1) t).1 ||| 2 ^ t, (lfA (nrA m A B) (t + 1) t).2)).1.testBit a = true := by
      have first : ∀ j, (lfA (nrA m A B) (t + 1) (j + 1)).1.testBit 0 = true := fun j => by
        induction j with
        | zero =>
          refine (lfR_inc (t + 1)).1 ?_
          rw [show lfA (nrA m A B) (t + 1) 0 = (0, 0) from rfl, if_neg (by decide)]
          decide
        | succ j ih =>
          rw [lfA]
          refine (lfR_inc (t + 1)).1 ?_
          split
          · exact ih
          · exact or_t.mpr (Or.inl ih)
      by_cases c : ((lfA (nrA m A B) (t + 1) t).1 ||| (lfA (nrA m A B) (t + 1) t).2).testBit t = true
      · rw [if_pos c]
        cases t with
        | zero =>
          rw [show lfA (nrA m A B) (0 + 1) 0 = (0, 0) from rfl] at c
          exact absurd c (by decide)
        | succ t => exact ⟨0, by omega, first t⟩
      · rw [if_neg c]
        refine ⟨t, by omega, or_t.mpr (Or.inr ?_)⟩
        rw [nb_pow]
        exact decide_eq_true rfl
    obtain ⟨a, a1, a2⟩ := in1
    rw [lfA]
    refine lfR_fix hs hn ?_ ?_ a2 a1
    · split
      · exact lt.1
      · exact nb_or_lt lt.1 (nb_p2 (by omega))
    · split
      · exact lt.2
      · exact lt.2
  intro j hj
  obtain ⟨a1, a2, a3⟩ := hA j hj
  refine ⟨a1, a2, a3, fun e => ?_⟩
  have ab : (nrA m A B (A j)).testBit (B j) = true := (nearN_bit m).mpr ⟨j, hj, rfl, Or.inl ⟨rfl, rfl⟩⟩
  cases c : (lfA (nrA m A B) (t + 1) (t + 1)).1.testBit (A j) with
  | true =>
    rw [c] at e
    exact dis _ e.symm (fx.1 _ _ c ab)
  | false =>
    rw [c] at e
    have r := (all _ a1).resolve_left (by rw [c]; decide)
    rw [fx.2 _ _ r ab] at e
    cases e
theorem T_nbOf {F S : Nat} {nr : Nat → Nat} {V : mV} (hF : 64 ≤ F) (hn : ∀ v, v < 9 → V.rI 18 v = nI (nr v)) (hb : ∀ v, nr v < 2 ^ 9) (hS : S < 2 ^ 9) : mX4_neighboursOf F (nI S) V = some (nI (nbN nr S 9)) := by
  have go : ∀ k' j, 9 < j + k' → j ≤ 9 → mTo (mX4_neighboursOf_go F k' 0 (nI S) (nI (nbN nr S j)) (nI j) V) (fun v => v = nI (nbN nr S 9)) := by
    intro k'
    induction k' with
    | zero => intro j h1 h2; omega
    | succ k' ih =>
      intro j h1 h2
      rw [mX4_neighboursOf_go, if_pos rfl]
      unfold mX4_neighboursOf_b0
      refine mTo.le (a := 9) rfl rfl (by decide) (by omega) (fun z => ?_) (fun z => ?_)
      · have e : j = 9 := by omega
        rw [e]
        exact mTo.ret rfl
      · have ih := ih (j + 1) (by omega) (by omega)
        refine mTo.hs rfl rfl (by omega) (by omega) (fun c => mTo.lt ?_) (fun c => ?_)
        · rw [nI_1]
          rw [nbN, if_neg (by rw [c]; decide)] at ih
          exact ih
        · refine mTo.ix rfl z (by decide) (mTo.lt (mTo.lt ?_))
          rw [nI_clamp (by omega), hn j z, nb_or, nI_1]
          rw [nbN, if_pos c] at ih
          exact ih
  unfold mX4_neighboursOf mX4_neighboursOf_s
  obtain ⟨v, e, q⟩ := go F 0 (by omega) (by omega)
  rw [q] at e
  exact e
theorem T_leftSide {F e s m : Nat} {b : Int32} {d : Nat → Int32} {A B : Nat → Nat} {V : mV} (hF : 2 ^ 22 ≤ F) (he : 256 ≤ e) (hs : s ≤ 9) (hm : m ≤ 16) (hq : enQ V e s m b d) (hd : ∀ i, i < m → d (5 * i) = nI (A i) ∧ d (5 * i + 1) = nI (B i) ∧ A i < s ∧ B i < s) : mTo (mX4_leftSide F e V) (fun p => (p.1 = if (lfA (nrA m A B) s s).1 &&& (lfA (nrA m A B) s s).2 = 0 then nI (lfA (nrA m A B) s s).1 else -1) ∧ mAv (fun i => i = 18) V p.2) := by
  obtain ⟨q1, q2, q3, q4⟩ := hq
  have hns : ∀ v, nrA m A B v < 2 ^ s := fun v => nearN_lt (fun i hi => ⟨(hd i hi).2.2.1, (hd i hi).2.2.2⟩)
  have s9 : (2 : Nat) ^ s ≤ 2 ^ 9 := Nat.pow_le_pow_right (by decide) hs
  have hn9 : ∀ v, nrA m A B v < 2 ^ 9 := fun v => Nat.lt_of_lt_of_le (hns v) s9
  unfold mX4_leftSide mX4_leftSide_s
  refine mTo.W (T_fillNear (P := fun _ => true) (A := A) (B := B) (N := 9) (m := m) (by omega) (by omega) rfl (by decide) hm q2 (fun i hi => ⟨by rw [q4 _ (by omega)]; exact (hd i hi).1, by rw [q4 _ (by omega)]; exact (hd i hi).2.1⟩) (fun i hi => ⟨by have := (hd i hi).2.2.1; omega, by have := (hd i hi).2.2.2; omega⟩) (fun i hi => by rw [nb_hasM (by omega), if_pos rfl]) (by omega)) (fun _ V1 _ h => ?_)
  obtain ⟨n1, f1⟩ := h
  have n1 : ∀ v, v < 9 → V1.rI 18 v = nI (nrA m A B v) := n1
  have f1 : mAv (fun i => i = 18) V V1 := f1
  have s1 : V1.fI e 1 = nI s := by rw [(f1.1 e (by omega)).1, q1]
  have go : ∀ k', (∀ j, (s - j) * 12 + 1 ≤ k' → j ≤ s → mTo (mX4_leftSide_go F k' 0 e (nI (lfA (nrA m A B) s j).1) (nI (lfA (nrA m A B) s j).2) (nI j) 0 V1) (fun p => (p.1 = if (lfA (nrA m A B) s s).1 &&& (lfA (nrA m A B) s s).2 = 0 then nI (lfA (nrA m A B) s s).1 else -1) ∧ mAv (fun i => i = 18) V p.2)) ∧ (∀ j r, (s - (j + 1)) * 12 + (s - r) + 2 ≤ k' → j < s → r ≤ s → ∀ p, p.1 < 2 ^ s → p.2 < 2 ^ s → lfA (nrA m A B) s (j + 1) = lfR (nrA m A B) s p → mTo (mX4_leftSide_go F k' 1 e (nI (lfR (nrA m A B) r p).1) (nI (lfR (nrA m A B) r p).2) (nI j) (nI r) V1) (fun p => (p.1 = if (lfA (nrA m A B) s s).1 &&& (lfA (nrA m A B) s s).2 = 0 then nI (lfA (nrA m A B) s s).1 else -1) ∧ mAv (fun i => i = 18) V p.2)) := by
    intro k'
    induction k' with
    | zero => exact ⟨fun j h => by omega, fun j r h => by omega⟩
    | succ k' ih =>
      obtain ⟨ih0, ih1⟩ := ih
      refine ⟨fun j hk hj => ?_, fun j r hk hj hr p p1 p2 hp => ?_⟩
      · have lt := lfA_lt hns j hj
        rw [mX4_leftSide_go, if_pos rfl]
        unfold mX4_leftSide_b0
        refine mTo.le s1 rfl (by omega) (by omega) (fun z => ?_) (fun z => ?_)
        · have e : j = s := by omega
          subst e
          rw [nb_and]
          have la : (lfA (nrA m A B) j j).1 &&& (lfA (nrA m A B) j j).2 < 2 ^ j := nb_and_lt lt.1
          refine mTo.eqI rfl rfl (by omega) (b := 0) (by decide) (fun z => mTo.ret ⟨by rw [if_pos z], f1⟩) (fun z => mTo.ret ⟨by rw [if_neg z], f1⟩)
        · rw [nb_or]
          have lo := nb_or_lt lt.1 lt.2
          refine mTo.hs rfl rfl (by omega) (by omega) (fun c => mTo.lt ?_) (fun c => ?_)
          · rw [nb_one (by omega), nb_or]
            exact ih1 j 0 (by omega) z (Nat.zero_le _) ((lfA (nrA m A B) s j).1 ||| 2 ^ j, (lfA (nrA m A B) s j).2) (nb_or_lt lt.1 (nb_p2 z)) lt.2 (by rw [lfA, if_neg (by rw [c]; decide)])
          · exact ih1 j 0 (by omega) z (Nat.zero_le _) (lfA (nrA m A B) s j) lt.1 lt.2 (by rw [lfA, if_pos c])
      · have lt := lfR_lt hns p1 p2 r
        rw [mX4_leftSide_go, if_neg (by decide), if_pos rfl]
        unfold mX4_leftSide_b1
        refine mTo.le s1 rfl (by omega) (by omega) (fun z => ?_) (fun z => ?_)
        · have e : r = s := by omega
          subst e
          rw [nI_1, ← hp]
          exact mTo.lt (ih0 (j + 1) (by omega) (by omega))
        · refine T_iN (T_nbOf (by omega) n1 hn9 (by omega)) (mTo.lt ?_)
          rw [nb_or]
          have l2 : (lfR (nrA m A B) r p).2 ||| nbN (nrA m A B) (lfR (nrA m A B) r p).1 9 < 2 ^ s := nb_or_lt lt.2 (nbN_lt hns 9)
          refine T_iN (T_nbOf (by omega) n1 hn9 (by omega)) (mTo.lt (mTo.lt ?_))
          rw [nb_or, nI_1]
          exact ih1 j (r + 1) (by omega) hj (by omega) p p1 p2 hp
  exact (go F).1 0 (by omega) (Nat.zero_le _)
end
