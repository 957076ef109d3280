/-! THE PURE PART, machines: states that no word tells apart (no machine of ours in it). -/
section
def rl (Z O Fi : Nat → Nat) : Nat → Nat → Nat → Bool
  | 0, _, _ => true
  | k + 1, a, b => decide (Fi a = Fi b) && rl Z O Fi k (Z a) (Z b) && rl Z O Fi k (O a) (O b)
theorem rl_iff {Z O Fi : Nat → Nat} {k a b : Nat} : rl Z O Fi (k + 1) a b = true ↔ Fi a = Fi b ∧ rl Z O Fi k (Z a) (Z b) = true ∧ rl Z O Fi k (O a) (O b) = true := by
  rw [rl, Bool.and_eq_true, Bool.and_eq_true, decide_eq_true_eq, and_assoc]
theorem rl_rf {Z O Fi : Nat → Nat} : ∀ k a, rl Z O Fi k a a = true
  | 0, _ => rfl
  | k + 1, a => rl_iff.mpr ⟨rfl, rl_rf k _, rl_rf k _⟩
theorem rl_sy {Z O Fi : Nat → Nat} : ∀ k {a b}, rl Z O Fi k a b = true → rl Z O Fi k b a = true
  | 0, _, _, _ => rfl
  | k + 1, a, b, h => by
    obtain ⟨h1, h2, h3⟩ := rl_iff.mp h
    exact rl_iff.mpr ⟨h1.symm, rl_sy k h2, rl_sy k h3⟩
theorem rl_tr {Z O Fi : Nat → Nat} : ∀ k {a b c}, rl Z O Fi k a b = true → rl Z O Fi k b c = true → rl Z O Fi k a c = true
  | 0, _, _, _, _, _ => rfl
  | k + 1, a, b, c, h, g => by
    obtain ⟨h1, h2, h3⟩ := rl_iff.mp h
    obtain ⟨g1, g2, g3⟩ := rl_iff.mp g
    exact rl_iff.mpr ⟨h1.trans g1, rl_tr k h2 g2, rl_tr k h3 g3⟩
theorem rl_dn {Z O Fi : Nat → Nat} : ∀ k {a b}, rl Z O Fi (k + 1) a b = true → rl Z O Fi k a b = true
  | 0, _, _, _ => rfl
  | k + 1, a, b, h => by
    obtain ⟨h1, h2, h3⟩ := rl_iff.mp h
    exact rl_iff.mpr ⟨h1, rl_dn k h2, rl_dn k h3⟩
theorem rl_dn2 {Z O Fi : Nat → Nat} {k a b : Nat} : ∀ t, rl Z O Fi (k + t) a b = true → rl Z O Fi k a b = true
  | 0, h => h
  | t + 1, h => rl_dn2 t (rl_dn (k + t) h)
/-- the lowest of each part -/
def rp (Z O Fi : Nat → Nat) (k a : Nat) : Bool := decide (cnt (fun b => rl Z O Fi k b a) a = 0)
theorem rp_iff {Z O Fi : Nat → Nat} {k a : Nat} : rp Z O Fi k a = true ↔ ∀ b, b < a → rl Z O Fi k b a = false := by
  unfold rp
  rw [decide_eq_true_eq]
  constructor
  · intro h b hb
    cases e : rl Z O Fi k b a with
    | false => rfl
    | true =>
      have := cnt_pos (X := fun b => rl Z O Fi k b a) e hb
      omega
  · intro h
    exact cnt_0 a h
theorem rp_ex {Z O Fi : Nat → Nat} {k : Nat} : ∀ n a, a < n → ∃ r, r ≤ a ∧ rl Z O Fi k r a = true ∧ rp Z O Fi k r = true := by
  intro n
  induction n with
  | zero => intro a h; omega
  | succ n ih =>
    intro a ha
    by_cases h : rp Z O Fi k a = true
    · exact ⟨a, Nat.le_refl _, rl_rf k a, h⟩
    · have : ¬ ∀ b, b < a → rl Z O Fi k b a = false := fun z => h (rp_iff.mpr z)
      have : ∃ b, b < a ∧ rl Z O Fi k b a = true := Classical.byContradiction fun z => this (fun b hb => by
        cases e : rl Z O Fi k b a with
        | false => rfl
        | true => exact absurd ⟨b, hb, e⟩ z)
      obtain ⟨b, b1, b2⟩ := this
      obtain ⟨r, r1, r2, r3⟩ := ih b (by omega)
      exact ⟨r, by omega, rl_tr k r2 b2, r3⟩
theorem rp_grow {Z O Fi : Nat → Nat} {s k a b : Nat} (ha : a < s) (hb : b < s) (h : rl Z O Fi k a b = true) (h' : rl Z O Fi (k + 1) a b = false) : cnt (rp Z O Fi k) s < cnt (rp Z O Fi (k + 1)) s := by
  have mono : ∀ j, rp Z O Fi k j = true → rp Z O Fi (k + 1) j = true := fun j hj => rp_iff.mpr fun i hi => by
    cases e : rl Z O Fi (k + 1) i j with
    | false => rfl
    | true =>
      have := rp_iff.mp hj i hi
      rw [rl_dn k e] at this
      exact absurd this (by decide)
  obtain ⟨r, r1, r2, r3⟩ := rp_ex (Z := Z) (O := O) (Fi := Fi) (k := k) (a + 1) a (by omega)
  have key : ∃ x, x < s ∧ rl Z O Fi k r x = true ∧ rl Z O Fi (k + 1) r x = false := by
    cases e : rl Z O Fi (k + 1) r a with
    | false => exact ⟨a, ha, r2, e⟩
    | true =>
      refine ⟨b, hb, rl_tr k r2 h, ?_⟩
      cases e2 : rl Z O Fi (k + 1) r b with
      | false => rfl
      | true =>
        rw [rl_tr (k + 1) (rl_sy (k + 1) e) e2] at h'
        exact h'
  obtain ⟨x, x1, x2, x3⟩ := key
  obtain ⟨m, m1, m2, m3⟩ := rp_ex (Z := Z) (O := O) (Fi := Fi) (k := k + 1) (x + 1) x (by omega)
  refine cnt_lt (fun j _ => mono j) (show m < s by omega) ?_ m3
  cases e : rp Z O Fi k m with
  | false => rfl
  | true =>
    have rm : rl Z O Fi k r m = true := rl_tr k x2 (rl_sy k (rl_dn k m2))
    rcases Nat.lt_trichotomy r m with z | z | z
    · have := rp_iff.mp e r z
      rw [rm] at this
      exact this
    · rw [← z, x3] at m2
      exact m2.symm
    · have := rp_iff.mp r3 m z
      rw [rl_sy k rm] at this
      exact this
theorem rl_rest {Z O Fi : Nat → Nat} {s k : Nat} (hZ : ∀ i, i < s → Z i < s ∧ O i < s) (h : ∀ a b, a < s → b < s → rl Z O Fi k a b = true → rl Z O Fi (k + 1) a b = true) : ∀ t a b, a < s → b < s → rl Z O Fi k a b = true → rl Z O Fi (k + t) a b = true
  | 0, _, _, _, _, g => g
  | t + 1, a, b, ha, hb, g => by
    obtain ⟨g1, g2, g3⟩ := rl_iff.mp (h a b ha hb g)
    exact rl_iff.mpr ⟨g1, rl_rest hZ h t _ _ (hZ a ha).1 (hZ b hb).1 g2, rl_rest hZ h t _ _ (hZ a ha).2 (hZ b hb).2 g3⟩
theorem rl_9 {Z O Fi : Nat → Nat} {s : Nat} (hs : s ≤ 8) (hZ : ∀ i, i < s → Z i < s ∧ O i < s) : ∀ a b, a < s → b < s → rl Z O Fi 9 a b = true → rl Z O Fi 10 a b = true := by
  have key : ∀ k, k ≤ 9 → (∃ j, j < k ∧ ∀ a b, a < s → b < s → rl Z O Fi j a b = true → rl Z O Fi (j + 1) a b = true) ∨ k ≤ cnt (rp Z O Fi k) s := by
    intro k
    induction k with
    | zero => exact fun _ => Or.inr (Nat.zero_le _)
    | succ k ih =>
      intro hk
      rcases ih (by omega) with ⟨j, j1, j2⟩ | h
      · exact Or.inl ⟨j, by omega, j2⟩
      · rcases Classical.em (∀ a b, a < s → b < s → rl Z O Fi k a b = true → rl Z O Fi (k + 1) a b = true) with z | z
        · exact Or.inl ⟨k, by omega, z⟩
        · right
          have : ∃ a b, a < s ∧ b < s ∧ rl Z O Fi k a b = true ∧ rl Z O Fi (k + 1) a b = false := Classical.byContradiction fun y => z (fun a b ha hb g => by
            cases e : rl Z O Fi (k + 1) a b with
            | true => rfl
            | false => exact absurd ⟨a, b, ha, hb, g, e⟩ y)
          obtain ⟨a, b, ha, hb, g1, g2⟩ := this
          have := rp_grow ha hb g1 g2
          omega
  intro a b ha hb h
  rcases key 9 (Nat.le_refl _) with ⟨j, j1, j2⟩ | z
  · have h1 := rl_dn2 (k := j) (9 - j) (by rw [show j + (9 - j) = 9 by omega]; exact h)
    have h2 := rl_rest hZ j2 (10 - j) a b ha hb h1
    rw [show j + (10 - j) = 10 by omega] at h2
    exact h2
  · have := cnt_n (X := rp Z O Fi 9) s
    omega
/-- the length (plus 1) of the shortest word that tells them apart, among those below K; 0: none -/
def tn (Z O Fi : Nat → Nat) : Nat → Nat → Nat → Nat
  | 0, _, _ => 0
  | K + 1, a, b => if tn Z O Fi K a b ≠ 0 then tn Z O Fi K a b else if rl Z O Fi (K + 1) a b = false then K + 1 else 0
theorem tn_0 {Z O Fi : Nat → Nat} : ∀ K {a b}, tn Z O Fi K a b = 0 ↔ rl Z O Fi K a b = true
  | 0, _, _ => ⟨fun _ => rfl, fun _ => rfl⟩
  | K + 1, a, b => by
    have ih := tn_0 (Z := Z) (O := O) (Fi := Fi) K (a := a) (b := b)
    rw [tn]
    by_cases h : tn Z O Fi K a b = 0
    · rw [if_neg (fun z => z h)]
      cases e : rl Z O Fi (K + 1) a b with
      | true => rw [if_neg (by decide)]; exact ⟨fun _ => rfl, fun _ => rfl⟩
      | false => rw [if_pos rfl]; exact ⟨fun z => absurd z (Nat.succ_ne_zero _), fun z => absurd z (by decide)⟩
    · rw [if_pos h]
      exact ⟨fun z => absurd z h, fun z => absurd (ih.mpr (rl_dn K z)) h⟩
theorem tn_le {Z O Fi : Nat → Nat} : ∀ K {a b}, tn Z O Fi K a b ≤ K
  | 0, _, _ => Nat.le_refl _
  | K + 1, a, b => by
    have ih := tn_le (Z := Z) (O := O) (Fi := Fi) K (a := a) (b := b)
    rw [tn]
    by_cases h : tn Z O Fi K a b ≠ 0
    · rw [if_pos h]
      omega
    · rw [if_neg h]
      by_cases e : rl Z O Fi (K + 1) a b = false
      · rw [if_pos e]
        exact Nat.le_refl _
      · rw [if_neg e]
        omega
theorem tn_st {Z O Fi : Nat → Nat} {K a b : Nat} (h : tn Z O Fi K a b ≠ 0) : ∀ t, tn Z O Fi (K + t) a b = tn Z O Fi K a b
  | 0 => rfl
  | t + 1 => by
    show tn Z O Fi (K + t + 1) a b = _
    rw [tn, tn_st h t, if_pos h]
/-- the value is K + 1 just when the two are told apart at K, not before -/
theorem tn_eq {Z O Fi : Nat → Nat} {K L a b : Nat} (hL : K < L) : tn Z O Fi L a b = K + 1 ↔ rl Z O Fi K a b = true ∧ rl Z O Fi (K + 1) a b = false := by
  have at1 : tn Z O Fi (K + 1) a b = K + 1 ↔ rl Z O Fi K a b = true ∧ rl Z O Fi (K + 1) a b = false := by
    rw [tn]
    by_cases h : tn Z O Fi K a b = 0
    · rw [if_neg (fun z => z h)]
      have := (tn_0 K).mp h
      by_cases e : rl Z O Fi (K + 1) a b = false
      · rw [if_pos e]
        exact ⟨fun _ => ⟨this, e⟩, fun _ => rfl⟩
      · rw [if_neg e]
        exact ⟨fun z => absurd z.symm (Nat.succ_ne_zero _), fun z => absurd z.2 e⟩
    · rw [if_pos h]
      have := tn_le (Z := Z) (O := O) (Fi := Fi) K (a := a) (b := b)
      exact ⟨fun z => by omega, fun z => absurd ((tn_0 K).mpr z.1) h⟩
  rw [← at1]
  by_cases h : tn Z O Fi (K + 1) a b = 0
  · constructor
    · intro z
      exfalso
      have key : ∀ t, tn Z O Fi (K + 1 + t) a b = 0 ∨ K + 1 < tn Z O Fi (K + 1 + t) a b := fun t => by
        induction t with
        | zero => exact Or.inl h
        | succ t ih =>
          show tn Z O Fi (K + 1 + t + 1) a b = 0 ∨ K + 1 < tn Z O Fi (K + 1 + t + 1) a b
          rw [tn]
          rcases ih with q | q
          · rw [if_neg (fun y => y q)]
            by_cases e : rl Z O Fi (K + 1 + t + 1) a b = false
            · rw [if_pos e]
              right
              omega
            · rw [if_neg e]
              exact Or.inl rfl
          · rw [if_pos (by omega)]
            exact Or.inr q
      have := key (L - (K + 1))
      rw [show K + 1 + (L - (K + 1)) = L by omega] at this
      omega
    · intro z
      omega
  · rw [← tn_st h (L - (K + 1)), show K + 1 + (L - (K + 1)) = L by omega]
/-- the question of machines -/
def qA (d : Nat → Int32) (m s : Nat) (Z O Fi : Nat → Nat) : Prop := ∀ i, i < s → (i < m → d (5 * i) = nI (Z i) ∧ d (5 * i + 1) = nI (O i) ∧ d (5 * i + 2) = nI (Fi i)) ∧ (m ≤ i → Z i = i ∧ O i = i ∧ Fi i = 0) ∧ Z i < s ∧ O i < s ∧ Fi i ≤ 1
def mcS (V : mV) (s : Nat) (Z O Fi : Nat → Nat) : Prop := V.fI 8 7 = nI s ∧ ∀ i, i < s → V.rI 84 i = nI (Z i) ∧ V.rI 85 i = nI (O i) ∧ V.rI 86 i = nI (Fi i)
/-- by a row of 0 and 1 -/
def wlk (Z O : Nat → Nat) (xs : List Int32) (a : Nat) : Nat → Nat
  | 0 => a
  | j + 1 => if xs.getD j 0 = 0 then Z (wlk Z O xs a j) else O (wlk Z O xs a j)
def likeOK (s : Nat) (Z O Fi : Nat → Nat) (q : Nat) (xs : List Int32) : Prop := (xs.length = s ∧ inRow xs s) ∧ (∀ a b, a < s → b < a → pX xs a = pX xs b → Fi a = Fi b) ∧ (∀ a b, a < s → b < a → pX xs a = pX xs b → pX xs (Z a) = pX xs (Z b) ∧ pX xs (O a) = pX xs (O b)) ∧ pX xs 0 = pX xs q
def lettOK (Z O Fi : Nat → Nat) (q : Nat) (xs : List Int32) : Prop := inRow xs 2 ∧ Fi (wlk Z O xs 0 xs.length) ≠ Fi (wlk Z O xs q xs.length)
theorem like_lett {s q : Nat} {Z O Fi : Nat → Nat} {xs ys : List Int32} (hZ : ∀ i, i < s → Z i < s ∧ O i < s) (h0 : 0 < s) (hq : q < s) (h1 : likeOK s Z O Fi q xs) (h2 : lettOK Z O Fi q ys) : False := by
  obtain ⟨_, a2, a3, a4⟩ := h1
  have b2 : ∀ a b, a < s → b < s → pX xs a = pX xs b → Fi a = Fi b ∧ pX xs (Z a) = pX xs (Z b) ∧ pX xs (O a) = pX xs (O b) := fun a b ha hb e => by
    rcases Nat.lt_trichotomy a b with z | z | z
    · obtain ⟨c1, c2⟩ := a3 b a hb z e.symm
      exact ⟨(a2 b a hb z e.symm).symm, c1.symm, c2.symm⟩
    · subst z
      exact ⟨rfl, rfl, rfl⟩
    · exact ⟨a2 a b ha z e, a3 a b ha z e⟩
  have key : ∀ j, wlk Z O ys 0 j < s ∧ wlk Z O ys q j < s ∧ pX xs (wlk Z O ys 0 j) = pX xs (wlk Z O ys q j) := fun j => by
    induction j with
    | zero => exact ⟨h0, hq, a4⟩
    | succ j ih =>
      obtain ⟨i1, i2, i3⟩ := ih
      obtain ⟨_, c2, c3⟩ := b2 _ _ i1 i2 i3
      rw [wlk, wlk]
      by_cases e : ys.getD j 0 = 0
      · rw [if_pos e, if_pos e]
        exact ⟨(hZ _ i1).1, (hZ _ i2).1, c2⟩
      · rw [if_neg e, if_neg e]
        exact ⟨(hZ _ i1).2, (hZ _ i2).2, c3⟩
  obtain ⟨i1, i2, i3⟩ := key ys.length
  exact h2.2 (b2 _ _ i1 i2 i3).1
end
