/-! THE PURE PART, flows: what is reached, and by which item (no machine in it). -/
section
def rb1 (A B C f : Nat → Nat) (i S : Nat) : Nat := if S.testBit (A i) = true ∧ S.testBit (B i) = false ∧ f i < C i then S ||| 2 ^ B i else if S.testBit (B i) = true ∧ S.testBit (A i) = false ∧ 0 < f i then S ||| 2 ^ A i else S
def rbS (A B C f : Nat → Nat) (i : Nat) (p : Nat × (Nat → Nat)) : Nat × (Nat → Nat) := if p.1.testBit (A i) = true ∧ p.1.testBit (B i) = false ∧ f i < C i then (p.1 ||| 2 ^ B i, va_up p.2 (B i) (2 * i)) else if p.1.testBit (B i) = true ∧ p.1.testBit (A i) = false ∧ 0 < f i then (p.1 ||| 2 ^ A i, va_up p.2 (A i) (2 * i + 1)) else p
theorem rbS_1 {A B C f : Nat → Nat} {i : Nat} {p : Nat × (Nat → Nat)} : (rbS A B C f i p).1 = rb1 A B C f i p.1 := by
  unfold rbS rb1
  by_cases h1 : p.1.testBit (A i) = true ∧ p.1.testBit (B i) = false ∧ f i < C i
  · rw [if_pos h1, if_pos h1]
  · rw [if_neg h1, if_neg h1]
    by_cases h2 : p.1.testBit (B i) = true ∧ p.1.testBit (A i) = false ∧ 0 < f i
    · rw [if_pos h2, if_pos h2]
    · rw [if_neg h2, if_neg h2]
def rd1 (A B C f : Nat → Nat) (least : Nat) : Nat → Nat → Nat
  | 0, S => S
  | k + 1, S => rb1 A B C f (least + k) (rd1 A B C f least k S)
def rdS (A B C f : Nat → Nat) (least : Nat) : Nat → Nat × (Nat → Nat) → Nat × (Nat → Nat)
  | 0, p => p
  | k + 1, p => rbS A B C f (least + k) (rdS A B C f least k p)
theorem rdS_1 {A B C f : Nat → Nat} {least : Nat} {p : Nat × (Nat → Nat)} : ∀ k, (rdS A B C f least k p).1 = rd1 A B C f least k p.1
  | 0 => rfl
  | k + 1 => by rw [rdS, rbS_1, rdS_1 k, rd1]
theorem rb1_inc {A B C f : Nat → Nat} {i S j : Nat} (h : S.testBit j = true) : (rb1 A B C f i S).testBit j = true := by
  unfold rb1
  by_cases h1 : S.testBit (A i) = true ∧ S.testBit (B i) = false ∧ f i < C i
  · rw [if_pos h1, Nat.testBit_or, h]
    rfl
  · rw [if_neg h1]
    by_cases h2 : S.testBit (B i) = true ∧ S.testBit (A i) = false ∧ 0 < f i
    · rw [if_pos h2, Nat.testBit_or, h]
      rfl
    · rw [if_neg h2]
      exact h
theorem rd1_inc {A B C f : Nat → Nat} {least S j : Nat} (h : S.testBit j = true) : ∀ k, (rd1 A B C f least k S).testBit j = true
  | 0 => h
  | k + 1 => rb1_inc (rd1_inc h k)
theorem rd1_inc2 {A B C f : Nat → Nat} {least S j : Nat} {k : Nat} (h : (rd1 A B C f least k S).testBit j = true) : ∀ t, (rd1 A B C f least (k + t) S).testBit j = true
  | 0 => h
  | t + 1 => rb1_inc (rd1_inc2 h t)
theorem rb1_lt {A B C f : Nat → Nat} {i S n : Nat} (h : S < 2 ^ n) (ha : A i < n) (hb : B i < n) : rb1 A B C f i S < 2 ^ n := by
  unfold rb1
  by_cases h1 : S.testBit (A i) = true ∧ S.testBit (B i) = false ∧ f i < C i
  · rw [if_pos h1]
    exact nb_or_lt h (nb_p2 hb)
  · rw [if_neg h1]
    by_cases h2 : S.testBit (B i) = true ∧ S.testBit (A i) = false ∧ 0 < f i
    · rw [if_pos h2]
      exact nb_or_lt h (nb_p2 ha)
    · rw [if_neg h2]
      exact h
theorem rd1_lt {A B C f : Nat → Nat} {least S n m : Nat} (hAB : ∀ i, i < m → A i < n ∧ B i < n) (h : S < 2 ^ n) : ∀ k, least + k ≤ m → rd1 A B C f least k S < 2 ^ n
  | 0, _ => h
  | k + 1, hk => by
    have := hAB (least + k) (by omega)
    exact rb1_lt (rd1_lt hAB h k (by omega)) this.1 this.2
/-- nothing more is reached by the item i -/
def clI (A B C f : Nat → Nat) (S i : Nat) : Prop := ¬ (S.testBit (A i) = true ∧ S.testBit (B i) = false ∧ f i < C i) ∧ ¬ (S.testBit (B i) = true ∧ S.testBit (A i) = false ∧ 0 < f i)
theorem rb1_cl {A B C f : Nat → Nat} {i S : Nat} (h : rb1 A B C f i S = S) : clI A B C f S i := by
  unfold rb1 at h
  by_cases h1 : S.testBit (A i) = true ∧ S.testBit (B i) = false ∧ f i < C i
  · rw [if_pos h1] at h
    have := h1.2.1
    rw [← h, Nat.testBit_or, nb_pow, decide_eq_true rfl, Bool.or_true] at this
    exact absurd this (by decide)
  · rw [if_neg h1] at h
    by_cases h2 : S.testBit (B i) = true ∧ S.testBit (A i) = false ∧ 0 < f i
    · rw [if_pos h2] at h
      have := h2.2.1
      rw [← h, Nat.testBit_or, nb_pow, decide_eq_true rfl, Bool.or_true] at this
      exact absurd this (by decide)
    · exact ⟨h1, h2⟩
theorem rd1_fix {A B C f : Nat → Nat} {least S K : Nat} (h : rd1 A B C f least K S = S) : ∀ k, k ≤ K → rd1 A B C f least k S = S := fun k hk => nb_ext fun j => by
  cases e : S.testBit j with
  | true => exact rd1_inc e k
  | false =>
    cases z : (rd1 A B C f least k S).testBit j with
    | false => rfl
    | true =>
      have := rd1_inc2 z (K - k)
      rw [show k + (K - k) = K by omega, h, e] at this
      exact this.symm
theorem rd1_cl {A B C f : Nat → Nat} {least S K : Nat} (h : rd1 A B C f least K S = S) (i : Nat) (h1 : least ≤ i) (h2 : i < least + K) : clI A B C f S i := by
  have a := rd1_fix h (i - least) (by omega)
  have b := rd1_fix h (i - least + 1) (by omega)
  rw [rd1, a, show least + (i - least) = i by omega] at b
  exact rb1_cl b
theorem rbS_fix {A B C f : Nat → Nat} {i : Nat} {p : Nat × (Nat → Nat)} (h : clI A B C f p.1 i) : rbS A B C f i p = p := by
  unfold rbS
  rw [if_neg h.1, if_neg h.2]
theorem rdS_fix {A B C f : Nat → Nat} {least K : Nat} {p : Nat × (Nat → Nat)} (h : rd1 A B C f least K p.1 = p.1) : ∀ k, k ≤ K → rdS A B C f least k p = p
  | 0, _ => rfl
  | k + 1, hk => by
    rw [rdS, rdS_fix h k (by omega)]
    exact rbS_fix (rd1_cl h _ (by omega) (by omega))
/-- the rounds -/
def rnS (A B C f : Nat → Nat) (st least m : Nat) : Nat → Nat × (Nat → Nat)
  | 0 => (2 ^ st, fun _ => 0)
  | k + 1 => rdS A B C f least (m - least) (rnS A B C f st least m k)
theorem rnS_it {A B C f : Nat → Nat} {st least m : Nat} : ∀ k, (rnS A B C f st least m k).1 = it (fun S => rd1 A B C f least (m - least) S) k (2 ^ st)
  | 0 => rfl
  | k + 1 => by rw [rnS, rdS_1, rnS_it k, it]
theorem rnS_lt {A B C f : Nat → Nat} {st least m n : Nat} (hl : least ≤ m) (hAB : ∀ i, i < m → A i < n ∧ B i < n) (hst : st < n) (k : Nat) : (rnS A B C f st least m k).1 < 2 ^ n := by
  rw [rnS_it]
  exact it_lt (nb_p2 hst) (fun S h => rd1_lt hAB h _ (by omega)) k
theorem rnS_cl {A B C f : Nat → Nat} {st least m n : Nat} (hl : least ≤ m) (hAB : ∀ i, i < m → A i < n ∧ B i < n) (hst : st < n) : rd1 A B C f least (m - least) (rnS A B C f st least m n).1 = (rnS A B C f st least m n).1 := by
  rw [rnS_it]
  exact it_stab (G := fun S => rd1 A B C f least (m - least) S) (nb_p2 hst) (fun S h => rd1_lt hAB h _ (by omega)) (fun S i _ h => rd1_inc h _)
theorem rnS_stop {A B C f : Nat → Nat} {st least m k : Nat} (h : (rnS A B C f st least m (k + 1)).1 = (rnS A B C f st least m k).1) : ∀ t, rnS A B C f st least m (k + t) = rnS A B C f st least m k := by
  rw [rnS, rdS_1] at h
  intro t
  induction t with
  | zero => rfl
  | succ t ih =>
    show rnS A B C f st least m (k + t + 1) = _
    rw [rnS, ih]
    exact rdS_fix h _ (Nat.le_refl _)
/-- each reached node but the start came by an item from one that was there before -/
def trI (A B C f : Nat → Nat) (n m least st : Nat) (p : Nat × (Nat → Nat)) : Prop := p.1.testBit st = true ∧ ∃ d : Nat → Nat, (∀ x, p.1.testBit x = true → d x < cnt (fun i => p.1.testBit i) n) ∧ ∀ x, p.1.testBit x = true → x ≠ st → ∃ i, least ≤ i ∧ i < m ∧ ((p.2 x = 2 * i ∧ B i = x ∧ p.1.testBit (A i) = true ∧ d (A i) < d x ∧ f i < C i) ∨ (p.2 x = 2 * i + 1 ∧ A i = x ∧ p.1.testBit (B i) = true ∧ d (B i) < d x ∧ 0 < f i))
theorem tr_add {A B C f : Nat → Nat} {n m least st i x y t : Nat} {p : Nat × (Nat → Nat)} (h : trI A B C f n m least st p) (hx : p.1.testBit x = false) (hxn : x < n) (hy : p.1.testBit y = true) (hi1 : least ≤ i) (hi2 : i < m) (hc : (t = 2 * i ∧ B i = x ∧ A i = y ∧ f i < C i) ∨ (t = 2 * i + 1 ∧ A i = x ∧ B i = y ∧ 0 < f i)) : trI A B C f n m least st (p.1 ||| 2 ^ x, va_up p.2 x t) := by
  obtain ⟨h1, d, h2, h3⟩ := h
  have bit : ∀ j, (p.1 ||| 2 ^ x).testBit j = true ↔ p.1.testBit j = true ∨ j = x := fun j => by
    rw [Nat.testBit_or, nb_pow, Bool.or_eq_true, decide_eq_true_eq]
    exact ⟨fun h => h.elim Or.inl (fun z => Or.inr z.symm), fun h => h.elim Or.inl (fun z => Or.inr z.symm)⟩
  have lt : cnt (fun i => p.1.testBit i) n < cnt (fun i => (p.1 ||| 2 ^ x).testBit i) n := cnt_lt (fun j _ hj => (bit j).mpr (Or.inl hj)) hxn hx ((bit x).mpr (Or.inr rfl))
  have ne : ∀ j, p.1.testBit j = true → j ≠ x := fun j hj e => by rw [e, hx] at hj; exact absurd hj (by decide)
  refine ⟨(bit st).mpr (Or.inl h1), va_up d x (cnt (fun i => p.1.testBit i) n), fun j hj => ?_, fun j hj hjs => ?_⟩
  · by_cases e : j = x
    · subst e
      rw [mUp_eq]
      exact lt
    · rw [mUp_ne _ _ e]
      have := h2 j (((bit j).mp hj).resolve_right e)
      show d j < cnt (fun i => (p.1 ||| 2 ^ x).testBit i) n
      omega
  · by_cases e : j = x
    · subst e
      refine ⟨i, hi1, hi2, ?_⟩
      show (va_up p.2 j t j = 2 * i ∧ _) ∨ (va_up p.2 j t j = 2 * i + 1 ∧ _)
      rw [mUp_eq, mUp_eq]
      rcases hc with ⟨c1, c2, c3, c4⟩ | ⟨c1, c2, c3, c4⟩
      · refine Or.inl ⟨c1, c2, (bit _).mpr (Or.inl (by rw [c3]; exact hy)), ?_, c4⟩
        rw [c3, mUp_ne _ _ (ne y hy)]
        exact h2 y hy
      · refine Or.inr ⟨c1, c2, (bit _).mpr (Or.inl (by rw [c3]; exact hy)), ?_, c4⟩
        rw [c3, mUp_ne _ _ (ne y hy)]
        exact h2 y hy
    · obtain ⟨i', k1, k2, k3⟩ := h3 j (((bit j).mp hj).resolve_right e) hjs
      refine ⟨i', k1, k2, ?_⟩
      show (va_up p.2 x t j = 2 * i' ∧ _) ∨ (va_up p.2 x t j = 2 * i' + 1 ∧ _)
      rw [mUp_ne _ _ e, mUp_ne _ _ e]
      rcases k3 with ⟨c1, c2, c3, c4, c5⟩ | ⟨c1, c2, c3, c4, c5⟩
      · refine Or.inl ⟨c1, c2, (bit _).mpr (Or.inl c3), ?_, c5⟩
        rw [mUp_ne _ _ (ne _ c3)]
        exact c4
      · refine Or.inr ⟨c1, c2, (bit _).mpr (Or.inl c3), ?_, c5⟩
        rw [mUp_ne _ _ (ne _ c3)]
        exact c4
theorem tr_rb {A B C f : Nat → Nat} {n m least st i : Nat} {p : Nat × (Nat → Nat)} (hAB : ∀ i, i < m → A i < n ∧ B i < n) (h : trI A B C f n m least st p) (hi1 : least ≤ i) (hi2 : i < m) : trI A B C f n m least st (rbS A B C f i p) := by
  have ab := hAB i hi2
  unfold rbS
  by_cases h1 : p.1.testBit (A i) = true ∧ p.1.testBit (B i) = false ∧ f i < C i
  · rw [if_pos h1]
    exact tr_add h h1.2.1 ab.2 h1.1 hi1 hi2 (Or.inl ⟨rfl, rfl, rfl, h1.2.2⟩)
  · rw [if_neg h1]
    by_cases h2 : p.1.testBit (B i) = true ∧ p.1.testBit (A i) = false ∧ 0 < f i
    · rw [if_pos h2]
      exact tr_add h h2.2.1 ab.1 h2.1 hi1 hi2 (Or.inr ⟨rfl, rfl, rfl, h2.2.2⟩)
    · rw [if_neg h2]
      exact h
theorem tr_rd {A B C f : Nat → Nat} {n m least st : Nat} {p : Nat × (Nat → Nat)} (hAB : ∀ i, i < m → A i < n ∧ B i < n) (h : trI A B C f n m least st p) : ∀ k, least + k ≤ m → trI A B C f n m least st (rdS A B C f least k p)
  | 0, _ => h
  | k + 1, hk => tr_rb hAB (tr_rd hAB h k (by omega)) (by omega) (by omega)
theorem tr_rn {A B C f : Nat → Nat} {n m least st : Nat} (hl : least ≤ m) (hAB : ∀ i, i < m → A i < n ∧ B i < n) (hst : st < n) : ∀ k, trI A B C f n m least st (rnS A B C f st least m k)
  | 0 => by
    have b : (2 ^ st).testBit st = true := by rw [nb_pow]; exact decide_eq_true rfl
    refine ⟨b, fun _ => 0, fun x _ => cnt_pos (X := fun i => (2 ^ st).testBit i) b hst, fun x hx hne => ?_⟩
    have hx : (2 ^ st).testBit x = true := hx
    rw [nb_pow, decide_eq_true_eq] at hx
    exact absurd hx.symm hne
  | k + 1 => tr_rd hAB (tr_rn hl hAB hst k) _ (by omega)
/-- one more is led back from 'at' to the start -/
def pth (st : Nat) (via A B : Nat → Nat) : Nat → Nat → (Nat → Nat) → (Nat → Nat)
  | 0, _, f => f
  | k + 1, at_, f => if at_ = st then f else if via at_ % 2 = 0 then pth st via A B k (A (via at_ / 2)) (va_up f (via at_ / 2) (f (via at_ / 2) + 1)) else pth st via A B k (B (via at_ / 2)) (va_up f (via at_ / 2) (f (via at_ / 2) - 1))
def nx (v a : Nat) : Int := if v = a then 1 else 0
theorem nx_c (v a : Nat) : nx v a = nx a v := by
  unfold nx
  by_cases e : v = a
  · rw [if_pos e, if_pos e.symm]
  · rw [if_neg e, if_neg (fun z => e z.symm)]
theorem exs_up {A B : Nat → Nat} {f : Nat → Nat} {i v : Nat} {t : Nat} : ∀ m, exs A B (fun j => ((va_up f i t j : Nat) : Int)) v m = exs A B (fun j => (f j : Int)) v m + (if i < m then ((t : Int) - f i) * (nx (A i) v - nx (B i) v) else 0)
  | 0 => by
    rw [exs, exs, if_neg (Nat.not_lt_zero _)]
    rfl
  | m + 1 => by
    rw [exs, exs, exs_up m]
    by_cases e : i = m
    · subst e
      rw [if_neg (Nat.lt_irrefl _), if_pos (Nat.lt_succ_self _), mUp_eq]
      unfold nx
      by_cases a : A i = v <;> by_cases b : B i = v <;> simp only [a, b, if_true, if_false] <;> omega
    · rw [mUp_ne _ _ (fun z => e z.symm)]
      by_cases l : i < m
      · rw [if_pos l, if_pos (c := i < m + 1) (by omega)]
        omega
      · rw [if_neg l, if_neg (c := i < m + 1) (by omega), Int.add_zero, Int.add_zero]
/-- the tree, by the ranks d -/
def tD (A B C f0 : Nat → Nat) (m least st S : Nat) (via d : Nat → Nat) : Prop := ∀ x, S.testBit x = true → x ≠ st → ∃ i, least ≤ i ∧ i < m ∧ ((via x = 2 * i ∧ B i = x ∧ S.testBit (A i) = true ∧ d (A i) < d x ∧ f0 i < C i) ∨ (via x = 2 * i + 1 ∧ A i = x ∧ S.testBit (B i) = true ∧ d (B i) < d x ∧ 0 < f0 i))
def pI (C f0 : Nat → Nat) (m st S : Nat) (via d : Nat → Nat) (at_ : Nat) (f : Nat → Nat) : Prop := S.testBit at_ = true ∧ (∀ i, i < m → f i ≤ C i) ∧ ∀ w, S.testBit w = true → w ≠ st → d w ≤ d at_ → f (via w / 2) = f0 (via w / 2)
theorem pI_step {A B C f0 : Nat → Nat} {m least st S at_ : Nat} {via d f : Nat → Nat} (hd : tD A B C f0 m least st S via d) (h : pI C f0 m st S via d at_ f) (e : at_ ≠ st) : ∃ i, least ≤ i ∧ i < m ∧ via at_ / 2 = i ∧ ((via at_ % 2 = 0 ∧ B i = at_ ∧ d (A i) < d at_ ∧ pI C f0 m st S via d (A i) (va_up f i (f i + 1))) ∨ (via at_ % 2 = 1 ∧ A i = at_ ∧ d (B i) < d at_ ∧ 0 < f i ∧ pI C f0 m st S via d (B i) (va_up f i (f i - 1)))) := by
  obtain ⟨hS, hC, hw⟩ := h
  obtain ⟨i, i1, i2, i3⟩ := hd at_ hS e
  have fi := hw at_ hS e (Nat.le_refl _)
  have other : ∀ w, S.testBit w = true → w ≠ st → d w < d at_ → via w / 2 ≠ i := fun w w1 w2 w3 z => by
    obtain ⟨l, l1, l2, l3⟩ := hd w w1 w2
    have el : l = i := by
      rcases l3 with ⟨c, _⟩ | ⟨c, _⟩ <;> omega
    subst el
    rcases i3 with ⟨c1, c2, c3, c4, c5⟩ | ⟨c1, c2, c3, c4, c5⟩
    · rcases l3 with ⟨g1, g2, g3, g4, g5⟩ | ⟨g1, g2, g3, g4, g5⟩
      · have : w = at_ := g2.symm.trans c2
        subst this
        omega
      · rw [c2] at g4
        omega
    · rcases l3 with ⟨g1, g2, g3, g4, g5⟩ | ⟨g1, g2, g3, g4, g5⟩
      · rw [c2] at g4
        omega
      · have : w = at_ := g2.symm.trans c2
        subst this
        omega
  refine ⟨i, i1, i2, by rcases i3 with ⟨c, _⟩ | ⟨c, _⟩ <;> omega, ?_⟩
  rcases i3 with ⟨c1, c2, c3, c4, c5⟩ | ⟨c1, c2, c3, c4, c5⟩
  · rw [show via at_ / 2 = i by omega] at fi
    refine Or.inl ⟨by omega, c2, c4, c3, fun j hj => ?_, fun w w1 w2 w3 => ?_⟩
    · by_cases z : j = i
      · subst z
        rw [mUp_eq]
        omega
      · rw [mUp_ne _ _ z]
        exact hC j hj
    · rw [mUp_ne _ _ (other w w1 w2 (by omega))]
      exact hw w w1 w2 (by omega)
  · rw [show via at_ / 2 = i by omega] at fi
    refine Or.inr ⟨by omega, c2, c4, by omega, c3, fun j hj => ?_, fun w w1 w2 w3 => ?_⟩
    · by_cases z : j = i
      · subst z
        rw [mUp_eq]
        have := hC j hj
        omega
      · rw [mUp_ne _ _ z]
        exact hC j hj
    · rw [mUp_ne _ _ (other w w1 w2 (by omega))]
      exact hw w w1 w2 (by omega)
theorem pth_ok {A B C f0 : Nat → Nat} {m least st en S : Nat} {via d : Nat → Nat} (hd : tD A B C f0 m least st S via d) : ∀ k at_ f, d at_ < k → pI C f0 m st S via d at_ f → (∀ i, i < least → f i = f0 i) → (∀ v, exs A B (fun j => (f j : Int)) v m = exs A B (fun j => (f0 j : Int)) v m + nx v at_ - nx v en) → (∀ i, i < m → pth st via A B k at_ f i ≤ C i) ∧ (∀ i, i < least → pth st via A B k at_ f i = f0 i) ∧ ∀ v, exs A B (fun j => (pth st via A B k at_ f j : Int)) v m = exs A B (fun j => (f0 j : Int)) v m + nx v st - nx v en := by
  intro k
  induction k with
  | zero => intro at_ f h; omega
  | succ k ih =>
    intro at_ f hk hI hL hE
    rw [pth]
    by_cases e : at_ = st
    · rw [if_pos e]
      subst e
      exact ⟨hI.2.1, hL, hE⟩
    · rw [if_neg e]
      obtain ⟨i, i1, i2, e2, i3⟩ := pI_step hd hI e
      rw [e2]
      rcases i3 with ⟨c1, c2, c3, c4⟩ | ⟨c1, c2, c3, c4, c5⟩
      · rw [if_pos c1]
        refine ih (A i) (va_up f i (f i + 1)) (by omega) c4 (fun j hj => ?_) (fun v => ?_)
        · rw [mUp_ne _ _ (by omega)]
          exact hL j hj
        · rw [exs_up m, if_pos i2, hE v]
          have t : ((f i + 1 : Nat) : Int) - f i = 1 := by omega
          rw [t, Int.one_mul, c2, nx_c (A i) v, nx_c at_ v]
          omega
      · rw [if_neg (by omega)]
        refine ih (B i) (va_up f i (f i - 1)) (by omega) c5 (fun j hj => ?_) (fun v => ?_)
        · rw [mUp_ne _ _ (by omega)]
          exact hL j hj
        · rw [exs_up m, if_pos i2, hE v]
          have t : ((f i - 1 : Nat) : Int) - f i = -1 := by omega
          rw [t, c2, nx_c (B i) v, nx_c at_ v]
          omega
end
