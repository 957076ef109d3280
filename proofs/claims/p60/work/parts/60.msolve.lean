/-! THE PURE PART, pairings: the row that the solver writes, in both senses. -/
section
def pto (nr g : Nat → Nat) (R v t : Nat) : Nat → Nat → Nat
  | _, 0 => v
  | j, k + 1 => if (R &&& nr v).testBit j = true ∧ g (nsd R (2 ^ j)) + 1 = t then j else pto nr g R v t (j + 1) k
theorem pto_spec {nr g : Nat → Nat} {R v t : Nat} : ∀ k j, (pto nr g R v t j k = v ∧ ∀ i, j ≤ i → i < j + k → ¬ ((R &&& nr v).testBit i = true ∧ g (nsd R (2 ^ i)) + 1 = t)) ∨ (j ≤ pto nr g R v t j k ∧ pto nr g R v t j k < j + k ∧ (R &&& nr v).testBit (pto nr g R v t j k) = true ∧ g (nsd R (2 ^ pto nr g R v t j k)) + 1 = t)
  | 0, j => Or.inl ⟨rfl, fun i h1 h2 => by omega⟩
  | k + 1, j => by
    rw [pto]
    by_cases h : (R &&& nr v).testBit j = true ∧ g (nsd R (2 ^ j)) + 1 = t
    · rw [if_pos h]
      exact Or.inr ⟨Nat.le_refl _, by omega, h.1, h.2⟩
    · rw [if_neg h]
      rcases pto_spec (nr := nr) (g := g) (R := R) (v := v) (t := t) k (j + 1) with ⟨a, b⟩ | ⟨a, b, c⟩
      · refine Or.inl ⟨a, fun i h1 h2 => ?_⟩
        by_cases e : i = j
        · subst e
          exact h
        · exact b i (by omega) (by omega)
      · exact Or.inr ⟨by omega, by omega, c⟩
def ptn (nr g : Nat → Nat) (v S s : Nat) : Nat := if g (nsd S (2 ^ v)) = g S then v else pto nr g (nsd S (2 ^ v)) v (g S) (v + 1) (s - (v + 1))
theorem ptn_ok {nr : Nat → Nat} {S s : Nat} (hs : s ≤ 9) (hS : S < 2 ^ s) (h0 : S ≠ 0) : (ptn nr (nu nr s) (low S) S s = low S ∧ nu nr s (nsd S (2 ^ low S)) = nu nr s S) ∨ ∃ w, ptn nr (nu nr s) (low S) S s = w ∧ low S < w ∧ w < s ∧ (nsd S (2 ^ low S)).testBit w = true ∧ (nr (low S)).testBit w = true ∧ nu nr s (nsd (nsd S (2 ^ low S)) (2 ^ w)) + 1 = nu nr s S := by
  have s9 := nb_2s hs
  unfold ptn
  by_cases h : nu nr s (nsd S (2 ^ low S)) = nu nr s S
  · rw [if_pos h]
    exact Or.inl ⟨rfl, h⟩
  · rw [if_neg h]
    right
    have e := nu_eq (nr := nr) (s := s) (S := S) (by omega) h0
    rcases pto_spec (nr := nr) (g := nu nr s) (R := nsd S (2 ^ low S)) (v := low S) (t := nu nr s S) (s - (low S + 1)) (low S + 1) with ⟨_, b⟩ | ⟨a, b, c, d⟩
    · exfalso
      rcases mxo_ex (nr := nr) (g := nu nr s) (R := nsd S (2 ^ low S)) (v := low S) s with z | ⟨j, j1, j2, j3, j4⟩
      · exact h (by rw [e, z])
      · exact b j (by omega) (by omega) ⟨j3, by rw [e, j4, Nat.add_comm]⟩
    · rw [Nat.testBit_and, Bool.and_eq_true] at c
      exact ⟨_, rfl, by omega, by omega, c.1, c.2, d⟩
theorem T_partnerOf_go {F s S v : Nat} {nr : Nat → Nat} {V : mV} (hs : s ≤ 9) (hv : v < s) (hS : S < 2 ^ s) (hn : ∀ i, i < 9 → V.rI 19 i = nI (nr i)) (hnu : ∀ x, x < 2 ^ s → V.rI 20 x = nI (nu nr s x)) : ∀ k' j, s < j + k' → j ≤ s → mTo (mX7_partnerOf_go F k' 0 (nI v) (nI S) (nI s) (nI (nsd S (2 ^ v))) (nI j) V) (fun w => w = nI (pto nr (nu nr s) (nsd S (2 ^ v)) v (nu nr s S) j (s - j))) := by
  have s9 := nb_2s hs
  intro k'
  induction k' with
  | zero => intro j h1 h2; omega
  | succ k ih =>
    intro j h1 h2
    rw [mX7_partnerOf_go, if_pos rfl]
    unfold mX7_partnerOf_b0
    refine mTo.le rfl rfl (by omega) (by omega) (fun h => mTo.ret ?_) (fun h => mTo.ix rfl (by omega) (by omega) ?_)
    · have : j = s := by omega
      subst this
      rw [Nat.sub_self]
      rfl
    · have b0 := nsd_le S (2 ^ v)
      have b1 : nsd S (2 ^ v) &&& nr v < 2 ^ 9 := nb_and_lt (by omega)
      have g := ih (j + 1) (by omega) (by omega)
      have e : s - j = s - (j + 1) + 1 := by omega
      rw [e, pto]
      refine mTo.hs (by rw [nI_clamp (by omega), hn v (by omega), nb_and]) rfl (by omega) (by omega) (fun hb => mTo.lt ?_) (fun hb => ?_)
      · rw [if_neg (fun z => by rw [hb] at z; exact absurd z.1 (by decide)), nI_1]
        exact g
      · have b2 := nsd_le (nsd S (2 ^ v)) (2 ^ j)
        have c1 := nu_bd (nr := nr) (s := s) (2 ^ 20) (nsd (nsd S (2 ^ v)) (2 ^ j)) (by omega) (by omega)
        have c2 := nu_bd (nr := nr) (s := s) (2 ^ 20) S (by omega) (by omega)
        rw [nb_one (by omega), nb_not (by omega)]
        refine mTo.ix rfl (by omega) (by omega) (mTo.ix rfl (by omega) (by omega) ?_)
        refine mTo.eqI (by rw [nI_clamp (by omega), hnu _ (by omega), nI_1]) (by rw [nI_clamp (by omega), hnu _ hS]) (by omega) (by omega) (fun h3 => mTo.ret ?_) (fun h3 => mTo.lt ?_)
        · rw [if_pos ⟨hb, h3⟩]
        · rw [if_neg (fun z => h3 z.2), nI_1]
          exact g
theorem T_partnerOf {F s S v : Nat} {nr : Nat → Nat} {V : mV} (hF : 64 ≤ F) (hs : s ≤ 9) (hv : v < s) (hS : S < 2 ^ s) (hn : ∀ i, i < 9 → V.rI 19 i = nI (nr i)) (hnu : ∀ x, x < 2 ^ s → V.rI 20 x = nI (nu nr s x)) : mTo (mX7_partnerOf F (nI v) (nI S) (nI s) V) (fun w => w = nI (ptn nr (nu nr s) v S s)) := by
  have s9 := nb_2s hs
  have b0 := nsd_le S (2 ^ v)
  have c1 := nu_bd (nr := nr) (s := s) (2 ^ 20) (nsd S (2 ^ v)) (by omega) (by omega)
  have c2 := nu_bd (nr := nr) (s := s) (2 ^ 20) S (by omega) (by omega)
  unfold mX7_partnerOf mX7_partnerOf_s
  refine mTo.lt ?_
  rw [nb_one (by omega), nb_not (by omega)]
  unfold ptn
  refine mTo.ix rfl (by omega) (by omega) (mTo.ix rfl (by omega) (by omega) (mTo.eqI (by rw [nI_clamp (by omega), hnu _ (by omega)]) (by rw [nI_clamp (by omega), hnu _ hS]) (by omega) (by omega) (fun h => mTo.ret ?_) (fun h => mTo.lt ?_)))
  · rw [if_pos h]
  · rw [if_neg h, nI_1]
    exact T_partnerOf_go hs hv hS hn hnu F (v + 1) (by omega) (by omega)
def idl : Nat → List Int32
  | 0 => []
  | j + 1 => idl j ++ [nI j]
theorem idl_len : ∀ n, (idl n).length = n
  | 0 => rfl
  | n + 1 => by
    rw [idl, List.length_append, idl_len n]
    rfl
theorem idl_at {i : Nat} : ∀ n, i < n → (idl n).getD i 0 = nI i
  | 0, h => absurd h (Nat.not_lt_zero _)
  | n + 1, h => by
    rw [idl, getD_snoc, idl_len]
    by_cases e : i < n
    · rw [if_pos e]
      exact idl_at n e
    · have : i = n := by omega
      rw [if_neg e, if_pos this, this]
def wpG (nr : Nat → Nat) (s : Nat) : Nat → Nat × List Int32
  | 0 => (2 ^ s - 1, idl s)
  | j + 1 => if (wpG nr s j).1.testBit j = true then (nsd (wpG nr s j).1 (2 ^ j ||| 2 ^ ptn nr (nu nr s) j (wpG nr s j).1 s), ((wpG nr s j).2.set j (nI (ptn nr (nu nr s) j (wpG nr s j).1 s))).set (ptn nr (nu nr s) j (wpG nr s j).1 s) (nI j)) else wpG nr s j
theorem pX_set {xs : List Int32} {j v i : Nat} (hj : j < xs.length) (hv : v < 2 ^ 31) : pX (xs.set j (nI v)) i = if i = j then v else pX xs i := by
  unfold pX
  rw [getD_set _ _ hj]
  by_cases e : i = j
  · rw [if_pos e, if_pos e, nI_clamp hv]
  · rw [if_neg e, if_neg e]
theorem wp_inv {nr : Nat → Nat} {s : Nat} (hs : s ≤ 9) (hsym : ∀ u w, (nr u).testBit w = true → (nr w).testBit u = true) : ∀ j, j ≤ s → (wpG nr s j).1 < 2 ^ s ∧ (∀ i, (wpG nr s j).1.testBit i = true → j ≤ i) ∧ (wpG nr s j).2.length = s ∧ inRow (wpG nr s j).2 s ∧ (∀ i, i < s → pX (wpG nr s j).2 (pX (wpG nr s j).2 i) = i) ∧ (∀ i, i < s → (wpG nr s j).1.testBit i = true → pX (wpG nr s j).2 i = i) ∧ (∀ i, i < s → pX (wpG nr s j).2 i ≠ i → (nr i).testBit (pX (wpG nr s j).2 i) = true) ∧ cnt (fun i => !(wpG nr s j).1.testBit i && decide (pX (wpG nr s j).2 i = i)) s + cnt (fun i => (wpG nr s j).1.testBit i) s + 2 * nu nr s (2 ^ s - 1) = s + 2 * nu nr s (wpG nr s j).1 := by
  have s9 := nb_2s hs
  intro j
  induction j with
  | zero =>
    intro _
    have p2 := Nat.two_pow_pos s
    have hid : ∀ i, i < s → pX (idl s) i = i := fun i hi => pX_eq (idl_at s hi) (by omega)
    refine ⟨show 2 ^ s - 1 < 2 ^ s by omega, fun i _ => Nat.zero_le i, idl_len s, fun i hi => ⟨i, ?_, ?_⟩, fun i hi => ?_, fun i hi _ => hid i hi, fun i hi h => absurd (hid i hi) h, ?_⟩
    · have hi : i < (idl s).length := hi
      rw [idl_len] at hi
      exact hi
    · have hi : i < (idl s).length := hi
      rw [idl_len] at hi
      exact idl_at s hi
    · show pX (idl s) (pX (idl s) i) = i
      rw [hid i hi, hid i hi]
    · show cnt (fun i => !(2 ^ s - 1).testBit i && decide (pX (idl s) i = i)) s + cnt (fun i => (2 ^ s - 1).testBit i) s + 2 * nu nr s (2 ^ s - 1) = s + 2 * nu nr s (2 ^ s - 1)
      rw [cnt_0 s (fun i hi => by show (!(2 ^ s - 1).testBit i && _) = false; rw [nb_fullbit, decide_eq_true hi]; rfl)]
      have : cnt (fun i => (2 ^ s - 1).testBit i) s = s := by
        have h1 : ∀ n, cnt (fun _ => true) n = n := fun n => by
          induction n with
          | zero => rfl
          | succ n ih => rw [cnt, ih, if_pos rfl]
        rw [cnt_eq (Y := fun _ => true) s (fun i hi => by rw [nb_fullbit]; exact decide_eq_true hi), h1]
      omega
  | succ j ih =>
    intro hj
    obtain ⟨i1, i2, i3, i4, i5, i6, i7, i8⟩ := ih (by omega)
    rw [wpG]
    by_cases e : (wpG nr s j).1.testBit j = true
    · rw [if_pos e]
      generalize (wpG nr s j).1 = L at *
      generalize (wpG nr s j).2 = xs at *
      have h0 : L ≠ 0 := fun z => by rw [z, Nat.zero_testBit] at e; exact absurd e (by decide)
      have el : low L = j := low_un (by omega) e (fun l hl => by
        cases z : L.testBit l with
        | false => rfl
        | true =>
          have := i2 l z
          omega)
      have ok := ptn_ok (nr := nr) hs i1 h0
      rw [el] at ok
      have pj := i6 j (by omega) e
      have c1 := cnt_del (X := fun i => L.testBit i) e s (by omega)
      rw [← nsd_cdel] at c1
      rcases ok with ⟨w1, w2⟩ | ⟨w, w1, w2, w3, w4, w5, w6⟩
      · rw [w1]
        have eL : nsd L (2 ^ j ||| 2 ^ j) = nsd L (2 ^ j) := by rw [Nat.or_self]
        have ex : ∀ i, pX ((xs.set j (nI j)).set j (nI j)) i = pX xs i := fun i => by
          rw [pX_set (by rw [List.length_set]; omega) (by omega), pX_set (by omega) (by omega)]
          by_cases z : i = j
          · rw [if_pos z, z, pj]
          · rw [if_neg z, if_neg z]
        rw [eL]
        refine ⟨nsd_lt i1, fun i hi => ?_, by rw [List.length_set, List.length_set]; exact i3, fun i hi => ?_, fun i hi => by rw [ex, ex]; exact i5 i hi, fun i hi hb => ?_, fun i hi => by rw [ex]; exact i7 i hi, ?_⟩
        · have hi : (nsd L (2 ^ j)).testBit i = true := hi
          rw [nsd_bit, nb_pow, Bool.and_eq_true, Bool.not_eq_true', decide_eq_false_iff_not] at hi
          have := i2 i hi.1
          omega
        · have hi : i < ((xs.set j (nI j)).set j (nI j)).length := hi
          rw [List.length_set, List.length_set] at hi
          show ∃ l, l < s ∧ ((xs.set j (nI j)).set j (nI j)).getD i 0 = nI l
          rw [getD_set _ _ (by rw [List.length_set]; omega), getD_set _ _ (by omega)]
          by_cases z : i = j
          · rw [if_pos z]
            exact ⟨j, by omega, rfl⟩
          · rw [if_neg z, if_neg z]
            exact i4 i hi
        · have hb : (nsd L (2 ^ j)).testBit i = true := hb
          rw [nsd_bit, Bool.and_eq_true] at hb
          rw [ex]
          exact i6 i hi hb.1
        · show cnt (fun i => !(nsd L (2 ^ j)).testBit i && decide (pX ((xs.set j (nI j)).set j (nI j)) i = i)) s + cnt (fun i => (nsd L (2 ^ j)).testBit i) s + 2 * nu nr s (2 ^ s - 1) = s + 2 * nu nr s (nsd L (2 ^ j))
          have c2 := cnt_del (X := fun i => !(nsd L (2 ^ j)).testBit i && decide (pX ((xs.set j (nI j)).set j (nI j)) i = i)) (i := j) (by
            show (!(nsd L (2 ^ j)).testBit j && decide (pX ((xs.set j (nI j)).set j (nI j)) j = j)) = true
            rw [nsd_bit, nb_pow, decide_eq_true rfl, ex, pj, decide_eq_true rfl, Bool.not_true, Bool.and_false]
            rfl) s (by omega)
          rw [cnt_eq (X := cdel (fun i => !(nsd L (2 ^ j)).testBit i && decide (pX ((xs.set j (nI j)).set j (nI j)) i = i)) j) (Y := fun i => !L.testBit i && decide (pX xs i = i)) s (fun i _ => by
            unfold cdel
            show (!(nsd L (2 ^ j)).testBit i && decide (pX ((xs.set j (nI j)).set j (nI j)) i = i) && !decide (i = j)) = (!L.testBit i && decide (pX xs i = i))
            rw [ex, nsd_bit, nb_pow]
            by_cases z : i = j
            · subst z
              rw [e, decide_eq_true rfl]
              cases decide (pX xs i = i) <;> rfl
            · rw [decide_eq_false z, decide_eq_false (fun y => z y.symm)]
              cases L.testBit i <;> cases decide (pX xs i = i) <;> rfl)] at c2
          omega
      · rw [w1]
        have jw : j ≠ w := by omega
        have wL : L.testBit w = true := by
          rw [nsd_bit, Bool.and_eq_true] at w4
          exact w4.1
        have pw := i6 w w3 wL
        have eL : nsd L (2 ^ j ||| 2 ^ w) = nsd (nsd L (2 ^ j)) (2 ^ w) := nb_ext fun i => by
          rw [nsd_bit, nsd_bit, nsd_bit, Nat.testBit_or]
          cases L.testBit i <;> cases (2 ^ j).testBit i <;> cases (2 ^ w).testBit i <;> rfl
        have ex : ∀ i, pX ((xs.set j (nI w)).set w (nI j)) i = if i = w then j else if i = j then w else pX xs i := fun i => by
          rw [pX_set (by rw [List.length_set]; omega) (by omega), pX_set (by omega) (by omega)]
        have off : ∀ i, i < s → i ≠ w → i ≠ j → pX xs i ≠ w ∧ pX xs i ≠ j := fun i hi a b => ⟨fun z => a (by rw [← i5 i hi, z, pw]), fun z => b (by rw [← i5 i hi, z, pj])⟩
        rw [eL]
        have c3 := cnt_del (X := fun i => (nsd L (2 ^ j)).testBit i) w4 s w3
        rw [← nsd_cdel] at c3
        refine ⟨nsd_lt (nsd_lt i1), fun i hi => ?_, by rw [List.length_set, List.length_set]; exact i3, fun i hi => ?_, fun i hi => ?_, fun i hi hb => ?_, fun i hi hne => ?_, ?_⟩
        · have hi : (nsd (nsd L (2 ^ j)) (2 ^ w)).testBit i = true := hi
          rw [nsd_bit, nsd_bit, nb_pow, Bool.and_eq_true, Bool.and_eq_true, Bool.not_eq_true', decide_eq_false_iff_not] at hi
          have := i2 i hi.1.1
          omega
        · have hi : i < ((xs.set j (nI w)).set w (nI j)).length := hi
          rw [List.length_set, List.length_set] at hi
          show ∃ l, l < s ∧ ((xs.set j (nI w)).set w (nI j)).getD i 0 = nI l
          rw [getD_set _ _ (by rw [List.length_set]; omega), getD_set _ _ (by omega)]
          by_cases z : i = w
          · rw [if_pos z]
            exact ⟨j, by omega, rfl⟩
          · rw [if_neg z]
            by_cases y : i = j
            · rw [if_pos y]
              exact ⟨w, w3, rfl⟩
            · rw [if_neg y]
              exact i4 i hi
        · show pX ((xs.set j (nI w)).set w (nI j)) (pX ((xs.set j (nI w)).set w (nI j)) i) = i
          rw [ex i]
          by_cases z : i = w
          · rw [if_pos z, ex j, if_neg jw, if_pos rfl, z]
          · rw [if_neg z]
            by_cases y : i = j
            · rw [if_pos y, ex w, if_pos rfl, y]
            · rw [if_neg y, ex, if_neg (off i hi z y).1, if_neg (off i hi z y).2]
              exact i5 i hi
        · have hb : (nsd (nsd L (2 ^ j)) (2 ^ w)).testBit i = true := hb
          rw [nsd_bit, nsd_bit, nb_pow, nb_pow, Bool.and_eq_true, Bool.and_eq_true, Bool.not_eq_true', Bool.not_eq_true', decide_eq_false_iff_not, decide_eq_false_iff_not] at hb
          rw [ex, if_neg (fun z => hb.2 z.symm), if_neg (fun z => hb.1.2 z.symm)]
          exact i6 i hi hb.1.1
        · rw [ex] at hne ⊢
          by_cases z : i = w
          · rw [if_pos z, z]
            exact hsym _ _ w5
          · rw [if_neg z] at hne ⊢
            by_cases y : i = j
            · rw [if_pos y, y]
              exact w5
            · rw [if_neg y] at hne ⊢
              exact i7 i hi hne
        · show cnt (fun i => !(nsd (nsd L (2 ^ j)) (2 ^ w)).testBit i && decide (pX ((xs.set j (nI w)).set w (nI j)) i = i)) s + cnt (fun i => (nsd (nsd L (2 ^ j)) (2 ^ w)).testBit i) s + 2 * nu nr s (2 ^ s - 1) = s + 2 * nu nr s (nsd (nsd L (2 ^ j)) (2 ^ w))
          rw [cnt_eq (X := fun i => !(nsd (nsd L (2 ^ j)) (2 ^ w)).testBit i && decide (pX ((xs.set j (nI w)).set w (nI j)) i = i)) (Y := fun i => !L.testBit i && decide (pX xs i = i)) s (fun i _ => by
            show (!(nsd (nsd L (2 ^ j)) (2 ^ w)).testBit i && decide (pX ((xs.set j (nI w)).set w (nI j)) i = i)) = (!L.testBit i && decide (pX xs i = i))
            rw [ex, nsd_bit, nsd_bit, nb_pow, nb_pow]
            by_cases z : i = w
            · rw [if_pos z, decide_eq_false (fun y : j = i => jw (y.trans z)), Bool.and_false, z, wL]
              rfl
            · rw [if_neg z]
              by_cases y : i = j
              · rw [if_pos y, decide_eq_false (fun x : w = i => jw (x.trans y).symm), Bool.and_false, y, e]
                rfl
              · rw [if_neg y, decide_eq_false (fun x : j = i => y x.symm), decide_eq_false (fun x : w = i => z x.symm)]
                cases L.testBit i <;> rfl)]
          omega
    · rw [if_neg e]
      refine ⟨i1, fun i hi => ?_, i3, i4, i5, i6, i7, i8⟩
      have := i2 i hi
      rcases Nat.lt_or_ge j i with z | z
      · exact z
      · have : i = j := by omega
        rw [this] at hi
        exact absurd hi e
/-- the written pairing is accepted -/
theorem wp_ok {nr : Nat → Nat} {s b : Nat} (hs : s ≤ 9) (hsym : ∀ u w, (nr u).testBit w = true → (nr w).testBit u = true) (hb : s - 2 * nu nr s (2 ^ s - 1) ≤ b) : pairOK s nr b (wpG nr s s).2 := by
  obtain ⟨i1, i2, i3, i4, i5, i6, i7, i8⟩ := wp_inv hs hsym s (Nat.le_refl _)
  have z : ∀ i, i < s → (wpG nr s s).1.testBit i = false := fun i hi => by
    cases e : (wpG nr s s).1.testBit i with
    | false => rfl
    | true =>
      have := i2 i e
      omega
  have e0 : (wpG nr s s).1 = 0 := nb_ext fun i => by
    rw [Nat.zero_testBit]
    by_cases hi : i < s
    · exact z i hi
    · exact nb_big i1 (by omega)
  rw [cnt_0 (X := fun i => (wpG nr s s).1.testBit i) s z, e0, nu_0, cnt_eq (X := fun i => !Nat.testBit 0 i && decide (pX (wpG nr s s).2 i = i)) (Y := fun i => decide (pX (wpG nr s s).2 i = i)) s (fun i _ => by rw [Nat.zero_testBit]; rfl)] at i8
  exact ⟨⟨i3, i4⟩, i5, i7, by omega⟩
end
