/-! THE PURE PART, clauses: the solver; the kept row is accepted. -/
section
def orF (T s : Nat) : Nat → Nat
  | 0 => 0
  | j + 1 => if T.testBit (s - 1 - j) = true then orF T s j ||| 2 ^ j else orF T s j
theorem orF_bit {T s i : Nat} : ∀ j, (orF T s j).testBit i = true ↔ i < j ∧ T.testBit (s - 1 - i) = true
  | 0 => by
    rw [orF, Nat.zero_testBit]
    exact ⟨fun h => absurd h (by decide), fun h => absurd h.1 (Nat.not_lt_zero _)⟩
  | j + 1 => by
    have ih := orF_bit (T := T) (s := s) (i := i) j
    rw [orF]
    by_cases e : T.testBit (s - 1 - j) = true
    · rw [if_pos e, Nat.testBit_or, nb_pow, Bool.or_eq_true, decide_eq_true_eq, ih]
      constructor
      · rintro (⟨a, b⟩ | a)
        · exact ⟨by omega, b⟩
        · rw [← a]
          exact ⟨by omega, e⟩
      · rintro ⟨a, b⟩
        by_cases z : j = i
        · exact Or.inr z
        · exact Or.inl ⟨by omega, b⟩
    · rw [if_neg e, ih]
      constructor
      · rintro ⟨a, b⟩
        exact ⟨by omega, b⟩
      · rintro ⟨a, b⟩
        by_cases z : i = j
        · rw [z] at b
          exact absurd b e
        · exact ⟨by omega, b⟩
theorem orF_lt {T s j : Nat} : orF T s j < 2 ^ j := nb_lt fun i hi => by
  cases e : (orF T s j).testBit i with
  | false => rfl
  | true =>
    have := ((orF_bit j).mp e).1
    omega
theorem orF_on {T s : Nat} (hs : s ≤ 6) (hT : T < 2 ^ s) : orF T s s = on (2 ^ s + T) := by
  obtain ⟨_, _, r3, r4⟩ := nd_rv s (by omega) T hT
  refine nb_ext fun i => ?_
  by_cases hi : i < s
  · rw [r4 i hi, Bool.eq_iff_iff, orF_bit]
    exact ⟨fun h => h.2, fun h => ⟨hi, h⟩⟩
  · rw [nb_big r3 (by omega), nb_big orF_lt (by omega)]
def okB (d : Nat → Int32) (m s b x : Nat) : Bool := decide (pop (on x) ≤ b) && decide (biN d s (on x) m 0 = 0)
theorem okB_iff {d : Nat → Int32} {m s b x : Nat} : okB d m s b x = true ↔ okX d m s b x := by
  unfold okB okX
  rw [Bool.and_eq_true, decide_eq_true_eq, decide_eq_true_eq]
  refine and_congr Iff.rfl ⟨fun h i hi => ?_, fun h => ?_⟩
  · rcases biN_spec (d := d) (D := s) (ones := on x) m 0 with ⟨_, c⟩ | ⟨a, _, _⟩
    · exact c i (Nat.zero_le _) (by omega)
    · omega
  · rcases biN_spec (d := d) (D := s) (ones := on x) m 0 with ⟨a, _⟩ | ⟨a, c, g⟩
    · exact a
    · have := h _ (show biN d s (on x) m 0 - 1 < m by omega)
      rw [g] at this
      exact absurd this (by decide)
theorem T_isFulfilled {F e s m b T : Nat} {d : Nat → Int32} {V : mV} (hF : 2 ^ 12 ≤ F) (he : 256 ≤ e) (hs : s ≤ 6) (h0 : 0 < s) (hm : m ≤ 12) (hb : b < 2 ^ 20) (hd : qS d m s) (hq : enQ V e s m (nI b) d) (hT : T < 2 ^ s) : mTo (mX1_isFulfilled F e (nI T) V) (fun p => ((p.1 = 0 ∨ p.1 = 1) ∧ (p.1 ≠ 0 ↔ okB d m s b (2 ^ s + T) = true)) ∧ mAv (wX1_isFulfilled e) V p.2) := by
  have p6 : (2 : Nat) ^ s ≤ 2 ^ 6 := Nat.pow_le_pow_right (by decide) hs
  have go : ∀ k' j (V : mV), s < j + k' → j ≤ s → V.fI 5 4 = nI s → V.fI 5 5 = nI (orF T s j) → enQ V e s m (nI b) d → mTo (mX1_isFulfilled_go F k' 0 e (nI T) (nI j) V) (fun p => (p.1 = 0 ∨ p.1 = 1) ∧ (p.1 ≠ 0 ↔ okB d m s b (2 ^ s + T) = true)) := by
    intro k'
    induction k' with
    | zero => intro j V h1 h2; omega
    | succ k ih =>
      intro j V h1 h2 h4 h5 hq
      have ol := orF_lt (T := T) (s := s) (j := j)
      have o6 : orF T s j < 2 ^ 6 := Nat.lt_of_lt_of_le ol (Nat.pow_le_pow_right (by decide) (by omega))
      rw [mX1_isFulfilled_go, if_pos rfl]
      unfold mX1_isFulfilled_b0
      refine mTo.le h4 rfl (by omega) (by omega) (fun h => ?_) (fun h => ?_)
      · have : j = s := by omega
        subst this
        have pn : pop (orF T j j) ≤ 11 := cnt_n 11
        unfold okB
        rw [← orF_on hs hT]
        refine mTo.so (by rw [h5]; exact T_pop (by omega)) (mTo.ltI hq.2.2.1 rfl (by omega) (by omega) (fun z => mTo.ret ⟨Or.inl rfl, fun y => absurd rfl y, fun y => ?_⟩) (fun z => mTo.N (T_brokenItem (by omega) hs hm hd hq h4 h5 hs o6) (fun v _ hv => ?_)))
        · rw [decide_eq_false (by omega), Bool.false_and] at y
          exact absurd y (by decide)
        · subst hv
          have bl : biN d j (orF T j j) m 0 ≤ m := by
            rcases biN_spec (d := d) (D := j) (ones := orF T j j) m 0 with ⟨a, _⟩ | ⟨_, a, _⟩ <;> omega
          by_cases c : biN d j (orF T j j) m 0 = 0
          · rw [if_neg (fun y => (nI_m1_neg (by omega)).mp y c)]
            exact mTo.ret ⟨Or.inr rfl, fun _ => by rw [decide_eq_true z, decide_eq_true c]; rfl, fun _ => (by decide : (1 : Int32) ≠ 0)⟩
          · rw [if_pos ((nI_m1_neg (by omega)).mpr c)]
            refine mTo.ret ⟨Or.inl rfl, fun y => absurd rfl y, fun y => ?_⟩
            rw [decide_eq_false c, Bool.and_false] at y
            exact absurd y (by decide)
      · obtain ⟨t, rfl⟩ : ∃ t, s = t + 1 := ⟨s - 1, by omega⟩
        have ix : V.fI 5 4 - 1 - nI j = nI (t + 1 - 1 - j) := by rw [h4, nI_pred, pk_sub (by omega)]; rfl
        rw [ix]
        have g := ih (j + 1)
        rw [orF] at g
        refine mTo.hs rfl rfl (by omega) (by omega) (fun hb => mTo.lt ?_) (fun hb => mTo.lt (mTo.lt ?_))
        · rw [if_neg (by rw [hb]; decide)] at g
          rw [nI_1]
          exact g V (by omega) (by omega) h4 h5 hq
        · rw [if_pos hb] at g
          rw [nI_1, h5, nb_one (by omega), nb_or]
          exact g _ (by omega) (by omega) (by rw [mF_no (Or.inr (by decide))]; exact h4) mF_at ⟨by rw [mF_no (Or.inl (by omega))]; exact hq.1, by rw [mF_no (Or.inl (by omega))]; exact hq.2.1, by rw [mF_no (Or.inl (by omega))]; exact hq.2.2.1, hq.2.2.2⟩
  have main : mTo (mX1_isFulfilled F e (nI T) V) (fun p => (p.1 = 0 ∨ p.1 = 1) ∧ (p.1 ≠ 0 ↔ okB d m s b (2 ^ s + T) = true)) := by
    unfold mX1_isFulfilled mX1_isFulfilled_s
    refine mTo.lt (mTo.lt ?_)
    exact go F 0 _ (by omega) (Nat.zero_le _) (by rw [mF_no (Or.inr (by decide)), mF_at]; exact hq.1) mF_at ⟨by rw [mF_no (Or.inl (by omega)), mF_no (Or.inl (by omega))]; exact hq.1, by rw [mF_no (Or.inl (by omega)), mF_no (Or.inl (by omega))]; exact hq.2.1, by rw [mF_no (Or.inl (by omega)), mF_no (Or.inl (by omega))]; exact hq.2.2.1, hq.2.2.2⟩
  obtain ⟨p, e1, q⟩ := main
  exact ⟨p, e1, q, NX1_isFulfilled (v := p.1) e1⟩
def trG (T s j : Nat) : Nat := if T.testBit (s - 1 - j) = true then 1 else 0
theorem T_writeTruths {F r s T : Nat} {Ln : Nat → Nat} {V : mV} (hF : 64 ≤ F) (hk : mK r = 9) (hs : s ≤ 6) (h0 : 0 < s) (hT : T < 2 ^ s) (hR : rowIs Ln V r []) : mTo (mX1_writeTruths F Ln (nI T) (nI s) r V) (fun p => rowIs p.2.1 p.2.2 r (rwL (trG T s) s) ∧ mAv (wX1_writeTruths r) V p.2.2) := by
  have p6 : (2 : Nat) ^ s ≤ 2 ^ 6 := Nat.pow_le_pow_right (by decide) hs
  have go : ∀ k' j Ln (V : mV), s < j + k' → j ≤ s → rowIs Ln V r (rwL (trG T s) j) → mTo (mX1_writeTruths_go F k' 0 Ln (nI T) (nI s) r (nI j) V) (fun p => rowIs p.2.1 p.2.2 r (rwL (trG T s) s)) := by
    intro k'
    induction k' with
    | zero => intro j Ln V h1 h2; omega
    | succ k ih =>
      intro j Ln V h1 h2 hR
      rw [mX1_writeTruths_go, if_pos rfl]
      unfold mX1_writeTruths_b0
      refine mTo.le rfl rfl (by omega) (by omega) (fun h => mTo.ret ?_) (fun h => ?_)
      · have : j = s := by omega
        subst this
        exact hR
      · obtain ⟨t, rfl⟩ : ∃ t, s = t + 1 := ⟨s - 1, by omega⟩
        have ix : nI (t + 1) - 1 - nI j = nI (t + 1 - 1 - j) := by rw [nI_pred, pk_sub (by omega)]; rfl
        rw [ix]
        have g := ih (j + 1)
        rw [rwL] at g
        refine mTo.hs rfl rfl (by omega) (by omega) (fun hb => mTo.A (T_radd hk hR (by rw [rwL_len]; omega)) (fun a L1 V1 _ q => mTo.lt ?_)) (fun hb => mTo.A (T_radd hk hR (by rw [rwL_len]; omega)) (fun a L1 V1 _ q => mTo.lt ?_))
        · have e : trG T (t + 1) j = 0 := by unfold trG; rw [hb, if_neg (by decide)]
          rw [e] at g
          rw [nI_1]
          exact g L1 V1 (by omega) (by omega) q.1
        · have e : trG T (t + 1) j = 1 := by unfold trG; rw [hb, if_pos rfl]
          rw [e] at g
          rw [nI_1]
          exact g L1 V1 (by omega) (by omega) q.1
  have main : mTo (mX1_writeTruths F Ln (nI T) (nI s) r V) (fun p => rowIs p.2.1 p.2.2 r (rwL (trG T s) s)) := by
    unfold mX1_writeTruths mX1_writeTruths_s
    exact go F 0 Ln V (by omega) (Nat.zero_le _) hR
  obtain ⟨p, e1, q⟩ := main
  exact ⟨p, e1, q, (NX1_writeTruths (v := p.1) (Ln1 := p.2.1) (V1 := p.2.2) e1).1⟩
theorem T_codeOf {F e s m i : Nat} {b : Int32} {d : Nat → Int32} {V : mV} (hF : 8 ≤ F) (hm : m ≤ 12) (hq : enQ V e s m b d) (hi : i < m) : mTo (mX1_codeOf F e (nI i) V) (fun _ => True) := by
  have go : ∀ k' k (x : Int32), 3 < k + k' → k ≤ 3 → mTo (mX1_codeOf_go F k' 0 e (nI i) x (nI k) V) (fun _ => True) := by
    intro k'
    induction k' with
    | zero => intro k x h1 h2; omega
    | succ y ih =>
      intro k x h1 h2
      rw [mX1_codeOf_go, if_pos rfl]
      unfold mX1_codeOf_b0
      refine mTo.le (a := 3) rfl rfl (by omega) (by omega) (fun h => mTo.ret trivial) (fun h => ?_)
      refine mTo.so (T_item (k := k) hq.2.1 (by omega) hi (by omega) rfl rfl) ?_
      rw [nI_1]
      exact mTo.ite (fun _ => mTo.ite (fun _ => mTo.lt (ih (k + 1) _ (by omega) (by omega))) (fun _ => mTo.lt (mTo.lt (ih (k + 1) _ (by omega) (by omega))))) (fun _ => mTo.lt (mTo.lt (ih (k + 1) _ (by omega) (by omega))))
  unfold mX1_codeOf mX1_codeOf_s
  exact go F 0 0 (by omega) (Nat.zero_le _)
def lfN (d : Nat → Int32) (m b n : Nat) : Bool := decide (biN d (dp n) (on n) m 0 ≠ 0) || decide (b < pop (on n))
def itN (d : Nat → Int32) (m n : Nat) : Int32 := nI (biN d (dp n) (on n) m 0) - 1
def gtL (d : Nat → Int32) (m b : Nat) : Nat → Nat → List Int32
  | 0, _ => []
  | k + 1, n => if n = 0 then [] else if lfN d m b n = true then itN d m n :: gtL d m b k (nx8 n) else gtL d m b k (2 * n)
/-- nothing fulfils: at the depth s each node is a leaf -/
theorem lf_deep {d : Nat → Int32} {m s b n : Nat} (hs : s ≤ 6) (h0 : 0 < n) (h2 : n < 2 ^ (s + 1)) (hn : ∀ x, 2 ^ s ≤ x → x < 2 ^ (s + 1) → ¬ okX d m s b x) (h : lfN d m b n = false) : dp n < s := by
  have p6 : (2 : Nat) ^ (s + 1) ≤ 2 ^ 7 := Nat.pow_le_pow_right (by decide) (by omega)
  obtain ⟨l1, l2, l3, l4⟩ := nd_lt n (by omega) h0
  rcases Nat.lt_or_ge (dp n) s with z | z
  · exact z
  · have : dp n = s := by
      rcases Nat.lt_or_ge s (dp n) with y | y
      · have : (2 : Nat) ^ (s + 1) ≤ 2 ^ dp n := Nat.pow_le_pow_right (by decide) y
        omega
      · omega
    rw [this] at l3
    refine absurd ?_ (hn n l3 h2)
    unfold lfN at h
    rw [Bool.or_eq_false_iff, decide_eq_false_iff_not, decide_eq_false_iff_not, this] at h
    rw [← okB_iff]
    unfold okB
    rw [decide_eq_true (show pop (on n) ≤ b by omega), decide_eq_true (Decidable.not_not.mp h.1)]
    rfl
theorem nx_lt {s n : Nat} (hs : s ≤ 6) (h0 : 0 < n) (h2 : n < 2 ^ (s + 1)) : nx8 n < 2 ^ (s + 1) := by
  have p6 : (2 : Nat) ^ (s + 1) ≤ 2 ^ 7 := Nat.pow_le_pow_right (by decide) (by omega)
  have pp := Nat.two_pow_pos (s + 1)
  obtain ⟨l1, l2, l3, l4⟩ := nd_lt n (by omega) h0
  rcases nd_nx n (by omega) h0 with ⟨c, _⟩ | ⟨c1, c2, c3, c4⟩
  · omega
  · have := (nd_lt (nx8 n) c2 c1).2.2.2
    have : (2 : Nat) ^ (dp (nx8 n) + 1) ≤ 2 ^ (s + 1) := Nat.pow_le_pow_right (by decide) (by
      rcases Nat.lt_or_ge (s + 1) (dp (nx8 n) + 1) with y | y
      · exfalso
        have : (2 : Nat) ^ (s + 1) ≤ 2 ^ dp n := Nat.pow_le_pow_right (by decide) (by omega)
        omega
      · exact y)
    omega
theorem dbl_lt {s n : Nat} (hs : s ≤ 6) (h0 : 0 < n) (h2 : n < 2 ^ (s + 1)) (hd : dp n < s) : 2 * n < 2 ^ (s + 1) := by
  have p6 : (2 : Nat) ^ (s + 1) ≤ 2 ^ 7 := Nat.pow_le_pow_right (by decide) (by omega)
  obtain ⟨l1, l2, l3, l4⟩ := nd_lt n (by omega) h0
  have s2 : (2 : Nat) ^ (dp n + 1) ≤ 2 ^ s := Nat.pow_le_pow_right (by decide) hd
  have ps : (2 : Nat) ^ (s + 1) = 2 * 2 ^ s := by rw [Nat.pow_succ, Nat.mul_comm]
  omega
theorem gt_run {d : Nat → Int32} {m s b : Nat} (hs : s ≤ 6) (hm : m ≤ 12) (hn : ∀ x, 2 ^ s ≤ x → x < 2 ^ (s + 1) → ¬ okX d m s b x) : ∀ k n acc, rem s 128 n < k → n < 2 ^ (s + 1) → rowM1 m (gtL d m b k n) ∧ trRun d s b (acc ++ gtL d m b k n) k acc.length n = 0 := by
  have p6 : (2 : Nat) ^ (s + 1) ≤ 2 ^ 7 := Nat.pow_le_pow_right (by decide) (by omega)
  intro k
  induction k with
  | zero => intro n acc h; omega
  | succ k ih =>
    intro n acc h1 h2
    rw [gtL, trRun]
    by_cases n0 : n = 0
    · rw [if_pos n0, if_pos n0, List.append_nil, if_pos rfl]
      exact ⟨fun i hi => absurd hi (Nat.not_lt_zero _), rfl⟩
    · rw [if_neg n0, if_neg n0]
      have bl : biN d (dp n) (on n) m 0 ≤ m := by
        rcases biN_spec (d := d) (D := dp n) (ones := on n) m 0 with ⟨a, _⟩ | ⟨_, a, _⟩ <;> omega
      by_cases lf : lfN d m b n = true
      · rw [if_pos lf]
        obtain ⟨i1, i2⟩ := ih (nx8 n) (acc ++ [itN d m n]) (by have := nd_rem3 s (by omega) n (by omega) h2 (by omega); omega) (nx_lt hs (by omega) h2)
        have at0 : (acc ++ itN d m n :: gtL d m b k (nx8 n)).getD acc.length 0 = itN d m n := by
          rw [List.getD_eq_getElem?_getD, List.getElem?_append, if_neg (Nat.lt_irrefl _), Nat.sub_self]
          rfl
        have ok : lfOK d b n (itN d m n) = true := by
          unfold lfOK itN
          rcases biN_spec (d := d) (D := dp n) (ones := on n) m 0 with ⟨a, c⟩ | ⟨a, c, g⟩
          · rw [a, if_pos (by decide)]
            unfold lfN at lf
            rw [a, decide_eq_false (fun z => z rfl), Bool.false_or] at lf
            exact lf
          · obtain ⟨t, ht⟩ : ∃ t, biN d (dp n) (on n) m 0 = t + 1 := ⟨biN d (dp n) (on n) m 0 - 1, by omega⟩
            rw [ht, nI_pred, if_neg (nI_pos (by omega)), nI_clamp (by omega)]
            rw [ht] at g
            exact g
        refine ⟨fun i hi => ?_, ?_⟩
        · cases i with
          | zero =>
            show itN d m n = -1 ∨ ∃ j, j < m ∧ itN d m n = nI j
            unfold itN
            cases hb : biN d (dp n) (on n) m 0 with
            | zero => exact Or.inl (by decide)
            | succ t => exact Or.inr ⟨t, by omega, nI_pred t⟩
          | succ i =>
            rw [List.length_cons] at hi
            exact i1 i (by omega)
        · rw [at0, if_pos ⟨by rw [List.length_append, List.length_cons]; omega, ok⟩]
          rw [List.append_assoc, List.length_append] at i2
          exact i2
      · rw [if_neg lf]
        have lf := Bool.eq_false_iff.mpr lf
        have ds := lf_deep hs (by omega) h2 hn lf
        obtain ⟨i1, i2⟩ := ih (2 * n) acc (by have := nd_rem2 s (by omega) n (by omega) h2 (by omega) ds; omega) (dbl_lt hs (by omega) h2 ds)
        refine ⟨i1, ?_⟩
        rw [if_neg, if_pos ds]
        · exact i2
        · rintro ⟨z1, z2⟩
          rw [List.length_append] at z1
          rw [List.getD_eq_getElem?_getD, List.getElem?_append, if_neg (Nat.lt_irrefl _), Nat.sub_self, ← List.getD_eq_getElem?_getD] at z2
          unfold lfN at lf
          rw [Bool.or_eq_false_iff, decide_eq_false_iff_not, decide_eq_false_iff_not] at lf
          unfold lfOK at z2
          rcases i1 0 (by omega) with y | ⟨j, j1, y⟩
          · rw [y, if_pos (by decide), decide_eq_true_eq] at z2
            exact lf.2 z2
          · rw [y, if_neg (nI_pos (by omega)), nI_clamp (by omega)] at z2
            rcases biN_spec (d := d) (D := dp n) (ones := on n) m 0 with ⟨_, c⟩ | ⟨a, _, _⟩
            · rw [c j (Nat.zero_le _) (by omega)] at z2
              exact absurd z2 (by decide)
            · exact lf.1 (by omega)
theorem gtL_len {d : Nat → Int32} {m b : Nat} : ∀ k n, (gtL d m b k n).length ≤ k
  | 0, _ => Nat.le_refl _
  | k + 1, n => by
    have i1 := gtL_len (d := d) (m := m) (b := b) k (nx8 n)
    have i2 := gtL_len (d := d) (m := m) (b := b) k (2 * n)
    rw [gtL]
    by_cases n0 : n = 0
    · rw [if_pos n0]
      exact Nat.zero_le _
    · rw [if_neg n0]
      by_cases lf : lfN d m b n = true
      · rw [if_pos lf, List.length_cons]
        omega
      · rw [if_neg lf]
        omega
theorem T_goThrough {F e r s m b : Nat} {Ln : Nat → Nat} {d : Nat → Int32} {V : mV} (hF : 2 ^ 12 ≤ F) (he : 256 ≤ e) (her : e ≠ r ∧ e + 1 ≠ r ∧ e ≠ r + 1 ∧ e + 1 ≠ r + 1 ∧ e < 2999) (hr : 256 ≤ r) (hk : mK r = 9) (hs : s ≤ 6) (h0 : 0 < s) (hm : m ≤ 12) (hb : b < 2 ^ 20) (hd : qS d m s) (hn : ∀ x, 2 ^ s ≤ x → x < 2 ^ (s + 1) → ¬ okX d m s b x) (hq : enQ V e s m (nI b) d) (hR : rowIs Ln V r []) : mTo (mX1_goThrough F Ln e r V) (fun p => rowIs p.2.1 p.2.2 r (gtL d m b 129 1)) := by
  have p6 : (2 : Nat) ^ (s + 1) ≤ 2 ^ 7 := Nat.pow_le_pow_right (by decide) (by omega)
  have go : ∀ t k' n acc Ln (V : mV), 2 * t < k' → t ≤ 128 → n < 2 ^ (s + 1) → rem s 128 n ≤ t → acc.length + t ≤ 140 → (n = 0 → V.fI 5 6 = 1) → (0 < n → clS V n ∧ V.fI 5 6 = 0 ∧ dvS V) → enQ V e s m (nI b) d → rowIs Ln V r acc → mTo (mX1_goThrough_go F k' 0 Ln e r (nI (128 - t)) 0 V) (fun p => rowIs p.2.1 p.2.2 r (acc ++ gtL d m b (t + 1) n)) := by
    intro t
    induction t with
    | zero =>
      intro k' n acc Ln V h1 h2 h3 h4 h5 hz hp hq hR
      obtain ⟨x, rfl⟩ : ∃ x, k' = x + 1 := ⟨k' - 1, by omega⟩
      have n0 : n = 0 := by
        rcases Nat.eq_zero_or_pos n with z | z
        · exact z
        · have := nd_rem3 s (by omega) n (by omega) h3 z
          omega
      subst n0
      rw [mX1_goThrough_go, if_pos rfl]
      unfold mX1_goThrough_b0
      rw [gtL, if_pos rfl, if_pos (by decide), List.append_nil]
      exact mTo.ret hR
    | succ t ih =>
      intro k' n acc Ln V h1 h2 h3 h4 h5 hz hp hq hR
      obtain ⟨x, rfl⟩ : ∃ x, k' = x + 1 := ⟨k' - 1, by omega⟩
      rw [mX1_goThrough_go, if_pos rfl]
      unfold mX1_goThrough_b0
      rw [gtL]
      refine mTo.le (a := 128) rfl rfl (by omega) (by omega) (fun z => by omega) (fun _ => ?_)
      by_cases n0 : n = 0
      · rw [if_pos n0, hz n0, if_neg (by decide), List.append_nil]
        exact mTo.ret hR
      · rw [if_neg n0]
        obtain ⟨a3, a4, a5⟩ := hp (by omega)
        obtain ⟨l1, l2, l3, l4⟩ := nd_lt n (by omega) (by omega)
        have l6 : on n < 2 ^ 6 := Nat.lt_of_lt_of_le l2 (Nat.pow_le_pow_right (by decide) l1)
        have e128 : 128 - (t + 1) + 1 = 128 - t := by omega
        have bl : biN d (dp n) (on n) m 0 ≤ m := by
          rcases biN_spec (d := d) (D := dp n) (ones := on n) m 0 with ⟨a, _⟩ | ⟨_, a, _⟩ <;> omega
        have pn : pop (on n) ≤ 11 := cnt_n 11
        have r3 := nd_rem3 s (by omega) n (by omega) h3 (by omega)
        rw [a4, if_pos rfl]
        refine mTo.N (T_brokenItem (by omega) hs hm hd hq a3.1 a3.2 l1 l6) (fun v _ hv => ?_)
        have hv : v = itN d m n := hv
        -- a leaf
        have leaf : lfN d m b n = true → mTo (mX1_goThrough_go F x 1 Ln e r (nI (128 - (t + 1))) (itN d m n) V) (fun p => rowIs p.2.1 p.2.2 r (acc ++ (itN d m n :: gtL d m b (t + 1) (nx8 n)))) := fun lf => by
          obtain ⟨y, rfl⟩ : ∃ y, x = y + 1 := ⟨x - 1, by omega⟩
          rw [mX1_goThrough_go, if_neg (by decide), if_pos rfl]
          unfold mX1_goThrough_b1
          refine mTo.A (T_radd hk hR (by omega)) (fun a L1 V1 _ q => ?_)
          obtain ⟨q1, q2, _⟩ := q
          have q2 : mAv (wX9_add r) V V1 := q2
          have f5 : V1.fI 5 = V.fI 5 := (q2.1 5 (by unfold wX9_add; omega)).1
          have hq1 := hq.mv q2 (by unfold wX9_add; omega) (by unfold wX9_add; omega)
          obtain ⟨cc, sc, c1, c2, c3, c4⟩ := a5
          have dv1 : dvS V1 := ⟨cc, sc, c1, c2, by rw [f5, c3], by rw [f5, c4]⟩
          have cl1 : clS V1 n := ⟨by rw [f5, a3.1], by rw [f5, a3.2]⟩
          have z1 : V1.fI 5 6 = 0 := by rw [f5, a4]
          have fin : ∀ w : Int32, mTo (mBW (mX1_derive F w V1) fun v23 V24 => (mBW (mX1_goBack F V24) fun v28 V29 => (mLt (nI (128 - (t + 1)) + (1 : Int32)) fun x33 => (mX1_goThrough_go F y 0 L1 e r (x33) 0 V29)))) (fun p => rowIs p.2.1 p.2.2 r (acc ++ (itN d m n :: gtL d m b (t + 1) (nx8 n)))) := fun w => by
            obtain ⟨p, e1, k1, k2⟩ := T_derive (F := F) (x := w) dv1
            have fr := NX1_derive (v := p.1) e1
            refine mTo.W (Q := fun p => dvS p.2 ∧ keep5 V1 p.2) ⟨p, e1, k1, k2⟩ (fun a V2 h9 q' => ?_)
            rw [e1] at h9
            cases h9
            obtain ⟨k3, k4, k5, k6⟩ := q'
            have hq2 := hq1.mv fr (by unfold wX1_derive; omega) (by unfold wX1_derive; omega)
            have hR2 := q1.mv fr (by unfold wX1_derive; omega) (by unfold wX1_derive; omega)
            refine mTo.W (T_goBack (n := n) (by omega) (by omega) (by omega) ⟨by rw [show V2.fI 5 4 = _ from k4, cl1.1], by rw [show V2.fI 5 5 = _ from k5, cl1.2]⟩ (by rw [show V2.fI 5 6 = _ from k6, z1]) k3) (fun a V3 _ q => mTo.lt ?_)
            obtain ⟨⟨g1, g2⟩, g3⟩ := q
            rw [nI_1, e128]
            have g := ih y (nx8 n) (acc ++ [itN d m n]) L1 V3 (by omega) (by omega) (nx_lt hs (by omega) h3) (by omega) (by rw [List.length_append]; show acc.length + 1 + t ≤ 140; omega) (fun w => by
              rcases g2 with ⟨_, c⟩ | ⟨c, _⟩
              · exact c
              · exact absurd w c) (fun w => by
              rcases g2 with ⟨c, _⟩ | ⟨_, c1, c2⟩
              · omega
              · exact ⟨c1, c2, g1⟩) (dv_mv hq2 he g3) (hR2.mv g3 (by unfold wX1_goBack; omega) (by unfold wX1_goBack; omega))
            rw [List.append_assoc] at g
            exact g
          refine mTo.ite (fun _ => fin _) (fun hneg => ?_)
          have : ∃ i, i < m ∧ itN d m n = nI i := by
            unfold itN at hneg ⊢
            cases hb : biN d (dp n) (on n) m 0 with
            | zero => rw [hb] at hneg; exact absurd (by decide) hneg
            | succ i => exact ⟨i, by omega, nI_pred i⟩
          obtain ⟨i, i1, i2⟩ := this
          rw [i2] at fin ⊢
          exact mTo.N (T_codeOf (by omega) hm hq1 i1) (fun w _ _ => fin w)
        rw [hv]
        by_cases c : biN d (dp n) (on n) m 0 = 0
        · have e1 : itN d m n = -1 := by unfold itN; rw [c]; decide
          rw [if_neg (by rw [e1]; decide)]
          refine mTo.so (by rw [a3.2]; exact T_pop (by omega)) (mTo.le rfl hq.2.2.1 (by omega) (by omega) (fun z => mTo.lt (mTo.lt ?_)) (fun z => ?_))
          · have lf : lfN d m b n = false := by
              unfold lfN
              rw [c, decide_eq_false (fun z => z rfl), decide_eq_false (by omega)]
              rfl
            have ds := lf_deep hs (by omega) h3 hn lf
            have u3 := nd_rem2 s (by omega) n (by omega) h3 (by omega) ds
            obtain ⟨u1, u2⟩ := nd_dn n (by have := dbl_lt hs (by omega) h3 ds; omega) (by omega)
            obtain ⟨cc, sc, c1, c2, c3, c4⟩ := a5
            rw [lf, if_neg (by decide), nI_1, e128, a3.1, nI_1]
            exact ih x (2 * n) acc Ln _ (by omega) (by omega) (dbl_lt hs (by omega) h3 ds) (by omega) (by omega) (fun y => by omega) (fun _ => ⟨⟨by rw [mF_at, u1], by rw [mF_no (Or.inr (by decide)), a3.2, u2]⟩, by rw [mF_no (Or.inr (by decide)), a4], cc, sc, c1, c2, by rw [mF_no (Or.inr (by decide)), c3], by rw [mF_no (Or.inr (by decide)), c4]⟩) ⟨by rw [mF_no (Or.inl (by omega))]; exact hq.1, by rw [mF_no (Or.inl (by omega))]; exact hq.2.1, by rw [mF_no (Or.inl (by omega))]; exact hq.2.2.1, hq.2.2.2⟩ ⟨by rw [mF_no (Or.inl (by omega))]; exact hR.1, hR.2.1, hR.2.2.1, hR.2.2.2⟩
          · have lf : lfN d m b n = true := by
              unfold lfN
              rw [decide_eq_true z, Bool.or_true]
            rw [if_pos lf]
            exact leaf lf
        · have lf : lfN d m b n = true := by
            unfold lfN
            rw [decide_eq_true c, Bool.true_or]
          rw [if_pos (show 0 ≤ itN d m n from (nI_m1_neg (by omega)).mpr c), if_pos lf]
          exact leaf lf
  unfold mX1_goThrough mX1_goThrough_s
  have bg : mTo (mX1_begin F V) (fun p => clS p.2 1 ∧ p.2.fI 5 6 = 0 ∧ dvS p.2) := by
    unfold mX1_begin
    refine mTo.lt (mTo.lt (mTo.lt (mTo.lt (mTo.lt (mTo.ret ⟨⟨?_, ?_⟩, ?_, 0, 0, by omega, by omega, ?_, ?_⟩)))))
    · rw [mF_no (Or.inr (by decide)), mF_no (Or.inr (by decide)), mF_no (Or.inr (by decide)), mF_no (Or.inr (by decide)), mF_at]
      decide
    · rw [mF_no (Or.inr (by decide)), mF_no (Or.inr (by decide)), mF_no (Or.inr (by decide)), mF_at]
      decide
    · rw [mF_no (Or.inr (by decide)), mF_no (Or.inr (by decide)), mF_at]
    · rw [mF_no (Or.inr (by decide)), mF_at]
      rfl
    · rw [mF_at]
      rfl
  obtain ⟨p, e1, q⟩ := bg
  have fr := NX1_begin (v := p.1) e1
  refine mTo.W (Q := fun p => clS p.2 1 ∧ p.2.fI 5 6 = 0 ∧ dvS p.2) ⟨p, e1, q⟩ (fun a V1 h3 q' => ?_)
  rw [e1] at h3
  cases h3
  have r1 := nd_rem1 s (by omega) h0
  have p0 : (2 : Nat) ^ 1 ≤ 2 ^ (s + 1) := Nat.pow_le_pow_right (by decide) (by omega)
  exact go 128 F 1 [] Ln V1 (by omega) (by omega) (by omega) (by omega) (by show 0 + 128 ≤ 140; omega) (fun z => by omega) (fun _ => q') (hq.mv fr (by unfold wX1_begin; omega) (by unfold wX1_begin; omega)) (hR.mv fr (by unfold wX1_begin; omega) (by unfold wX1_begin; omega))
end
