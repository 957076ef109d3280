/-! THE PURE PART: the neighbours of each node; the lowest of a set; how many are in it. -/
section
theorem T_item {F : Nat} {V : mV} {e m j k : Nat} {kx x : Int32} (hm : V.fI e 6 = nI m) (h16 : m ≤ 16) (hj : j < m) (hk : k < 5) (hx : kx = nI k) (hv : V.rI (e + 1) (5 * j + k) = x) : mX3_at F e (nI j) kx V = some x := by
  obtain ⟨v, h1, h2⟩ := T_X3_c (F := F) (j := j) hx hm h16 (by omega) hk
  rw [if_pos hj, hv] at h2
  rw [h1, h2]
def nearN (P : Nat → Bool) (A B : Nat → Nat) : Nat → Nat → Nat
  | 0, _ => 0
  | i + 1, v => if P i = true then (if B i = v then (if A i = v then nearN P A B i v ||| 2 ^ B i else nearN P A B i v) ||| 2 ^ A i else (if A i = v then nearN P A B i v ||| 2 ^ B i else nearN P A B i v)) else nearN P A B i v
theorem nearN_bit {P : Nat → Bool} {A B : Nat → Nat} {v u : Nat} : ∀ m, (nearN P A B m v).testBit u = true ↔ ∃ i, i < m ∧ P i = true ∧ (A i = v ∧ B i = u ∨ B i = v ∧ A i = u)
  | 0 => by
    rw [nearN, Nat.zero_testBit]
    exact ⟨fun h => absurd h (by decide), fun ⟨i, h, _⟩ => absurd h (Nat.not_lt_zero i)⟩
  | m + 1 => by
    have ih := nearN_bit (P := P) (A := A) (B := B) (v := v) (u := u) m
    have step : (nearN P A B (m + 1) v).testBit u = true ↔ (nearN P A B m v).testBit u = true ∨ P m = true ∧ (A m = v ∧ B m = u ∨ B m = v ∧ A m = u) := by
      rw [nearN]
      by_cases hp : P m = true
      · rw [if_pos hp]
        by_cases h1 : B m = v
        · by_cases h2 : A m = v
          · rw [if_pos h1, if_pos h2, Nat.testBit_or, Nat.testBit_or, nb_pow, nb_pow, Bool.or_eq_true, Bool.or_eq_true, decide_eq_true_eq, decide_eq_true_eq]
            grind
          · rw [if_pos h1, if_neg h2, Nat.testBit_or, nb_pow, Bool.or_eq_true, decide_eq_true_eq]
            grind
        · by_cases h2 : A m = v
          · rw [if_neg h1, if_pos h2, Nat.testBit_or, nb_pow, Bool.or_eq_true, decide_eq_true_eq]
            grind
          · rw [if_neg h1, if_neg h2]
            grind
      · rw [if_neg hp]
        grind
    rw [step, ih]
    constructor
    · rintro (⟨i, h, q⟩ | q)
      · exact ⟨i, by omega, q⟩
      · exact ⟨m, by omega, q⟩
    · rintro ⟨i, h, q⟩
      by_cases e : i = m
      · subst e
        exact Or.inr q
      · exact Or.inl ⟨i, by omega, q⟩
theorem nearN_lt {P : Nat → Bool} {A B : Nat → Nat} {N v m : Nat} (h : ∀ i, i < m → A i < N ∧ B i < N) : nearN P A B m v < 2 ^ N := nb_lt fun u hu => by
  cases e : (nearN P A B m v).testBit u with
  | false => rfl
  | true =>
    obtain ⟨i, h1, _, h2⟩ := (nearN_bit m).mp e
    have := h i h1
    omega
theorem nearN_sym {P : Nat → Bool} {A B : Nat → Nat} {m u v : Nat} : (nearN P A B m v).testBit u = (nearN P A B m u).testBit v := by
  rw [Bool.eq_iff_iff, nearN_bit, nearN_bit]
  exact ⟨fun ⟨i, a, b, c⟩ => ⟨i, a, b, c.elim (fun z => Or.inr ⟨z.2, z.1⟩) (fun z => Or.inl ⟨z.2, z.1⟩)⟩, fun ⟨i, a, b, c⟩ => ⟨i, a, b, c.elim (fun z => Or.inr ⟨z.2, z.1⟩) (fun z => Or.inl ⟨z.2, z.1⟩)⟩⟩
theorem T_fillNear_go {F e a m N : Nat} {set : Int32} {P : Nat → Bool} {A B : Nat → Nat} (ha : e + 1 ≠ a) (hN : mLen a = N) (hN2 : N ≤ 30) (h16 : m ≤ 16) (hAB : ∀ i, i < m → A i < N ∧ B i < N) (hset : ∀ i, i < m → mX11_has F set (nI i) = some (if P i = true then 1 else 0)) : ∀ k' j, m < j + k' → j ≤ m → ∀ V : mV, V.fI e 6 = nI m → (∀ i, i < m → V.rI (e + 1) (5 * i) = nI (A i) ∧ V.rI (e + 1) (5 * i + 1) = nI (B i)) → (∀ v, v < N → V.rI a v = nI (nearN P A B j v)) → mTo (mX3_fillNear_go F k' 0 e a set (nI j) V) (fun p => ∀ v, v < N → p.2.rI a v = nI (nearN P A B m v)) := by
  intro k'
  induction k' with
  | zero => intro j h1 h2; omega
  | succ k ih =>
    intro j h1 h2 V hm hi hv
    rw [mX3_fillNear_go, if_pos rfl]
    unfold mX3_fillNear_b0
    refine mTo.le hm rfl (by omega) (by omega) (fun h => mTo.ret ?_) (fun hj => ?_)
    · have : j = m := by omega
      subst this
      exact hv
    · refine mTo.so (hset j hj) ?_
      obtain ⟨iA, iB⟩ := hi j hj
      obtain ⟨bA, bB⟩ := hAB j hj
      by_cases hp : P j = true
      · rw [if_pos hp, if_neg (by decide)]
        refine mTo.so (T_item (k := 0) hm h16 hj (by omega) rfl iA) (mTo.ix rfl (by omega) (by omega) ?_)
        refine mTo.so (T_item (k := 1) hm h16 hj (by omega) rfl iB) (mTo.ix rfl (by omega) (by omega) (mTo.lt ?_))
        have cA : (nI (A j)).toNatClampNeg = A j := nI_clamp (by omega)
        have cB : (nI (B j)).toNatClampNeg = B j := nI_clamp (by omega)
        rw [cA, hv _ bA, nb_one (by omega), nb_or]
        refine mTo.so (T_item (V := mI V a (nI (A j)) (nI (nearN P A B j (A j) ||| 2 ^ B j))) hm h16 hj (k := 1) (x := nI (B j)) (by omega) rfl (by rw [mI_no ha]; exact iB)) (mTo.ix rfl (by omega) (by omega) ?_)
        refine mTo.so (T_item (V := mI V a (nI (A j)) (nI (nearN P A B j (A j) ||| 2 ^ B j))) hm h16 hj (k := 0) (x := nI (A j)) (by omega) rfl (by rw [mI_no ha]; exact iA)) (mTo.ix rfl (by omega) (by omega) (mTo.lt (mTo.lt ?_)))
        rw [nI_1]
        refine ih (j + 1) (by omega) (by omega) _ hm (fun i h => ?_) (fun v hvN => ?_)
        · rw [mI_no ha, mI_no ha]
          exact hi i h
        · rw [cB, nb_one (by omega), mI_at cB, mI_at cA, mI_at cA, nearN, if_pos hp, hv _ bB, hv _ hvN]
          by_cases e1 : v = B j
          · subst e1
            rw [if_pos rfl, if_pos rfl]
            by_cases e2 : B j = A j
            · rw [if_pos e2, if_pos e2.symm, nb_or, ← e2]
            · rw [if_neg e2, if_neg (fun z => e2 z.symm), nb_or]
          · rw [if_neg e1, if_neg (c := B j = v) (fun z => e1 z.symm)]
            by_cases e2 : v = A j
            · subst e2
              rw [if_pos rfl, if_pos rfl]
            · rw [if_neg e2, if_neg (c := A j = v) (fun z => e2 z.symm)]
      · rw [if_neg hp, if_pos rfl]
        refine mTo.lt ?_
        rw [nI_1]
        refine ih (j + 1) (by omega) (by omega) V hm hi (fun v hvN => ?_)
        rw [nearN, if_neg hp]
        exact hv v hvN
theorem T_fillNear {F e a m N : Nat} {set : Int32} {P : Nat → Bool} {A B : Nat → Nat} {V : mV} (hF : 2 ^ 22 ≤ F) (ha : e + 1 ≠ a) (hN : mLen a = N) (hN2 : N ≤ 30) (h16 : m ≤ 16) (hm : V.fI e 6 = nI m) (hi : ∀ i, i < m → V.rI (e + 1) (5 * i) = nI (A i) ∧ V.rI (e + 1) (5 * i + 1) = nI (B i)) (hAB : ∀ i, i < m → A i < N ∧ B i < N) (hset : ∀ i, i < m → mX11_has F set (nI i) = some (if P i = true then 1 else 0)) (hea : e ≠ a) : mTo (mX3_fillNear F e a set V) (fun p => (∀ v, v < N → p.2.rI a v = nI (nearN P A B m v)) ∧ mAv (fun i => i = a) V p.2) := by
  have main : mTo (mX3_fillNear F e a set V) (fun p => ∀ v, v < N → p.2.rI a v = nI (nearN P A B m v)) := by
    unfold mX3_fillNear mX3_fillNear_s
    refine mTo.W (T_fill (F := F) (by omega) hN (by omega)) (fun v0 V1 _ q => ?_)
    obtain ⟨q1, q2⟩ := q
    have q2 : mAv (wJ7_fill_53178 a) V V1 := q2
    have f1 : V1.fI e = V.fI e := (q2.1 e (by unfold wJ7_fill_53178; exact hea)).1
    have f2 : V1.rI (e + 1) = V.rI (e + 1) := (q2.1 (e + 1) (by unfold wJ7_fill_53178; exact ha)).2.2.1
    refine T_fillNear_go ha hN hN2 h16 hAB hset F 0 (by omega) (by omega) V1 (by rw [f1, hm]) (fun i h => by rw [f2]; exact hi i h) (fun v hv => ?_)
    rw [q1 v hv]
    rfl
  obtain ⟨p, e1, q⟩ := main
  exact ⟨p, e1, q, NX3_fillNear (v := p.1) e1⟩
theorem T_lowest_go {F S : Nat} (hS : S < 2 ^ 31) : ∀ k' j, 31 < j + k' → j ≤ 31 → (∀ i, i < j → S.testBit i = false) → mTo (mX11_lowest_go F k' 0 (nI S) (nI j)) (fun v => (S = 0 ∧ v = -1) ∨ ∃ i, i < 31 ∧ v = nI i ∧ S.testBit i = true ∧ ∀ l, l < i → S.testBit l = false) := by
  intro k'
  induction k' with
  | zero => intro j h1 h2; omega
  | succ k ih =>
    intro j h1 h2 hz
    rw [mX11_lowest_go, if_pos rfl]
    unfold mX11_lowest_b0
    refine mTo.le (a := 31) rfl rfl (by omega) (by omega) (fun h => mTo.ret (Or.inl ⟨nb_ext fun i => ?_, rfl⟩)) (fun hj => ?_)
    · rw [Nat.zero_testBit]
      by_cases hi : i < j
      · exact hz i hi
      · exact nb_big hS (by omega)
    · refine mTo.hs rfl rfl hS (by omega) (fun hb => mTo.lt ?_) (fun hb => mTo.ret (Or.inr ⟨j, hj, rfl, hb, hz⟩))
      rw [nI_1]
      refine ih (j + 1) (by omega) (by omega) (fun i hi => ?_)
      by_cases e : i = j
      · subst e
        exact hb
      · exact hz i (by omega)
theorem T_lowest {F S : Nat} (hF : 64 ≤ F) (hS : S < 2 ^ 31) : mTo (mX11_lowest F (nI S)) (fun v => (S = 0 ∧ v = -1) ∨ ∃ i, i < 31 ∧ v = nI i ∧ S.testBit i = true ∧ ∀ l, l < i → S.testBit l = false) := by
  unfold mX11_lowest mX11_lowest_s
  exact T_lowest_go hS F 0 (by omega) (by omega) (fun i hi => by omega)
/-- how many bits -/
def pop (S : Nat) : Nat := cnt (fun i => S.testBit i) 11
set_option maxRecDepth 100000 in
theorem T_pop_all : ∀ S, S < 2048 → mJ6_bitCount_0f7a4 0 (nI S) = some (nI (pop S)) := by decide +kernel
theorem T_pop {F S : Nat} (hS : S < 2048) : mJ6_bitCount_0f7a4 F (nI S) = some (nI (pop S)) := T_pop_all S hS
theorem pop_n {S n : Nat} (hS : S < 2 ^ n) (hn : n ≤ 11) : pop S = cnt (fun i => S.testBit i) n := by
  have : ∀ k, cnt (fun i => S.testBit i) (n + k) = cnt (fun i => S.testBit i) n := by
    intro k
    induction k with
    | zero => rfl
    | succ k ih =>
      show cnt _ (n + k) + (if S.testBit (n + k) = true then 1 else 0) = _
      rw [ih, if_neg (by rw [nb_big hS (by omega)]; decide)]
      rfl
  have h := this (11 - n)
  rw [show n + (11 - n) = 11 by omega] at h
  exact h
end
