/-! REDUCTIONS: flows and inequalities. -/
section
/-- the row i says: sg times what goes from v less what comes is at most lim -/
def blR (d : Nat → Int32) (m i : Nat) (A B : Nat → Nat) (v : Nat) (sg lim : Int) : Prop := (∀ c, c < m → (d (5 * i + c)).toInt = sg * ((if A c = v then 1 else 0) - (if B c = v then 1 else 0))) ∧ (d (5 * i + 4)).toInt = lim
def lcP (d : Nat → Int32) (m s M : Nat) (A B C : Nat → Nat) (b : Nat) : Prop :=
  (∀ i, i < m → i < M ∧ (∀ c, c < m → (d (5 * i + c)).toInt = if c = i then 1 else 0) ∧ (d (5 * i + 4)).toInt = C i) ∧
  (∀ i, i < M → i < m ∨ ∃ v sg, (sg = 1 ∨ sg = -1) ∧ ((1 ≤ v ∧ v < s + 1 ∧ blR d m i A B v sg 0) ∨ (v = 0 ∧ blR d m i A B v sg (sg * b)))) ∧
  (∀ v sg, (sg = 1 ∨ sg = -1) → (1 ≤ v → v < s + 1 → ∃ i, i < M ∧ blR d m i A B v sg 0) ∧ ∃ i, i < M ∧ blR d m i A B 0 sg (sg * b))
theorem bl_sum {d : Nat → Int32} {m i v : Nat} {A B : Nat → Nat} {sg lim : Int} {f : Nat → Int} (h : blR d m i A B v sg lim) : dsz m (fun u => (d (5 * i + u)).toInt * f u) = sg * exs A B f v m := by
  rw [exs_d, ← dsz_mul]
  refine dsz_congr m (fun u hu => ?_)
  rw [h.1 u hu]
  by_cases a : A u = v <;> by_cases c : B u = v
  · rw [if_pos a, if_pos c, if_pos a, if_pos c, Int.sub_self, Int.sub_self, Int.mul_zero, Int.zero_mul]
  · rw [if_pos a, if_neg c, if_pos a, if_neg c, Int.sub_zero, Int.sub_zero, Int.mul_one]
  · rw [if_neg a, if_pos c, if_neg a, if_pos c, Int.zero_sub, Int.zero_sub, Int.mul_neg, Int.mul_neg, Int.mul_one, Int.neg_mul]
  · rw [if_neg a, if_neg c, if_neg a, if_neg c, Int.sub_self, Int.mul_zero, Int.zero_mul]
theorem un_sum {d : Nat → Int32} {m i : Nat} {f : Nat → Int} (hi : i < m) (h : ∀ c, c < m → (d (5 * i + c)).toInt = if c = i then 1 else 0) : dsz m (fun u => (d (5 * i + u)).toInt * f u) = f i := by
  rw [dsz_1 m hi (fun u hu ne => by rw [h u hu, if_neg ne, Int.zero_mul]), h i hi, if_pos rfl, Int.one_mul]
theorem ls_in {d : Nat → Int32} {M i m : Nat} {xs : List Int32} (hi : i < M) : lsL d M i xs m = dsz m (fun u => (d (5 * i + u)).toInt * (xs.getD (u + 1) 0).toInt) := by
  unfold lsL tmZ tmI
  exact dsz_congr m (fun u _ => by rw [if_pos hi])
theorem lm_in {d : Nat → Int32} {M i : Nat} {b : Int32} (hi : i < M) : lmZ d M b i = (d (5 * i + 4)).toInt := by
  unfold lmZ lmI
  rw [if_pos hi]
theorem flow_unf {d : Nat → Int32} {m s M b : Nat} {A B C : Nat → Nat} {ys : List Int32} (h : lcP d m s M A B C b) (h4 : m ≤ 4) (hC : ∀ i, i < m → C i ≤ 6) (hf : flowOK m s A B C b ys) : unfOK d m M 40 (1 :: ys) := by
  obtain ⟨f1, f2, f3, f4⟩ := hf
  obtain ⟨g1, g2, g3⟩ := h
  refine ⟨by rw [List.length_cons, f1], Int.le_refl _, fun j hj => (f2 j hj).1, fun i hi => ?_⟩
  have e1 : ((1 :: ys : List Int32).getD 0 0).toInt = 1 := rfl
  rw [e1, Int.mul_one]
  by_cases e : i = M
  · have a : lsL d M i (1 :: ys) m = dsz m (fun u => (ys.getD u 0).toInt) := by
      unfold lsL tmZ tmI
      refine dsz_congr m (fun u _ => ?_)
      rw [if_neg (by omega)]
      exact Int.one_mul _
    have a2 : lmZ d M 40 i = 40 := by
      unfold lmZ lmI
      rw [if_neg (by omega)]
      rfl
    have a3 := dsz_B m (B := 6) (f := fun u => (ys.getD u 0).toInt) (fun u hu => by
      have := f2 u hu
      have := hC u hu
      show ((ys.getD u 0).toInt).natAbs ≤ 6
      omega)
    rw [a, a2]
    omega
  · have iM : i < M := by omega
    rw [ls_in iM, lm_in iM]
    rcases g2 i iM with z | ⟨v, sg, _, z⟩
    · obtain ⟨_, k2, k3⟩ := g1 i z
      have := un_sum (f := fun u => ((1 :: ys : List Int32).getD (u + 1) 0).toInt) z k2
      rw [this, k3]
      exact (f2 i z).2
    · rcases z with ⟨v1, v2, k⟩ | ⟨v0, k⟩
      · have := bl_sum (f := fun u => ((1 :: ys : List Int32).getD (u + 1) 0).toInt) k
        rw [this, k.2]
        have e := f3 v v1 v2
        rw [show (fun u => ((1 :: ys : List Int32).getD (u + 1) 0).toInt) = (fun i => (ys.getD i 0).toInt) from rfl, e]
        omega
      · have := bl_sum (f := fun u => ((1 :: ys : List Int32).getD (u + 1) 0).toInt) k
        rw [this, k.2, v0]
        rw [show (fun u => ((1 :: ys : List Int32).getD (u + 1) 0).toInt) = (fun i => (ys.getD i 0).toInt) from rfl, f4]
        exact Int.le_refl _
theorem unf_eqs {d : Nat → Int32} {m s M b : Nat} {A B C : Nat → Nat} {xs : List Int32} {z : Int32} (h : lcP d m s M A B C b) (hu : unfOK d m M z xs) : (∀ i, i < m → 0 ≤ (xs.getD (i + 1) 0).toInt ∧ (xs.getD (i + 1) 0).toInt ≤ C i * (xs.getD 0 0).toInt) ∧ (∀ v, 1 ≤ v → v < s + 1 → exs A B (fun u => (xs.getD (u + 1) 0).toInt) v m = 0) ∧ exs A B (fun u => (xs.getD (u + 1) 0).toInt) 0 m = b * (xs.getD 0 0).toInt := by
  obtain ⟨u1, u2, u3, u4⟩ := hu
  obtain ⟨g1, g2, g3⟩ := h
  have row : ∀ i v sg lim, i < M → blR d m i A B v sg lim → sg * exs A B (fun u => (xs.getD (u + 1) 0).toInt) v m ≤ lim * (xs.getD 0 0).toInt := fun i v sg lim hi k => by
    have a := u4 i (by omega)
    rw [ls_in hi, lm_in hi, k.2] at a
    rw [← bl_sum (f := fun u => (xs.getD (u + 1) 0).toInt) k]
    exact a
  refine ⟨fun i hi => ⟨u3 i hi, ?_⟩, fun v v1 v2 => ?_, ?_⟩
  · obtain ⟨k1, k2, k3⟩ := g1 i hi
    have a := u4 i (by omega)
    rw [ls_in k1, lm_in k1, k3, un_sum (f := fun u => (xs.getD (u + 1) 0).toInt) hi k2] at a
    exact a
  · obtain ⟨i, i1, i2⟩ := (g3 v 1 (Or.inl rfl)).1 v1 v2
    obtain ⟨j, j1, j2⟩ := (g3 v (-1) (Or.inr rfl)).1 v1 v2
    have a := row i v 1 0 i1 i2
    have c := row j v (-1) 0 j1 j2
    rw [Int.zero_mul] at a c
    omega
  · obtain ⟨i, i1, i2⟩ := (g3 0 1 (Or.inl rfl)).2
    obtain ⟨j, j1, j2⟩ := (g3 0 (-1) (Or.inr rfl)).2
    have a := row i 0 1 _ i1 i2
    have c := row j 0 (-1) _ j1 j2
    rw [Int.one_mul, Int.one_mul] at a
    rw [Int.mul_assoc] at c
    omega
theorem unf_flow {d : Nat → Int32} {m s M b : Nat} {A B C : Nat → Nat} {xs : List Int32} {z : Int32} (h : lcP d m s M A B C b) (hu : unfOK d m M z xs) (h1 : xs.getD 0 0 = 1) : flowOK m s A B C b (xs.drop 1) := by
  obtain ⟨k1, k2, k3⟩ := unf_eqs h hu
  have e1 : (xs.getD 0 0).toInt = 1 := by rw [h1]; rfl
  have ed : ∀ i, (xs.drop 1).getD i 0 = xs.getD (i + 1) 0 := fun i => by
    rw [List.getD_eq_getElem?_getD, List.getD_eq_getElem?_getD, List.getElem?_drop, Nat.add_comm]
  have ef : (fun i => ((xs.drop 1).getD i 0).toInt) = fun u => (xs.getD (u + 1) 0).toInt := funext (fun i => by rw [ed])
  refine ⟨by rw [List.length_drop, hu.1, Nat.add_sub_cancel], fun i hi => ?_, ?_, ?_⟩
  · have := k1 i hi
    rw [ed]
    rw [e1, Int.mul_one] at this
    exact this
  · rw [ef]
    exact k2
  · rw [ef, k3, e1, Int.mul_one]
theorem unf_bar {d : Nat → Int32} {m s M b : Nat} {A B C : Nat → Nat} {xs ys : List Int32} {z : Int32} (h : lcP d m s M A B C b) (hu : unfOK d m M z xs) (hy : s ≤ 5) (hn : ∀ i, i < m → A i < s + 2 ∧ B i < s + 2) (hb : barOK m s A B C b ys) : False := by
  obtain ⟨k1, k2, k3⟩ := unf_eqs h hu
  obtain ⟨b1, b2, b3, b4, b5⟩ := hb
  have u2 := hu.2.1
  obtain ⟨D, hD⟩ : ∃ D : Nat, (xs.getD 0 0).toInt = D := ⟨(xs.getD 0 0).toInt.toNat, by omega⟩
  have := flow_bar (X := rowSt ys) (C := fun i => C i * D) (f := fun u => (xs.getD (u + 1) 0).toInt) (y := s) (m := m) (fun i hi => by
    have := k1 i hi
    rw [hD] at this
    exact ⟨this.1, by rw [Int.natCast_mul]; exact this.2⟩) hn (rowSt_iff.mpr ⟨0, by omega, b2⟩) (by
    cases z : rowSt ys (s + 1) with
    | false => rfl
    | true =>
      obtain ⟨i, i1, i2⟩ := rowSt_iff.mp z
      obtain ⟨j, j1, j2⟩ := b4 i i1
      rw [i2] at j2
      have := (nI_eq (by omega) (by omega)).mp j2
      omega) k2
  have e : ∀ n, nsum (barW (rowSt ys) A B (fun i => C i * D)) n = nsum (barW (rowSt ys) A B C) n * D := fun n => by
    induction n with
    | zero => exact (Nat.zero_mul D).symm
    | succ n ih =>
      rw [nsum, nsum, ih, Nat.add_mul]
      congr 1
      unfold barW
      split
      · rfl
      · exact (Nat.zero_mul D).symm
  rw [e, k3, hD, ← Int.natCast_mul, Int.ofNat_le] at this
  have lt : nsum (barW (rowSt ys) A B C) m * D < b * D := Nat.mul_lt_mul_of_pos_right b5 (by omega)
  omega
end
/-! REDUCTIONS: pairings and clauses. -/
section
def sxP (d : Nat → Int32) (M m s : Nat) (A B : Nat → Nat) : Prop := ∀ T, T < 2 ^ m → ((∀ i, i < M → bk d m T i = false) ↔ (∀ v, v < s → ∃ j, j < m ∧ T.testBit j = true ∧ (A j = v ∨ B j = v)) ∧ ∀ i j, i < j → j < m → (A i = A j ∨ A i = B j ∨ B i = A j ∨ B i = B j) → ¬ (T.testBit i = true ∧ T.testBit j = true))
theorem trB_at {xs : List Int32} {s : Nat} (h : ∀ i, i < s → pX xs i < 2) : ∀ n, n ≤ s → ∀ j, (trB xs n).testBit j = true ↔ j < n ∧ pX xs j = 1
  | 0, _, j => by
    rw [trB, Nat.zero_testBit]
    exact ⟨fun h => absurd h (by decide), fun h => absurd h.1 (Nat.not_lt_zero _)⟩
  | n + 1, hn, j => by
    have hx := h n (by omega)
    rw [trB, Nat.testBit_or, Bool.or_eq_true, trB_at h n (by omega) j]
    rcases (show pX xs n = 0 ∨ pX xs n = 1 by omega) with e | e
    · rw [e, Nat.zero_mul, Nat.zero_testBit]
      constructor
      · rintro (⟨a, b⟩ | a)
        · exact ⟨by omega, b⟩
        · exact absurd a (by decide)
      · rintro ⟨a, b⟩
        by_cases z : j = n
        · rw [z, e] at b
          exact absurd b (by decide)
        · exact Or.inl ⟨by omega, b⟩
    · rw [e, Nat.one_mul, nb_pow, decide_eq_true_eq]
      constructor
      · rintro (⟨a, b⟩ | a)
        · exact ⟨by omega, b⟩
        · rw [← a]
          exact ⟨by omega, e⟩
      · rintro ⟨a, b⟩
        by_cases z : j = n
        · exact Or.inr z.symm
        · exact Or.inl ⟨by omega, b⟩
theorem pairs_tru {d : Nat → Int32} {M m s b : Nat} {A B : Nat → Nat} {xs : List Int32} (hs : s ≤ 9) (hA : ∀ j, j < m → A j < s ∧ B j < s ∧ A j ≠ B j) (h : sxP d M m s A B) (ht : truOK d M m b xs) : pairOK s (nrA m A B) 0 (pwR A B (fun j => decide (xs.getD (0 + j) 0 = 1)) s m) := by
  obtain ⟨⟨t1, t2⟩, _, t3⟩ := ht
  have px : ∀ i, i < m → pX xs i < 2 ∧ xs.getD i 0 = nI (pX xs i) := fun i hi => t2.p (by decide) (by omega)
  have tb := trB_at (fun i hi => (px i hi).1) m (Nat.le_refl _)
  obtain ⟨c1, c2⟩ := (h (trB xs m) (trB_bit (fun i hi => (px i hi).1) m (Nat.le_refl _))).mp t3
  have ch : ∀ j, j < m → (decide (xs.getD (0 + j) 0 = 1) = true ↔ (trB xs m).testBit j = true) := fun j hj => by
    rw [tb, decide_eq_true_eq, Nat.zero_add, (px j hj).2]
    have := (px j hj).1
    exact ⟨fun e => ⟨hj, (nI_eq (a := pX xs j) (b := 1) (by omega) (by omega)).mp e⟩, fun e => by rw [e.2]; rfl⟩
  refine pwR_ok hs hA (fun i j hi hj ci cj hn => ?_) ?_
  · have ci := (ch i hi).mp ci
    have cj := (ch j hj).mp cj
    rcases Nat.lt_trichotomy i j with z | z | z
    · exact absurd ⟨ci, cj⟩ (c2 i j z hj hn)
    · exact z
    · refine absurd ⟨cj, ci⟩ (c2 j i z hi ?_)
      rcases hn with e | e | e | e
      · exact Or.inl e.symm
      · exact Or.inr (Or.inr (Or.inl e.symm))
      · exact Or.inr (Or.inl e.symm)
      · exact Or.inr (Or.inr (Or.inr e.symm))
  · rw [cnt_eq s (Y := fun _ => true) (fun v hv => by
      obtain ⟨j, j1, j2, j3⟩ := c1 v hv
      exact (covB_iff m).mpr ⟨j, j1, (ch j j1).mpr j2, j3⟩), cnt_T]
    exact Nat.le_refl _
theorem tru_pairs {d : Nat → Int32} {M m s : Nat} {A B : Nat → Nat} {ys : List Int32} (hm : m ≤ 6) (hA : ∀ j, j < m → A j < s ∧ B j < s ∧ A j ≠ B j) (hd : ∀ i j, i < m → j < m → (A i = A j ∧ B i = B j ∨ A i = B j ∧ B i = A j) → i = j) (h : sxP d M m s A B) (hp : pairOK s (nrA m A B) 0 ys) : ∃ xs, truOK d M m m xs := by
  obtain ⟨_, p2, p3, p4⟩ := hp
  have nf : ∀ v, v < s → pX ys v ≠ v := fun v hv e => by
    have := cnt_pos (X := fun i => decide (pX ys i = i)) (decide_eq_true e) hv
    omega
  obtain ⟨xs, hx⟩ : ∃ xs : List Int32, xs = (List.range m).map (fun j => if pX ys (A j) = B j then (1 : Int32) else 0) := ⟨_, rfl⟩
  have len : xs.length = m := by rw [hx, List.length_map, List.length_range]
  have get : ∀ j, j < m → xs.getD j 0 = if pX ys (A j) = B j then (1 : Int32) else 0 := fun j hj => by
    rw [hx, List.getD_eq_getElem?_getD, List.getElem?_map, List.getElem?_range hj]
    rfl
  have inr : inRow xs 2 := fun i hi => by
    rw [len] at hi
    rw [get i hi]
    by_cases c : pX ys (A i) = B i
    · rw [if_pos c]
      exact ⟨1, by decide, rfl⟩
    · rw [if_neg c]
      exact ⟨0, by decide, rfl⟩
  have px : ∀ i, i < m → pX xs i < 2 := fun i hi => (inr.p (by decide) (by omega)).1
  have lt := trB_bit px m (Nat.le_refl _)
  have tb : ∀ j, j < m → ((trB xs m).testBit j = true ↔ pX ys (A j) = B j) := fun j hj => by
    rw [trB_at px m (Nat.le_refl _)]
    unfold pX at *
    rw [get j hj]
    by_cases c : (ys.getD (A j) 0).toNatClampNeg = B j
    · rw [if_pos c]
      exact ⟨fun _ => c, fun _ => ⟨hj, rfl⟩⟩
    · rw [if_neg c]
      exact ⟨fun z => absurd z.2 (by decide), fun z => absurd z c⟩
  refine ⟨xs, ⟨len, inr⟩, ?_, (h (trB xs m) lt).mpr ⟨fun v hv => ?_, fun i j hij hj hn hc => ?_⟩⟩
  · rw [pop_n lt (by omega)]
    exact cnt_n m
  · obtain ⟨j, j1, _, j3⟩ := (nearN_bit m).mp (p3 v hv (nf v hv))
    rcases j3 with ⟨k1, k2⟩ | ⟨k1, k2⟩
    · exact ⟨j, j1, (tb j j1).mpr (by rw [k1, k2]), Or.inl k1⟩
    · exact ⟨j, j1, (tb j j1).mpr (by rw [k2, k1]; exact p2 v hv), Or.inr k1⟩
  · have ti := (tb i (by omega)).mp hc.1
    have tj := (tb j hj).mp hc.2
    have si : pX ys (B i) = A i := by rw [← ti]; exact p2 _ (hA i (by omega)).1
    have sj : pX ys (B j) = A j := by rw [← tj]; exact p2 _ (hA j hj).1
    have : i = j := hd i j (by omega) hj (by
      rcases hn with e | e | e | e
      · exact Or.inl ⟨e, by rw [← ti, ← tj, e]⟩
      · exact Or.inr ⟨e, by rw [← ti, ← sj, e]⟩
      · exact Or.inr ⟨by rw [← si, ← tj, e], e⟩
      · exact Or.inl ⟨by rw [← si, ← sj, e], e⟩)
    omega
end
