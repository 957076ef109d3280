/-! THE BOOK: the class tells what an item must be. -/
section
theorem natAbs_in {x : Int32} {m : Nat} : (-(m : Int) ≤ x.toInt ∧ x.toInt ≤ m) ↔ x.toInt.natAbs ≤ m := by omega
theorem neg_nI : ∀ m, m < 10 → (-(nI m)).toInt = -(m : Int) ∧ (nI m).toInt = m := by decide
theorem T_areWithin {F s m : Nat} {V : mV} (hF : 64 ≤ F) (hs : s ≤ 9) (hm : m < 10) : mTo (mX4_areWithin F 12 (nI s) (nI m) V) (fun v => tfP v (∀ j, j < s → j < 5 → (V.rI 12 j).toInt.natAbs ≤ m)) := by
  have l5 : mLen 12 = 5 := rfl
  have go : ∀ k' j, s < j + k' → j ≤ s → j ≤ 5 → (∀ i, i < j → (V.rI 12 i).toInt.natAbs ≤ m) → mTo (mX4_areWithin_go F k' 0 12 (nI s) (nI m) (nI j) V) (fun v => tfP v (∀ j, j < s → j < 5 → (V.rI 12 j).toInt.natAbs ≤ m)) := by
    intro k'
    induction k' with
    | zero => intro j h1 h2; omega
    | succ k ih =>
      intro j h1 h2 h3 h4
      rw [mX4_areWithin_go, if_pos rfl]
      unfold mX4_areWithin_b0
      rw [l5]
      refine mTo.le rfl rfl (by omega) (by omega) (fun z => mTo.ret (tf1 fun i hi _ => h4 i (by omega))) (fun z => mTo.le (a := 5) rfl rfl (by omega) (by omega) (fun y => mTo.ret (tf1 fun i _ hi => h4 i (by omega))) (fun y => mTo.ix rfl y (by omega) ?_))
      rw [nI_clamp (n := j) (by omega)]
      refine mTo.N (T_within (F := F)) (fun v _ q => ?_)
      rw [(neg_nI m hm).1, (neg_nI m hm).2, natAbs_in] at q
      have q : tfP v ((V.rI 12 j).toInt.natAbs ≤ m) := q
      refine mTo.tf q (fun hc => mTo.ret (tf0 fun c => hc (c j z y))) (fun hc => mTo.lt ?_)
      rw [nI_1]
      refine ih (j + 1) (by omega) (by omega) (by omega) (fun i hi => ?_)
      by_cases e : i = j
      · rw [e]; exact hc
      · exact h4 i (by omega)
  unfold mX4_areWithin mX4_areWithin_s
  exact go F 0 (by omega) (Nat.zero_le _) (Nat.zero_le _) (fun i hi => absurd hi (Nat.not_lt_zero i))
theorem T_unlikeP {F s : Nat} {V : mV} (hF : 64 ≤ F) (h0 : 0 < s) (hs : s ≤ 6) : mTo (mX4_areUnlikePoints F 12 (nI s - 1) V) (fun v => tfP v ((∀ j, j < s → j < 5 → ∃ a, a < s ∧ V.rI 12 j = nI a) ∧ ∀ i j, i < j → j < s → j < 5 → V.rI 12 i ≠ V.rI 12 j)) := by
  have l5 : mLen 12 = 5 := rfl
  have e0 : (0 : Int32).toInt = 0 := rfl
  obtain ⟨t, rfl⟩ : ∃ t, s = t + 1 := ⟨s - 1, by omega⟩
  rw [nI_pred]
  have go : ∀ k' j S, t + 1 < j + k' → j ≤ t + 1 → j ≤ 5 → S < 2 ^ 6 → (∀ a, S.testBit a = true ↔ ∃ i, i < j ∧ V.rI 12 i = nI a ∧ a < 6) → (∀ i, i < j → ∃ a, a < t + 1 ∧ V.rI 12 i = nI a) → (∀ i i', i < i' → i' < j → V.rI 12 i ≠ V.rI 12 i') → mTo (mX4_areUnlikePoints_go F k' 0 12 (nI t) (nI S) (nI j) V) (fun v => tfP v ((∀ j, j < t + 1 → j < 5 → ∃ a, a < t + 1 ∧ V.rI 12 j = nI a) ∧ ∀ i j, i < j → j < t + 1 → j < 5 → V.rI 12 i ≠ V.rI 12 j)) := by
    intro k'
    induction k' with
    | zero => intro j S h1 h2; omega
    | succ k ih =>
      intro j S h1 h2 h3 hS h4 h5 h6
      rw [mX4_areUnlikePoints_go, if_pos rfl]
      unfold mX4_areUnlikePoints_b0
      rw [l5]
      refine mTo.ltI rfl rfl (by omega) (by omega) (fun z => mTo.ret (tf1 ⟨fun i hi _ => h5 i (by omega), fun i i' h hi _ => h6 i i' h (by omega)⟩)) (fun z => mTo.le (a := 5) rfl rfl (by omega) (by omega) (fun y => mTo.ret (tf1 ⟨fun i _ hi => h5 i (by omega), fun i i' h _ hi => h6 i i' h (by omega)⟩)) (fun y => mTo.ix rfl y (by omega) ?_))
      rw [nI_clamp (n := j) (by omega)]
      refine mTo.N (T_within (F := F)) (fun v _ q => ?_)
      rw [e0, nI_toInt (show t < 2 ^ 31 by omega), show (t : Int) = ((t + 1 : Nat) : Int) - 1 by omega, in_iff (by omega)] at q
      have q : tfP v (∃ a, a < t + 1 ∧ V.rI 12 j = nI a) := q
      refine mTo.tf q (fun hc => mTo.ret (tf0 fun c => hc (c.1 j (by omega) y))) (fun hc => ?_)
      obtain ⟨a, a1, a2⟩ := hc
      rw [a2]
      refine mTo.ic rfl y (by omega) (mTo.hs (S := S) (j := a) rfl rfl (by omega) (by omega) (fun w => mTo.ic rfl y (by omega) (mTo.lt (mTo.lt ?_))) (fun w => mTo.ret (tf0 fun c => ?_)))
      · rw [nb_one (by omega), nb_or, nI_1]
        refine ih (j + 1) _ (by omega) (by omega) (by omega) (nb_or_lt hS (nb_p2 (by omega))) (fun b => ?_) (fun i hi => ?_) (fun i i' h hi => ?_)
        · rw [Nat.testBit_or, Bool.or_eq_true, nb_pow, decide_eq_true_iff, h4]
          constructor
          · rintro (⟨i, i1, i2⟩ | e)
            · exact ⟨i, by omega, i2⟩
            · exact ⟨j, by omega, by rw [a2, e], by omega⟩
          · rintro ⟨i, i1, i2, i3⟩
            by_cases e : i = j
            · rw [e, a2] at i2
              exact Or.inr ((nI_eq (by omega) (by omega)).mp i2)
            · exact Or.inl ⟨i, by omega, i2, i3⟩
        · by_cases e : i = j
          · rw [e]; exact ⟨a, a1, a2⟩
          · exact h5 i (by omega)
        · by_cases e : i' = j
          · intro c
            rw [e, a2] at c
            have := (h4 a).mpr ⟨i, by omega, c, by omega⟩
            rw [w] at this
            exact absurd this (by decide)
          · exact h6 i i' h (by omega)
      · obtain ⟨i, i1, i2, i3⟩ := (h4 a).mp w
        exact c.2 i j i1 (by omega) y (by rw [i2, a2])
  unfold mX4_areUnlikePoints mX4_areUnlikePoints_s
  exact go F 0 0 (by omega) (Nat.zero_le _) (Nat.zero_le _) (by decide) (fun a => by
    rw [Nat.zero_testBit]
    exact ⟨fun c => absurd c (by decide), fun ⟨i, c, _⟩ => absurd c (Nat.not_lt_zero i)⟩) (fun i hi => absurd hi (Nat.not_lt_zero i)) (fun i i' _ hi => absurd hi (Nat.not_lt_zero i'))
theorem in1_iff {x : Int32} {s : Nat} (h : s < 2 ^ 20) : (1 ≤ x.toInt ∧ x.toInt ≤ (s : Int)) ↔ ∃ a, 0 < a ∧ a ≤ s ∧ x = nI a := by
  constructor
  · rintro ⟨h1, h2⟩
    obtain ⟨a, e, a1⟩ := i32_nI (show 0 ≤ x.toInt by omega)
    rw [e, nI_toInt a1] at h1 h2
    exact ⟨a, by omega, by omega, e⟩
  · rintro ⟨a, a0, a1, e⟩
    rw [e, nI_toInt (by omega)]
    omega
theorem T_words {F s : Nat} {V : mV} {x : Int32} (hx : x.toInt = s) (hs : s < 2 ^ 20) : mTo (mX4_areWords F 12 x V) (fun v => tfP v (∃ a c, V.rI 12 0 = nI a ∧ V.rI 12 1 = nI c ∧ 0 < a ∧ 0 < c ∧ a ≤ s ∧ c ≤ s)) := by
  have e1 : (1 : Int32).toInt = 1 := rfl
  unfold mX4_areWords
  refine mTo.gd (by decide) (mTo.N (T_within (F := F)) (fun v _ q => ?_))
  rw [e1, hx, in1_iff hs] at q
  have q : tfP v (∃ a, 0 < a ∧ a ≤ s ∧ V.rI 12 0 = nI a) := q
  refine mTo.tf q (fun hc => mTo.ret (tf0 fun ⟨a, c, x0, _, a0, _, a1, _⟩ => hc ⟨a, a0, a1, x0⟩)) (fun hc => mTo.gd (by decide) (mTo.N (T_within (F := F)) (fun v _ q => ?_)))
  rw [e1, hx, in1_iff hs] at q
  have q : tfP v (∃ a, 0 < a ∧ a ≤ s ∧ V.rI 12 1 = nI a) := q
  refine mTo.tf q (fun hc2 => mTo.ret (tf0 fun ⟨a, c, _, x1, _, c0, _, c1⟩ => hc2 ⟨c, c0, c1, x1⟩)) (fun hc2 => ?_)
  obtain ⟨a, a0, a1, x0⟩ := hc
  obtain ⟨c, c0, c1, x1⟩ := hc2
  exact mTo.ret (tf1 ⟨a, c, x0, x1, a0, c0, a1, c1⟩)
theorem T_gameI {F s : Nat} {V : mV} (h0 : 0 < s) (hs : s ≤ 9) : mTo (mX4_isGameItem F 12 (nI s - 1) V) (fun v => tfP v (∃ o w a, V.rI 12 0 = nI o ∧ V.rI 12 1 = nI w ∧ V.rI 12 2 = nI a ∧ o ≤ 1 ∧ w ≤ 5 ∧ a < s ∧ ∀ j, j < 2 → V.rI 12 (3 + j) = -1 ∨ ∃ u, u < s ∧ V.rI 12 (3 + j) = nI u)) := by
  have e0 : (0 : Int32).toInt = 0 := rfl
  have i1 : ∀ x : Int32, (0 ≤ x.toInt ∧ x.toInt ≤ 1) ↔ ∃ a, a < 2 ∧ x = nI a := fun x => in_iff (s := 2) (by decide)
  have i5 : ∀ x : Int32, (0 ≤ x.toInt ∧ x.toInt ≤ 5) ↔ ∃ a, a < 6 ∧ x = nI a := fun x => in_iff (s := 6) (by decide)
  have im : ∀ x : Int32, (-1 ≤ x.toInt ∧ x.toInt ≤ (s : Int) - 1) ↔ (x = -1 ∨ ∃ u, u < s ∧ x = nI u) := fun x => by
    constructor
    · intro h
      by_cases c : x.toInt = -1
      · exact Or.inl (Int32.toInt_inj.mp (by rw [c, int_m1]))
      · exact Or.inr ((in_iff (by omega)).mp ⟨by omega, h.2⟩)
    · rintro (e | h)
      · rw [e, int_m1]
        omega
      · have := (in_iff (by omega)).mpr h
        omega
  unfold mX4_isGameItem
  refine mTo.gd (by decide) (mTo.N (T_within (F := F)) (fun v _ q => ?_))
  rw [e0, show (1 : Int32).toInt = 1 from rfl, i1] at q
  have q : tfP v (∃ a, a < 2 ∧ V.rI 12 0 = nI a) := q
  refine mTo.tf q (fun hc => mTo.ret (tf0 fun ⟨o, _, _, x, _, _, y, _⟩ => hc ⟨o, by omega, x⟩)) (fun h1 => mTo.gd (by decide) (mTo.N (T_within (F := F)) (fun v _ q => ?_)))
  rw [e0, show (5 : Int32).toInt = 5 from rfl, i5] at q
  have q : tfP v (∃ a, a < 6 ∧ V.rI 12 1 = nI a) := q
  refine mTo.tf q (fun hc => mTo.ret (tf0 fun ⟨_, w, _, _, x, _, _, y, _⟩ => hc ⟨w, by omega, x⟩)) (fun h2 => mTo.gd (by decide) (mTo.N (T_within (F := F)) (fun v _ q => ?_)))
  rw [e0, nI_p1 h0 (by omega), in_iff (by omega)] at q
  have q : tfP v (∃ a, a < s ∧ V.rI 12 2 = nI a) := q
  refine mTo.tf q (fun hc => mTo.ret (tf0 fun ⟨_, _, a, _, _, x, _, _, y, _⟩ => hc ⟨a, y, x⟩)) (fun h3 => mTo.gd (by decide) (mTo.N (T_within (F := F)) (fun v _ q => ?_)))
  rw [int_m1, nI_p1 h0 (by omega), im] at q
  have q : tfP v (V.rI 12 3 = -1 ∨ ∃ u, u < s ∧ V.rI 12 3 = nI u) := q
  refine mTo.tf q (fun hc => mTo.ret (tf0 fun ⟨_, _, _, _, _, _, _, _, _, x⟩ => hc (x 0 (by decide)))) (fun h4 => mTo.gd (by decide) (mTo.N (T_within (F := F)) (fun v _ q => ?_)))
  rw [int_m1, nI_p1 h0 (by omega), im] at q
  have q : tfP v (V.rI 12 4 = -1 ∨ ∃ u, u < s ∧ V.rI 12 4 = nI u) := q
  refine mTo.tf q (fun hc => mTo.ret (tf0 fun ⟨_, _, _, _, _, _, _, _, _, x⟩ => hc (x 1 (by decide)))) (fun h5 => mTo.ret (tf1 ?_))
  obtain ⟨o, o1, o2⟩ := h1
  obtain ⟨w, w1, w2⟩ := h2
  obtain ⟨a, a1, a2⟩ := h3
  refine ⟨o, w, a, o2, w2, a2, by omega, by omega, a1, fun j hj => ?_⟩
  rcases (show j = 0 ∨ j = 1 by omega) with e | e <;> subst e
  · exact h4
  · exact h5
theorem T_isItemOf {F e k s i : Nat} {V : mV} (hF : 64 ≤ F) (hk : V.fI e 0 = nI k) (hs : V.fI e 1 = nI s) (k12 : k < 12) (s0 : loS k ≤ s) (s1 : s ≤ hiS k) (hi : i < 2 ^ 20) : mTo (mX4_isItemOf F e (nI i) 12 V) (fun v => tfP v (itK k s i (fun j => V.rI 12 j))) := by
  have pass : ∀ {C D : Prop} {o : Option Int32}, mTo o (fun v => tfP v C) → (C ↔ D) → mTo (mBN o fun v => (if ¬ ((v = 0 ∨ v = 1)) then none else some v)) (fun v => tfP v D) := fun h e => mTo.N h (fun v _ q => mTo.gd (fun z => z q.1) (mTo.ret (q.iff e)))
  unfold mX4_isItemOf
  refine mTo.lt ?_
  rw [hk, hs]
  rcases (show k = 0 ∨ k = 1 ∨ k = 2 ∨ k = 3 ∨ k = 4 ∨ k = 5 ∨ k = 6 ∨ k = 7 ∨ k = 8 ∨ k = 9 ∨ k = 10 ∨ k = 11 by omega) with e | e | e | e | e | e | e | e | e | e | e | e <;> subst e
  · have s0 : 1 ≤ s := s0
    have s1 : s ≤ 9 := s1
    rw [if_pos (by decide)]
    exact pass (T_unlike (by omega) (by omega)) (ik0 (Or.inl rfl)).symm
  · have s0 : 2 ≤ s := s0
    have s1 : s ≤ 7 := s1
    rw [if_neg (by decide), if_pos (by decide)]
    refine mTo.N (T_unlike (F := F) (by omega) (by omega)) (fun v _ q => mTo.tf q (fun hc => mTo.ret (tf0 fun c => ?_)) (fun hc => mTo.gd (by decide) (mTo.N (T_within (F := F)) (fun v _ q => ?_))))
    · obtain ⟨a, c, f, x0, x1, x2, a1, c1, ne, f1⟩ := ik1.mp c
      exact hc ⟨a, c, x0, x1, a1, c1, ne⟩
    · rw [show (0 : Int32).toInt = 0 from rfl, show (6 : Int32).toInt = ((7 : Nat) : Int) - 1 from rfl, in_iff (by decide)] at q
      have q : tfP v (∃ a, a < 7 ∧ V.rI 12 2 = nI a) := q
      obtain ⟨a, c, x0, x1, a1, c1, ne⟩ := hc
      refine mTo.tf q (fun hc => mTo.ret (tf0 fun c => ?_)) (fun ⟨f, f1, f2⟩ => mTo.ret (tf1 (ik1.mpr ⟨a, c, f, x0, x1, f2, a1, c1, ne, by omega⟩)))
      obtain ⟨_, _, f, _, _, x2, _, _, _, f1⟩ := ik1.mp c
      exact hc ⟨f, by omega, x2⟩
  · have s0 : 1 ≤ s := s0
    have s1 : s ≤ 7 := s1
    rw [if_neg (by decide), if_neg (by decide), if_pos (by decide)]
    exact pass (T_unlike (by omega) (by omega)) (ik0 (Or.inr rfl)).symm
  · have s1 : s ≤ 4 := s1
    rw [if_neg (by decide), if_neg (by decide), if_neg (by decide), if_pos (by decide)]
    refine mTo.N (T_areWithin (m := 9) hF (by omega) (by decide)) (fun v _ q => mTo.tf q (fun hc => mTo.ret (tf0 fun c => hc (fun j hj _ => (ik3.mp c).1 j hj))) (fun hc => mTo.gd (by decide) (mTo.N (T_within (F := F)) (fun v _ q => ?_))))
    rw [show (-60 : Int32).toInt = -((60 : Nat) : Int) by decide, show (60 : Int32).toInt = ((60 : Nat) : Int) from rfl, natAbs_in] at q
    have q : tfP v ((V.rI 12 4).toInt.natAbs ≤ 60) := q
    exact mTo.tf q (fun hc => mTo.ret (tf0 fun c => hc (ik3.mp c).2)) (fun h4 => mTo.ret (tf1 (ik3.mpr ⟨fun j hj => hc j hj (by omega), h4⟩)))
  · have s1 : s ≤ 6 := s1
    rw [if_neg (by decide), if_neg (by decide), if_neg (by decide), if_neg (by decide), if_pos (by decide)]
    refine mTo.N (T_areWithin (s := 3) hF (by decide) (show s < 10 by omega)) (fun v _ q => mTo.tf q (fun hc => mTo.ret (tf0 fun c => hc (fun j hj _ => (ik4.mp c).1 j hj))) (fun hc => ?_))
    have h3 : ∀ j, j < 3 → (V.rI 12 j).toInt.natAbs ≤ s := fun j hj => hc j hj (by omega)
    have yes : ∀ {α : Prop}, (V.rI 12 0 = 0 ∧ V.rI 12 1 = 0 ∧ V.rI 12 2 = 0 → False) → itK 4 s i (fun j => V.rI 12 j) := fun h => ik4.mpr ⟨h3, h⟩
    refine mTo.gd (by decide) (mTo.ite (fun z0 => mTo.gd (by decide) (mTo.ite (fun z1 => mTo.gd (by decide) (mTo.ite (fun z2 => mTo.ret (tf0 fun c => (ik4.mp c).2 ⟨z0, z1, z2⟩)) (fun z2 => mTo.ret (tf1 (ik4.mpr ⟨h3, fun c => z2 c.2.2⟩))))) (fun z1 => mTo.ret (tf1 (ik4.mpr ⟨h3, fun c => z1 c.2.1⟩))))) (fun z0 => mTo.ret (tf1 (ik4.mpr ⟨h3, fun c => z0 c.1⟩))))
  · have s1 : s ≤ 4 := s1
    rw [if_neg (by decide), if_neg (by decide), if_neg (by decide), if_neg (by decide), if_neg (by decide), if_pos (by decide)]
    refine mTo.N (T_areWithin (m := 6) hF (by omega) (by decide)) (fun v _ q => mTo.tf q (fun hc => mTo.ret (tf0 fun c => hc (fun j hj _ => (ik5.mp c).1 j hj))) (fun hc => mTo.gd (by decide) (mTo.N (T_within (F := F)) (fun v _ q => ?_))))
    rw [show (-20 : Int32).toInt = -((20 : Nat) : Int) by decide, show (20 : Int32).toInt = ((20 : Nat) : Int) from rfl, natAbs_in] at q
    have q : tfP v ((V.rI 12 4).toInt.natAbs ≤ 20) := q
    exact mTo.tf q (fun hc => mTo.ret (tf0 fun c => hc (ik5.mp c).2)) (fun h4 => mTo.ret (tf1 (ik5.mpr ⟨fun j hj => hc j hj (by omega), h4⟩)))
  · rw [if_neg (by decide), if_neg (by decide), if_neg (by decide), if_neg (by decide), if_neg (by decide), if_neg (by decide), if_pos (by decide)]
    exact mTo.ret (tf1 ik6)
  · rw [if_neg (by decide), if_neg (by decide), if_neg (by decide), if_neg (by decide), if_neg (by decide), if_neg (by decide), if_neg (by decide), if_pos (by decide)]
    refine pass (T_areWithin (s := 4) (m := 7) hF (by decide) (by decide)) ?_
    rw [ik7]
    exact ⟨fun h j hj => h j hj (by omega), fun h j hj _ => h j hj⟩
  · have s0 : 2 ≤ s := s0
    have s1 : s ≤ 6 := s1
    rw [if_neg (by decide), if_neg (by decide), if_neg (by decide), if_neg (by decide), if_neg (by decide), if_neg (by decide), if_neg (by decide), if_neg (by decide), if_pos (by decide)]
    exact pass (T_unlikeP hF (by omega) s1) ik8.symm
  · rw [if_neg (by decide), if_neg (by decide), if_neg (by decide), if_neg (by decide), if_neg (by decide), if_neg (by decide), if_neg (by decide), if_neg (by decide), if_neg (by decide), if_pos (by decide)]
    refine mTo.eqI (b := 0) rfl rfl (by omega) (by omega) (fun z => ?_) (fun z => ?_)
    · refine pass (T_words (s := 255) rfl (by decide)) ?_
      rw [ik9]
      exact ⟨fun ⟨a, c, x0, x1, a0, c0, a1, c1⟩ => ⟨a, c, x0, x1, a0, c0, by omega, by omega, fun h => by omega⟩, fun ⟨a, c, x0, x1, a0, c0, a1, c1, _⟩ => ⟨a, c, x0, x1, a0, c0, by omega, by omega⟩⟩
    · refine pass (T_words (s := 31) rfl (by decide)) ?_
      rw [ik9]
      exact ⟨fun ⟨a, c, x0, x1, a0, c0, a1, c1⟩ => ⟨a, c, x0, x1, a0, c0, by omega, by omega, fun _ => ⟨by omega, by omega⟩⟩, fun ⟨a, c, x0, x1, a0, c0, a1, c1, h⟩ => ⟨a, c, x0, x1, a0, c0, by have := h (by omega); omega, by have := h (by omega); omega⟩⟩
  · have s0 : 1 ≤ s := s0
    have s1 : s ≤ 8 := s1
    rw [if_neg (by decide), if_neg (by decide), if_neg (by decide), if_neg (by decide), if_neg (by decide), if_neg (by decide), if_neg (by decide), if_neg (by decide), if_neg (by decide), if_neg (by decide), if_pos (by decide)]
    have e0 : (0 : Int32).toInt = 0 := rfl
    refine mTo.gd (by decide) (mTo.N (T_within (F := F)) (fun v _ q => ?_))
    rw [e0, nI_p1 (by omega) (by omega), in_iff (by omega)] at q
    have q : tfP v (∃ a, a < s ∧ V.rI 12 0 = nI a) := q
    refine mTo.tf q (fun hc => mTo.ret (tf0 fun c => ?_)) (fun h1 => mTo.gd (by decide) (mTo.N (T_within (F := F)) (fun v _ q => ?_)))
    · obtain ⟨a, _, _, x0, _, _, a1, _⟩ := ik10.mp c
      exact hc ⟨a, a1, x0⟩
    rw [e0, nI_p1 (by omega) (by omega), in_iff (by omega)] at q
    have q : tfP v (∃ a, a < s ∧ V.rI 12 1 = nI a) := q
    refine mTo.tf q (fun hc => mTo.ret (tf0 fun c => ?_)) (fun h2 => mTo.gd (by decide) (mTo.N (T_within (F := F)) (fun v _ q => ?_)))
    · obtain ⟨_, a, _, _, x0, _, _, a1, _⟩ := ik10.mp c
      exact hc ⟨a, a1, x0⟩
    rw [e0, show (1 : Int32).toInt = ((2 : Nat) : Int) - 1 from rfl, in_iff (by omega)] at q
    have q : tfP v (∃ a, a < 2 ∧ V.rI 12 2 = nI a) := q
    refine mTo.tf q (fun hc => mTo.ret (tf0 fun c => ?_)) (fun h3 => mTo.ret (tf1 ?_))
    · obtain ⟨_, _, a, _, _, x0, _, _, a1⟩ := ik10.mp c
      exact hc ⟨a, by omega, x0⟩
    · obtain ⟨a, a1, a2⟩ := h1
      obtain ⟨c, c1, c2⟩ := h2
      obtain ⟨f, f1, f2⟩ := h3
      exact ik10.mpr ⟨a, c, f, a2, c2, f2, a1, c1, by omega⟩
  · have s0 : 1 ≤ s := s0
    have s1 : s ≤ 7 := s1
    rw [if_neg (by decide), if_neg (by decide), if_neg (by decide), if_neg (by decide), if_neg (by decide), if_neg (by decide), if_neg (by decide), if_neg (by decide), if_neg (by decide), if_neg (by decide), if_neg (by decide)]
    exact pass (T_gameI (by omega) (by omega)) ik11.symm
end
