/-! THE PURE PART, drawings: the machine looks at branches and ways. -/
section
theorem T_countBranches {F n k : Nat} {nb : Nat → Nat} {V : mV} (hF : 64 ≤ F) (hg : gph nb n) (hE : edS V nb n) (hk : k < 2 ^ 20) : mTo (mX2_countBranches F (nI k) V) (fun v => v = nI (cbP nb k)) := by
  obtain ⟨g1, g2, g3, g4, g5, g6⟩ := id hg
  obtain ⟨a1, a2, a3, a4, a5, a6⟩ := hE
  have go : ∀ k' j, 8 < j + k' → j ≤ n → mTo (mX2_countBranches_go F k' 0 (nI k) (nI (cnt (fun u => Nat.blt k (degN nb u)) j)) (nI j) V) (fun v => v = nI (cbP nb k)) := by
    intro k'
    induction k' with
    | zero => intro j h1 h2; omega
    | succ k'' ih =>
      intro j h1 h2
      rw [mX2_countBranches_go, if_pos rfl]
      unfold mX2_countBranches_b0
      have ih := ih (j + 1) (by omega)
      have hn : cnt (fun u => Nat.blt k (degN nb u)) (j + 1) = cnt (fun u => Nat.blt k (degN nb u)) j + (if Nat.blt k (degN nb j) = true then 1 else 0) := rfl
      rw [hn] at ih
      refine mTo.le a1 rfl (by omega) (by omega) (fun z => mTo.ret ?_) (fun z => mTo.ix rfl (by omega) (by omega) ?_)
      · have := cnt_cut (X := fun u => Nat.blt k (degN nb u)) (a := j) (n := 7) (by omega) (fun i hi _ => by
          rw [degN_0 (g5 i (by omega))]
          cases e : Nat.blt k 0 with
          | false => rfl
          | true => exact absurd (blt_t.mp e) (Nat.not_lt_zero k))
        unfold cbP
        rw [this]
      · have lt := g4 j
        rw [nI_clamp (n := j) (by omega), a3 j (by omega)]
        refine mTo.so (T_pop (by omega)) ?_
        rw [pop_deg rfl lt]
        have dl := degN_le (nb := nb) (u := j)
        refine mTo.le rfl rfl (by omega) (by omega) (fun y => mTo.lt ?_) (fun y => mTo.lt (mTo.lt ?_))
        · rw [if_neg (fun c => by have := blt_t.mp c; omega), Nat.add_zero] at ih
          rw [nI_1]
          exact ih (by omega)
        · rw [if_pos (blt_t.mpr y)] at ih
          rw [nI_1, nI_1]
          exact ih (by omega)
  unfold mX2_countBranches mX2_countBranches_s
  exact go F 0 (by omega) (Nat.zero_le _)
theorem T_areBranchesOf {F n kd : Nat} {nb : Nat → Nat} {V : mV} (hF : 64 ≤ F) (hg : gph nb n) (hE : edS V nb n) (hk : kd = 5 ∨ kd = 3) : mTo (mX2_areBranchesOf F (nI kd) V) (fun v => (v = 0 ∨ v = 1) ∧ (v ≠ 0 ↔ brB nb kd = true)) := by
  have hE' := hE
  obtain ⟨g1, g2, g3, g4, g5, g6⟩ := id hg
  obtain ⟨a1, a2, a3, a4, a5, a6⟩ := hE
  have q1 : ((1 : Int32) = 0 ∨ (1 : Int32) = 1) := Or.inr rfl
  have q0 : ((0 : Int32) = 0 ∨ (0 : Int32) = 1) := Or.inl rfl
  have n1 : (1 : Int32) ≠ 0 := by decide
  have br : brB nb kd = true ↔ (∀ u, u < 7 → degN nb u ≤ 2 ∨ degN nb u = (if kd = 5 then 4 else 3)) ∧ cbP nb 2 = (if kd = 5 then 5 else 6) := by
    unfold brB
    rw [Bool.and_eq_true]
    constructor
    · rintro ⟨h1, h2⟩
      refine ⟨fun u hu => ?_, Nat.eq_of_beq_eq_true h2⟩
      have := allN_t h1 u hu
      rw [Bool.or_eq_true] at this
      exact this.imp Nat.le_of_ble_eq_true Nat.eq_of_beq_eq_true
    · rintro ⟨h1, h2⟩
      refine ⟨List.all_eq_true.mpr fun u hu => ?_, by rw [h2]; exact Nat.beq_refl _⟩
      rw [Bool.or_eq_true]
      exact (h1 u (List.mem_range.mp hu)).imp Nat.ble_eq_true_of_le (fun c => by rw [c]; exact Nat.beq_refl _)
  have go : ∀ k' j, 8 < j + k' → j ≤ n → (∀ u, u < j → degN nb u ≤ 2 ∨ degN nb u = (if kd = 5 then 4 else 3)) → mTo (mX2_areBranchesOf_go F k' 0 (nI kd) (nI (if kd = 5 then 4 else 3)) (nI j) V) (fun v => (v = 0 ∨ v = 1) ∧ (v ≠ 0 ↔ brB nb kd = true)) := by
    intro k'
    induction k' with
    | zero => intro j h1 h2; omega
    | succ k'' ih =>
      intro j h1 h2 h3
      rw [mX2_areBranchesOf_go, if_pos rfl]
      unfold mX2_areBranchesOf_b0
      refine mTo.le a1 rfl (by omega) (by omega) (fun z => ?_) (fun z => mTo.ix rfl (by omega) (by omega) ?_)
      · have all : ∀ u, u < 7 → degN nb u ≤ 2 ∨ degN nb u = (if kd = 5 then 4 else 3) := fun u hu => by
          by_cases c : u < j
          · exact h3 u c
          · rw [degN_0 (g5 u (by omega))]
            exact Or.inl (Nat.zero_le _)
        refine mTo.N (T_countBranches (k := 2) hF hg hE' (by omega)) (fun v _ hv => ?_)
        subst hv
        have c7 : cbP nb 2 ≤ 7 := cnt_n 7
        rcases hk with e | e
        · subst e
          rw [if_pos (show nI 5 = (5 : Int32) from rfl)]
          refine mTo.eqI (b := 5) rfl rfl (by omega) (by omega) (fun y => mTo.ret ⟨q1, fun _ => br.mpr ⟨all, y⟩, fun _ => n1⟩) (fun y => mTo.ret ⟨q0, fun c => absurd rfl c, fun c => absurd (br.mp c).2 y⟩)
        · subst e
          rw [if_neg (show ¬ nI 3 = (5 : Int32) by decide)]
          refine mTo.eqI (b := 6) rfl rfl (by omega) (by omega) (fun y => mTo.ret ⟨q1, fun _ => br.mpr ⟨all, y⟩, fun _ => n1⟩) (fun y => mTo.ret ⟨q0, fun c => absurd rfl c, fun c => absurd (br.mp c).2 y⟩)
      · have lt := g4 j
        rw [nI_clamp (n := j) (by omega), a3 j (by omega)]
        refine mTo.so (T_pop (by omega)) ?_
        rw [pop_deg rfl lt]
        have dl := degN_le (nb := nb) (u := j)
        have d9 : (if kd = 5 then 4 else 3) < 2 ^ 31 := by split <;> omega
        refine mTo.le (b := 2) rfl rfl (by omega) (by omega) (fun y => mTo.lt ?_) (fun y => mTo.eqI rfl rfl (by omega) d9 (fun x => mTo.lt ?_) (fun x => mTo.ret ⟨q0, fun c => absurd rfl c, fun c => ?_⟩))
        · rw [nI_1]
          refine ih (j + 1) (by omega) (by omega) (fun u hu => ?_)
          by_cases c : u = j
          · rw [c]; exact Or.inl y
          · exact h3 u (by omega)
        · rw [nI_1]
          refine ih (j + 1) (by omega) (by omega) (fun u hu => ?_)
          by_cases c : u = j
          · rw [c]; exact Or.inr x
          · exact h3 u (by omega)
        · exact absurd ((br.mp c).1 j (by omega)) (by omega)
  unfold mX2_areBranchesOf mX2_areBranchesOf_s
  rcases hk with e | e
  · subst e
    rw [if_pos (show nI 5 = (5 : Int32) from rfl)]
    exact go F 0 (by omega) (Nat.zero_le _) (fun u hu => absurd hu (Nat.not_lt_zero u))
  · subst e
    rw [if_neg (show ¬ nI 3 = (5 : Int32) by decide)]
    exact go F 0 (by omega) (Nat.zero_le _) (fun u hu => absurd hu (Nat.not_lt_zero u))
theorem lowB_l : ∀ S, S < 128 → S ≠ 0 → lwbP S < 7 ∧ S.testBit (lwbP S) = true ∧ ∀ l, l < 7 → l < lwbP S → S.testBit l = false := by decide +kernel
theorem T_lowB {F S : Nat} (hF : 64 ≤ F) (hS : S < 128) (h0 : S ≠ 0) : mTo (mX11_lowest F (nI S)) (fun v => v = nI (lwbP S)) := by
  refine (T_lowest hF (show S < 2 ^ 31 by omega)).mono (fun v hv => ?_)
  obtain ⟨l1, l2, l3⟩ := lowB_l S hS h0
  rcases hv with ⟨hv, _⟩ | ⟨i, i1, i2, i3, i4⟩
  · exact absurd hv h0
  · rw [i2]
    have : i = lwbP S := by
      rcases Nat.lt_trichotomy i (lwbP S) with c | c | c
      · have := l3 i (by omega) c
        rw [i3] at this
        exact absurd this (by decide)
      · exact c
      · have := i4 _ c
        rw [l2] at this
        exact absurd this (by decide)
    rw [this]
theorem fwN_b {nb : Nat → Nat} (h7 : ∀ u, nb u < 128) : ∀ k b a g, a < 7 → b < 7 → (fwN nb k b a g).1 < 7 ∧ g ≤ (fwN nb k b a g).2 ∧ (fwN nb k b a g).2 ≤ g + k
  | 0, b, a, g, ha, _ => ⟨ha, Nat.le_refl _, Nat.le_refl _⟩
  | k + 1, b, a, g, ha, hb => by
    rw [fwN]
    by_cases c : degN nb a = 2
    · rw [if_pos c]
      have lo : lwbP (nsd (nb a) (2 ^ b)) < 7 := by
        by_cases z : nsd (nb a) (2 ^ b) = 0
        · rw [z]
          decide
        · exact (lowB_l _ (nsd_lt (n := 7) (h7 a)) z).1
      obtain ⟨i1, i2, i3⟩ := fwN_b h7 k a _ (g + 1) lo ha
      exact ⟨i1, by omega, by omega⟩
    · rw [if_neg c]
      exact ⟨ha, Nat.le_refl _, by show g ≤ g + (k + 1); omega⟩
theorem T_followWay_go {F n u w : Nat} {nb : Nat → Nat} {V : mV} (hF : 64 ≤ F) (hg : gph nb n) (h3 : ∀ u, u < 7 → V.rI 27 u = nI (nb u)) (hu : u < 7) (hw : V.rI 34 u = nI w) (w7 : w < 128) : ∀ k' k b a g, k < k' → b < 7 → a < 7 → k + g = 22 → mTo (mX2_followWay_go F k' 0 (nI u) (nI b) (nI a) (nI g) V) (fun r => r = if (fwN nb k b a g).1 = u ∨ w.testBit (fwN nb k b a g).1 = true then (0, V) else (nI (fwN nb k b a g).2, mI V 34 (nI u) (nI (w ||| 2 ^ (fwN nb k b a g).1)))) := by
  obtain ⟨g1, g2, g3, g4, g5, g6⟩ := id hg
  intro k'
  induction k' with
  | zero => intro k b a g h1; omega
  | succ k'' ih =>
    intro k b a g h1 hb ha hk
    rw [mX2_followWay_go, if_pos rfl]
    unfold mX2_followWay_b0
    have last : mTo (if nI a = nI u then some ((0 : Int32), V) else (if nI u < 0 ∨ 7 ≤ (nI u).toNatClampNeg then none else (mBN (mX11_has F ((V.rI 34 (nI u).toNatClampNeg)) (nI a)) fun v4 => (if v4 = 0 then (if nI u < 0 ∨ 7 ≤ (nI u).toNatClampNeg then none else (if nI u < 0 ∨ 7 ≤ (nI u).toNatClampNeg then none else (mLt (mI V 34 (nI u) (((V.rI 34 (nI u).toNatClampNeg) ||| ((1 : Int32) <<< (nI a &&& 31))))) fun V12 => some (nI g, V12)))) else some ((0 : Int32), V))))) (fun r => r = if a = u ∨ w.testBit a = true then (0, V) else (nI g, mI V 34 (nI u) (nI (w ||| 2 ^ a)))) := by
      refine mTo.eqI rfl rfl (by omega) (by omega) (fun z => mTo.ret (by rw [if_pos (Or.inl z)])) (fun z => mTo.ix rfl (by omega) (by omega) ?_)
      rw [nI_clamp (n := u) (by omega), hw]
      refine mTo.hs (S := w) (j := a) rfl rfl (by omega) (by omega) (fun y => mTo.ic rfl (by omega) (by omega) (mTo.ic rfl (by omega) (by omega) (mTo.lt (mTo.ret ?_)))) (fun y => mTo.ret (by rw [if_pos (Or.inr y)]))
      rw [if_neg (fun c => c.elim z (fun c => by rw [y] at c; exact absurd c (by decide))), nb_one (by omega), nb_or]
    refine mTo.le (a := 22) rfl rfl (by decide) (by omega) (fun z => ?_) (fun z => ?_)
    · have : k = 0 := by omega
      subst this
      exact last
    · obtain ⟨j, hj⟩ : ∃ j, k = j + 1 := ⟨k - 1, by omega⟩
      subst hj
      rw [fwN]
      have lt := g4 a
      refine mTo.ix rfl (by omega) (by omega) ?_
      rw [nI_clamp (n := a) (by omega), h3 a ha]
      refine mTo.so (T_pop (by omega)) ?_
      rw [pop_deg rfl lt]
      have dl := degN_le (nb := nb) (u := a)
      refine mTo.eqI (b := 2) rfl rfl (by omega) (by omega) (fun y => mTo.ic rfl (by omega) (by omega) ?_) (fun y => ?_)
      · rw [if_pos y, nb_one (by omega), nb_not (by omega)]
        have l7 : nsd (nb a) (2 ^ b) < 128 := nsd_lt (n := 7) (g4 a)
        have nz : nsd (nb a) (2 ^ b) ≠ 0 := fun c => by
          have d1 : cnt (fun i => (nsd (nb a) (2 ^ b)).testBit i) 7 = 0 := cnt_0 7 (fun i _ => by rw [c, Nat.zero_testBit])
          have d2 := cnt_le (X := cdel (fun i => (nb a).testBit i) b) (Y := fun i => (nsd (nb a) (2 ^ b)).testBit i) 7 (fun i _ hi => by
            obtain ⟨x1, x2⟩ := cdel_eq.mp hi
            have x1 : (nb a).testBit i = true := x1
            show (nsd (nb a) (2 ^ b)).testBit i = true
            rw [nsd_bit, x1, nb_pow, decide_eq_false (fun c => x2 c.symm)]
            rfl)
          have d3 : degN nb a = cnt (fun i => (nb a).testBit i) 7 := rfl
          by_cases c2 : (nb a).testBit b = true
          · have := cnt_del (X := fun i => (nb a).testBit i) c2 7 hb
            omega
          · have := cnt_eq (X := fun i => (nb a).testBit i) (Y := cdel (fun i => (nb a).testBit i) b) 7 (fun i _ => by
              rw [Bool.eq_iff_iff, cdel_eq]
              exact ⟨fun x => ⟨x, fun e => c2 (by rw [← e]; exact x)⟩, fun x => x.1⟩)
            omega
        refine mTo.N (T_lowB hF l7 nz) (fun v _ hv => mTo.lt ?_)
        subst hv
        rw [nI_1]
        exact ih j a _ (g + 1) (by omega) ha (lowB_l _ l7 nz).1 (by omega)
      · rw [if_neg y]
        exact last
theorem T_followWay {F n u v w : Nat} {nb : Nat → Nat} {V : mV} (hF : 64 ≤ F) (hg : gph nb n) (h3 : ∀ u, u < 7 → V.rI 27 u = nI (nb u)) (hu : u < 7) (hv : v < 7) (hw : V.rI 34 u = nI w) (w7 : w < 128) : mTo (mX2_followWay F (nI u) (nI v) V) (fun r => r = if (fwN nb 21 u v 1).1 = u ∨ w.testBit (fwN nb 21 u v 1).1 = true then (0, V) else (nI (fwN nb 21 u v 1).2, mI V 34 (nI u) (nI (w ||| 2 ^ (fwN nb 21 u v 1).1)))) := by
  unfold mX2_followWay mX2_followWay_s
  exact T_followWay_go hF hg h3 hu hw w7 F 21 u v 1 (by omega) hu hv rfl
end
