/-! THE BOOK: the solvers leave what an entry asks as it is. -/
section
def mAe (e : Nat) (V V1 : mV) : Prop := ∀ j, j ≠ 11 → j ≠ 12 → V1.fI e j = V.fI e j
theorem mAe.rf {e : Nat} {V : mV} : mAe e V V := fun _ _ _ => rfl
theorem mAe.tr {e : Nat} {V V1 V2 : mV} (a : mAe e V V1) (b : mAe e V1 V2) : mAe e V V2 := fun j h1 h2 => (b j h1 h2).trans (a j h1 h2)
theorem mAe.of {e : Nat} {V V1 : mV} {w : Nat → Prop} (a : mAv w V V1) (h : ¬ w e) : mAe e V V1 := fun j _ _ => by rw [(a.1 e h).1]
theorem mAe.tell {F e : Nat} {x t : Int32} {V V1 : mV} {v : Unit} (h : mX3_tell F e x t V = some (v, V1)) : mAe e V V1 := fun j h1 h2 => by
  obtain ⟨p, e1, q⟩ := T_tell (F := F) (e := e) (x := x) (t := t) (V := V)
  rw [h] at e1
  cases e1
  exact q.2.2.1 j h1 h2
set_option maxHeartbeats 4000000 in
theorem EX7_solvePairings {F : Nat} {Ln Ln1 : Nat → Nat} {V V1 : mV} {v : Unit} {l1A : Nat} (he : 256 ≤ l1A ∧ l1A < 1024) (h : mX7_solvePairings F Ln l1A V = some (v, Ln1, V1)) : mAe l1A V V1 := by
  unfold mX7_solvePairings at h
  obtain ⟨v1, V2, h1, h⟩ := mBW_some h
  have a1 : mAe l1A V V2 := mAe.tr mAe.rf (mAe.of (NX7_countPairs h1) (fun z => by unfold wX7_countPairs at z; omega))
  obtain ⟨x6, _, h⟩ := mLt_some h
  obtain ⟨c2, h⟩ := mGd_some h
  obtain ⟨x8, _, h⟩ := mLt_some h
  rcases mIf_some h with ⟨_, h⟩ | ⟨_, h⟩
  · obtain ⟨v10, V11, h3, h⟩ := mBW_some h
    have a3 : mAe l1A V V11 := mAe.tr a1 (mAe.tell h3)
    obtain ⟨v15, L16, V16, h4, h⟩ := mBA_some h
    have y4 := NX7_writeNodes h4
    have a4 : mAe l1A V V16 := mAe.tr a3 (mAe.of y4.1 (fun z => by unfold wX7_writeNodes at z; omega))
    obtain ⟨_, rfl, rfl⟩ := mRA3 h
    exact a4
  · obtain ⟨v20, V21, h5, h⟩ := mBW_some h
    have a5 : mAe l1A V V21 := mAe.tr a1 (mAe.tell h5)
    obtain ⟨v25, L26, V26, h6, h⟩ := mBA_some h
    have y6 := NX7_writePairing h6
    have a6 : mAe l1A V V26 := mAe.tr a5 (mAe.of y6.1 (fun z => by unfold wX7_writePairing at z; omega))
    obtain ⟨_, rfl, rfl⟩ := mRA3 h
    exact a6
set_option maxHeartbeats 4000000 in
theorem EX7_solveFlows_go {F : Nat} {v : Unit} {Ln1 : Nat → Nat} {V1 : mV} : ∀ k' : Nat, (∀ (l1A : Nat) (_ : 256 ≤ l1A ∧ l1A < 1024) (l4I : Int32) (Ln : Nat → Nat) (V : mV), mX7_solveFlows_go F k' 0 Ln l1A l4I V = some (v, Ln1, V1) → mAe l1A V V1) ∧ (∀ (l1A : Nat) (_ : 256 ≤ l1A ∧ l1A < 1024) (l4I : Int32) (Ln : Nat → Nat) (V : mV), mX7_solveFlows_go F k' 1 Ln l1A l4I V = some (v, Ln1, V1) → mAe l1A V V1) ∧ (∀ (l1A : Nat) (_ : 256 ≤ l1A ∧ l1A < 1024) (l4I : Int32) (Ln : Nat → Nat) (V : mV), mX7_solveFlows_go F k' 2 Ln l1A l4I V = some (v, Ln1, V1) → mAe l1A V V1) := by
  intro k'
  induction k' with
  | zero => exact ⟨(fun _ _ _ _ _ h => by cases h), (fun _ _ _ _ _ h => by cases h), (fun _ _ _ _ _ h => by cases h)⟩
  | succ k' ih =>
    refine ⟨?_, ?_, ?_⟩
    · intro l1A he l4I Ln V h
      rw [mX7_solveFlows_go, if_pos rfl] at h
      unfold mX7_solveFlows_b0 at h
      rcases mIf_some h with ⟨_, h⟩ | ⟨_, h⟩
      · obtain ⟨v2, V3, h1, h⟩ := mBW_some h
        have a1 : mAe l1A V V3 := mAe.tr mAe.rf (mAe.of (NX7_lowerAll h1) (fun z => by unfold wX7_lowerAll at z; omega))
        have y := ih.2.1 _ he _ _ _ h
        exact mAe.tr a1 y
      · obtain ⟨v7, V8, h2, h⟩ := mBW_some h
        have a2 : mAe l1A V V8 := mAe.tr mAe.rf (mAe.of (NX7_leadsOn h2) (fun z => by unfold wX7_leadsOn at z; omega))
        obtain ⟨x12, _, h⟩ := mLt_some h
        have y := ih.1 _ he _ _ _ h
        exact mAe.tr a2 y
    · intro l1A he l4I Ln V h
      rw [mX7_solveFlows_go, if_neg (by decide), if_pos rfl] at h
      unfold mX7_solveFlows_b1 at h
      rcases mIf_some h with ⟨_, h⟩ | ⟨_, h⟩
      · obtain ⟨_, rfl, rfl⟩ := mRA3 h
        exact mAe.rf
      · obtain ⟨c3, h⟩ := mGd_some h
        obtain ⟨v15, L16, V16, h4, h⟩ := mBA_some h
        have y4 := NX9_add h4
        have a4 : mAe l1A V V16 := mAe.tr mAe.rf (mAe.of y4.1 (fun z => by unfold wX9_add at z; omega))
        obtain ⟨x20, _, h⟩ := mLt_some h
        have y := ih.2.1 _ he _ _ _ h
        exact mAe.tr a4 y
    · intro l1A he l4I Ln V h
      rw [mX7_solveFlows_go, if_neg (by decide), if_neg (by decide), if_pos rfl] at h
      unfold mX7_solveFlows_b2 at h
      rcases mIf_some h with ⟨_, h⟩ | ⟨_, h⟩
      · obtain ⟨_, rfl, rfl⟩ := mRA3 h
        exact mAe.rf
      · obtain ⟨v22, _, h⟩ := mBN_some h
        rcases mIf_some h with ⟨_, h⟩ | ⟨_, h⟩
        · obtain ⟨x28, _, h⟩ := mLt_some h
          have y := ih.2.2 _ he _ _ _ h
          exact mAe.tr mAe.rf y
        · obtain ⟨v29, L30, V30, h5, h⟩ := mBA_some h
          have y5 := NX9_add h5
          have a5 : mAe l1A V V30 := mAe.tr mAe.rf (mAe.of y5.1 (fun z => by unfold wX9_add at z; omega))
          obtain ⟨x34, _, h⟩ := mLt_some h
          have y := ih.2.2 _ he _ _ _ h
          exact mAe.tr a5 y
set_option maxHeartbeats 4000000 in
theorem EX7_solveFlows {F : Nat} {Ln Ln1 : Nat → Nat} {V V1 : mV} {v : Unit} {l1A : Nat} (he : 256 ≤ l1A ∧ l1A < 1024) (h : mX7_solveFlows F Ln l1A V = some (v, Ln1, V1)) : mAe l1A V V1 := by
  have ih := EX7_solveFlows_go (F := F) (v := v) (Ln1 := Ln1) (V1 := V1) F
  unfold mX7_solveFlows mX7_solveFlows_s at h
  obtain ⟨v35, V36, h6, h⟩ := mBW_some h
  have a6 : mAe l1A V V36 := mAe.tr mAe.rf (mAe.of (NX7_loadFlows h6) (fun z => by unfold wX7_loadFlows at z; omega))
  obtain ⟨v40, V41, h7, h⟩ := mBW_some h
  have a7 : mAe l1A V V41 := mAe.tr a6 (mAe.of (NX7_greatest h7) (fun z => by unfold wX7_greatest at z; omega))
  rcases mIf_some h with ⟨_, h⟩ | ⟨_, h⟩
  · obtain ⟨v46, V47, h8, h⟩ := mBW_some h
    have a8 : mAe l1A V V47 := mAe.tr a7 (mAe.tell h8)
    have y := ih.2.2 _ he _ _ _ h
    exact mAe.tr a8 y
  · obtain ⟨v51, V52, h9, h⟩ := mBW_some h
    have a9 : mAe l1A V V52 := mAe.tr a7 (mAe.tell h9)
    obtain ⟨v56, V57, h10, h⟩ := mBW_some h
    have a10 : mAe l1A V V57 := mAe.tr a9 (mAe.of (NJ7_fill_53178 h10) (fun z => by unfold wJ7_fill_53178 at z; omega))
    have y := ih.1 _ he _ _ _ h
    exact mAe.tr a10 y
set_option maxHeartbeats 4000000 in
theorem EX2_solve_go {F : Nat} {v : Unit} {Ln1 : Nat → Nat} {V1 : mV} : ∀ k' : Nat, (∀ (l1A : Nat) (_ : 256 ≤ l1A ∧ l1A < 1024) (l3I : Int32) (Ln : Nat → Nat) (V : mV), mX2_solve_go F k' 0 Ln l1A l3I V = some (v, Ln1, V1) → mAe l1A V V1) := by
  intro k'
  induction k' with
  | zero => exact (fun _ _ _ _ _ h => by cases h)
  | succ k' ih =>
    intro l1A he l3I Ln V h
    rw [mX2_solve_go, if_pos rfl] at h
    unfold mX2_solve_b0 at h
    rcases mIf_some h with ⟨_, h⟩ | ⟨_, h⟩
    · obtain ⟨v2, _, h⟩ := mBN_some h
      obtain ⟨v7, V8, h1, h⟩ := mBW_some h
      have a1 : mAe l1A V V8 := mAe.tr mAe.rf (mAe.tell h1)
      obtain ⟨_, rfl, rfl⟩ := mRA3 h
      exact a1
    · obtain ⟨c2, h⟩ := mGd_some h
      obtain ⟨v13, L14, V14, h3, h⟩ := mBA_some h
      have y3 := NX9_add h3
      have a3 : mAe l1A V V14 := mAe.tr mAe.rf (mAe.of y3.1 (fun z => by unfold wX9_add at z; omega))
      obtain ⟨x18, _, h⟩ := mLt_some h
      have y := ih _ he _ _ _ h
      exact mAe.tr a3 y
set_option maxHeartbeats 4000000 in
theorem EX2_solve {F : Nat} {Ln Ln1 : Nat → Nat} {V V1 : mV} {v : Unit} {l1A : Nat} (he : 256 ≤ l1A ∧ l1A < 1024) (h : mX2_solve F Ln l1A V = some (v, Ln1, V1)) : mAe l1A V V1 := by
  have ih := EX2_solve_go (F := F) (v := v) (Ln1 := Ln1) (V1 := V1) F
  unfold mX2_solve mX2_solve_s at h
  obtain ⟨v19, _, h⟩ := mBN_some h
  obtain ⟨v24, V25, h4, h⟩ := mBW_some h
  have a4 : mAe l1A V V25 := mAe.tr mAe.rf (mAe.of (NX2_loadEdges h4) (fun z => by unfold wX2_loadEdges at z; omega))
  obtain ⟨v29, V30, h5, h⟩ := mBW_some h
  have a5 : mAe l1A V V30 := mAe.tr a4 (mAe.of (NX2_fillsFrom h5) (fun z => by unfold wX2_fillsFrom at z; omega))
  rcases mIf_some h with ⟨_, h⟩ | ⟨_, h⟩
  · obtain ⟨v35, L36, V36, h6, h⟩ := mBA_some h
    have y6 := NX2_writeCore h6
    have a6 : mAe l1A V V36 := mAe.tr a5 (mAe.of y6.1 (fun z => by unfold wX2_writeCore at z; omega))
    obtain ⟨v40, V41, h7, h⟩ := mBW_some h
    have a7 : mAe l1A V V41 := mAe.tr a6 (mAe.tell h7)
    obtain ⟨_, rfl, rfl⟩ := mRA3 h
    exact a7
  · have y := ih _ he _ _ _ h
    exact mAe.tr a5 y
set_option maxHeartbeats 4000000 in
theorem EX5_solve {F : Nat} {Ln Ln1 : Nat → Nat} {V V1 : mV} {v : Unit} {l1A : Nat} (he : 256 ≤ l1A ∧ l1A < 1024) (h : mX5_solve F Ln l1A V = some (v, Ln1, V1)) : mAe l1A V V1 := by
  unfold mX5_solve at h
  obtain ⟨x1, _, h⟩ := mLt_some h
  obtain ⟨v2, V3, h1, h⟩ := mBW_some h
  have a1 : mAe l1A V V3 := mAe.tr mAe.rf (mAe.of (NX5_loadUnknowns h1) (fun z => by unfold wX5_loadUnknowns at z; omega))
  obtain ⟨v7, V8, h2, h⟩ := mBW_some h
  have a2 : mAe l1A V V8 := mAe.tr a1 (mAe.of (NX5_isFulfilled h2) (fun z => by unfold wX5_isFulfilled at z; omega))
  rcases mIf_some h with ⟨_, h⟩ | ⟨_, h⟩
  · obtain ⟨v13, V14, h3, h⟩ := mBW_some h
    have a3 : mAe l1A V V14 := mAe.tr a2 (mAe.of (NX5_loadWeights h3) (fun z => by unfold wX5_loadWeights at z; omega))
    obtain ⟨v18, V19, h4, h⟩ := mBW_some h
    have a4 : mAe l1A V V19 := mAe.tr a3 (mAe.of (NX5_isFulfilled h4) (fun z => by unfold wX5_isFulfilled at z; omega))
    obtain ⟨v23, L24, V24, h5, h⟩ := mBA_some h
    have y5 := NX5_writeLeast h5
    have a5 : mAe l1A V V24 := mAe.tr a4 (mAe.of y5.1 (fun z => by unfold wX5_writeLeast at z; omega))
    obtain ⟨v28, V29, h6, h⟩ := mBW_some h
    have a6 : mAe l1A V V29 := mAe.tr a5 (mAe.tell h6)
    obtain ⟨_, rfl, rfl⟩ := mRA3 h
    exact a6
  · obtain ⟨x33, _, h⟩ := mLt_some h
    obtain ⟨v34, V35, h7, h⟩ := mBW_some h
    have a7 : mAe l1A V V35 := mAe.tr a2 (mAe.of (NX5_minimise h7) (fun z => by unfold wX5_minimise at z; omega))
    obtain ⟨v39, _, h⟩ := mBN_some h
    obtain ⟨x44, _, h⟩ := mLt_some h
    obtain ⟨v45, _, h⟩ := mBN_some h
    obtain ⟨v50, V51, h8, h⟩ := mBW_some h
    have a8 : mAe l1A V V51 := mAe.tr a7 (mAe.tell h8)
    obtain ⟨v55, V56, h9, h⟩ := mBW_some h
    have a9 : mAe l1A V V56 := mAe.tr a8 (mAe.of (NX5_loadUnknowns h9) (fun z => by unfold wX5_loadUnknowns at z; omega))
    obtain ⟨v60, V61, h10, h⟩ := mBW_some h
    have a10 : mAe l1A V V61 := mAe.tr a9 (mAe.of (NX5_isFulfilled h10) (fun z => by unfold wX5_isFulfilled at z; omega))
    obtain ⟨v65, L66, V66, h11, h⟩ := mBA_some h
    have y11 := NX5_writeLeast h11
    have a11 : mAe l1A V V66 := mAe.tr a10 (mAe.of y11.1 (fun z => by unfold wX5_writeLeast at z; omega))
    obtain ⟨_, rfl, rfl⟩ := mRA3 h
    exact a11
set_option maxHeartbeats 4000000 in
theorem EX1_solve_go {F : Nat} {v : Unit} {Ln1 : Nat → Nat} {V1 : mV} : ∀ k' : Nat, (∀ (l1A : Nat) (_ : 256 ≤ l1A ∧ l1A < 1024) (l2I : Int32) (l3I : Int32) (l4I : Int32) (Ln : Nat → Nat) (V : mV), mX1_solve_go F k' 0 Ln l1A l2I l3I l4I V = some (v, Ln1, V1) → mAe l1A V V1) := by
  intro k'
  induction k' with
  | zero => exact (fun _ _ _ _ _ _ _ h => by cases h)
  | succ k' ih =>
    intro l1A he l2I l3I l4I Ln V h
    rw [mX1_solve_go, if_pos rfl] at h
    unfold mX1_solve_b0 at h
    rcases mIf_some h with ⟨_, h⟩ | ⟨_, h⟩
    · rcases mIf_some h with ⟨_, h⟩ | ⟨_, h⟩
      · obtain ⟨v3, V4, h1, h⟩ := mBW_some h
        have a1 : mAe l1A V V4 := mAe.tr mAe.rf (mAe.tell h1)
        rcases mIf_some h with ⟨_, h⟩ | ⟨_, h⟩
        · obtain ⟨v9, L10, V10, h2, h⟩ := mBA_some h
          have y2 := NX1_goThrough h2
          have a2 : mAe l1A V V10 := mAe.tr a1 (mAe.of y2.1 (fun z => by unfold wX1_goThrough at z; omega))
          obtain ⟨_, rfl, rfl⟩ := mRA3 h
          exact a2
        · obtain ⟨_, rfl, rfl⟩ := mRA3 h
          exact a1
      · obtain ⟨v14, V15, h3, h⟩ := mBW_some h
        have a3 : mAe l1A V V15 := mAe.tr mAe.rf (mAe.tell h3)
        rcases mIf_some h with ⟨_, h⟩ | ⟨_, h⟩
        · obtain ⟨v20, L21, V21, h4, h⟩ := mBA_some h
          have y4 := NX1_goThrough h4
          have a4 : mAe l1A V V21 := mAe.tr a3 (mAe.of y4.1 (fun z => by unfold wX1_goThrough at z; omega))
          obtain ⟨_, rfl, rfl⟩ := mRA3 h
          exact a4
        · obtain ⟨_, rfl, rfl⟩ := mRA3 h
          exact a3
    · obtain ⟨v25, V26, h5, h⟩ := mBW_some h
      have a5 : mAe l1A V V26 := mAe.tr mAe.rf (mAe.of (NX1_isFulfilled h5) (fun z => by unfold wX1_isFulfilled at z; omega))
      rcases mIf_some h with ⟨_, h⟩ | ⟨_, h⟩
      · obtain ⟨x31, _, h⟩ := mLt_some h
        have y := ih _ he _ _ _ _ _ h
        exact mAe.tr a5 y
      · rcases mIf_some h with ⟨_, h⟩ | ⟨_, h⟩
        · obtain ⟨v35, L36, V36, h6, h⟩ := mBA_some h
          have y6 := NX1_writeTruths h6
          have a6 : mAe l1A V V36 := mAe.tr a5 (mAe.of y6.1 (fun z => by unfold wX1_writeTruths at z; omega))
          obtain ⟨x40, _, h⟩ := mLt_some h
          obtain ⟨x41, _, h⟩ := mLt_some h
          have y := ih _ he _ _ _ _ _ h
          exact mAe.tr a6 y
        · obtain ⟨x33, _, h⟩ := mLt_some h
          obtain ⟨x34, _, h⟩ := mLt_some h
          have y := ih _ he _ _ _ _ _ h
          exact mAe.tr a5 y
set_option maxHeartbeats 4000000 in
theorem EX1_solve {F : Nat} {Ln Ln1 : Nat → Nat} {V V1 : mV} {v : Unit} {l1A : Nat} (he : 256 ≤ l1A ∧ l1A < 1024) (h : mX1_solve F Ln l1A V = some (v, Ln1, V1)) : mAe l1A V V1 := by
  have ih := EX1_solve_go (F := F) (v := v) (Ln1 := Ln1) (V1 := V1) F
  unfold mX1_solve mX1_solve_s at h
  obtain ⟨x42, _, h⟩ := mLt_some h
  have y := ih _ he _ _ _ _ _ h
  exact mAe.tr mAe.rf y
set_option maxHeartbeats 4000000 in
theorem EX8_solveEquations_go {F : Nat} {v : Unit} {Ln1 : Nat → Nat} {V1 : mV} : ∀ k' : Nat, (∀ (l1A : Nat) (_ : 256 ≤ l1A ∧ l1A < 1024) (l2I : Int32) (Ln : Nat → Nat) (V : mV), mX8_solveEquations_go F k' 0 Ln l1A l2I V = some (v, Ln1, V1) → mAe l1A V V1) ∧ (∀ (l1A : Nat) (_ : 256 ≤ l1A ∧ l1A < 1024) (l2I : Int32) (Ln : Nat → Nat) (V : mV), mX8_solveEquations_go F k' 1 Ln l1A l2I V = some (v, Ln1, V1) → mAe l1A V V1) := by
  intro k'
  induction k' with
  | zero => exact ⟨(fun _ _ _ _ _ h => by cases h), (fun _ _ _ _ _ h => by cases h)⟩
  | succ k' ih =>
    refine ⟨?_, ?_⟩
    · intro l1A he l2I Ln V h
      rw [mX8_solveEquations_go, if_pos rfl] at h
      unfold mX8_solveEquations_b0 at h
      rcases mIf_some h with ⟨_, h⟩ | ⟨_, h⟩
      · have y := ih.2 _ he _ _ _ h
        exact mAe.tr mAe.rf y
      · obtain ⟨v2, V3, h1, h⟩ := mBW_some h
        have a1 : mAe l1A V V3 := mAe.tr mAe.rf (mAe.of (NX8_takeLeastAmount h1) (fun z => by unfold wX8_takeLeastAmount at z; omega))
        obtain ⟨x7, _, h⟩ := mLt_some h
        have y := ih.1 _ he _ _ _ h
        exact mAe.tr a1 y
    · intro l1A he l2I Ln V h
      rw [mX8_solveEquations_go, if_neg (by decide), if_pos rfl] at h
      unfold mX8_solveEquations_b1 at h
      rcases mIf_some h with ⟨_, h⟩ | ⟨_, h⟩
      · obtain ⟨_, rfl, rfl⟩ := mRA3 h
        exact mAe.rf
      · obtain ⟨c2, h⟩ := mGd_some h
        obtain ⟨v10, L11, V11, h3, h⟩ := mBA_some h
        have y3 := NX9_add h3
        have a3 : mAe l1A V V11 := mAe.tr mAe.rf (mAe.of y3.1 (fun z => by unfold wX9_add at z; omega))
        obtain ⟨x15, _, h⟩ := mLt_some h
        have y := ih.2 _ he _ _ _ h
        exact mAe.tr a3 y
set_option maxHeartbeats 4000000 in
theorem EX8_solveEquations {F : Nat} {Ln Ln1 : Nat → Nat} {V V1 : mV} {v : Unit} {l1A : Nat} (he : 256 ≤ l1A ∧ l1A < 1024) (h : mX8_solveEquations F Ln l1A V = some (v, Ln1, V1)) : mAe l1A V V1 := by
  have ih := EX8_solveEquations_go (F := F) (v := v) (Ln1 := Ln1) (V1 := V1) F
  unfold mX8_solveEquations mX8_solveEquations_s at h
  obtain ⟨v16, V17, h4, h⟩ := mBW_some h
  have a4 : mAe l1A V V17 := mAe.tr mAe.rf (mAe.of (NX8_findPoint h4) (fun z => by unfold wX8_findPoint at z; omega))
  rcases mIf_some h with ⟨_, h⟩ | ⟨_, h⟩
  · obtain ⟨v22, L23, V23, h5, h⟩ := mBA_some h
    have y5 := NX8_writeModulus h5
    have a5 : mAe l1A V V23 := mAe.tr a4 (mAe.of y5.1 (fun z => by unfold wX8_writeModulus at z; omega))
    obtain ⟨v27, _, h⟩ := mBN_some h
    obtain ⟨v32, V33, h6, h⟩ := mBW_some h
    have a6 : mAe l1A V V33 := mAe.tr a5 (mAe.tell h6)
    obtain ⟨_, rfl, rfl⟩ := mRA3 h
    exact a6
  · obtain ⟨v37, V38, h7, h⟩ := mBW_some h
    have a7 : mAe l1A V V38 := mAe.tr a4 (mAe.tell h7)
    have y := ih.1 _ he _ _ _ h
    exact mAe.tr a7 y
set_option maxHeartbeats 4000000 in
theorem EX8_solvePrimes {F : Nat} {Ln Ln1 : Nat → Nat} {V V1 : mV} {v : Unit} {l1A : Nat} (he : 256 ≤ l1A ∧ l1A < 1024) (h : mX8_solvePrimes F Ln l1A V = some (v, Ln1, V1)) : mAe l1A V V1 := by
  unfold mX8_solvePrimes at h
  obtain ⟨x1, _, h⟩ := mLt_some h
  obtain ⟨v2, _, h⟩ := mBN_some h
  rcases mIf_some h with ⟨_, h⟩ | ⟨_, h⟩
  · obtain ⟨v30, V31, h1, h⟩ := mBW_some h
    have a1 : mAe l1A V V31 := mAe.tr mAe.rf (mAe.tell h1)
    rcases mIf_some h with ⟨_, h⟩ | ⟨_, h⟩
    · obtain ⟨v47, L48, V48, h2, h⟩ := mBA_some h
      have y2 := NX8_writePrime h2
      have a2 : mAe l1A V V48 := mAe.tr a1 (mAe.of y2.1 (fun z => by unfold wX8_writePrime at z; omega))
      obtain ⟨_, rfl, rfl⟩ := mRA3 h
      exact a2
    · obtain ⟨v36, L37, V37, h3, h⟩ := mBA_some h
      have y3 := NX9_add h3
      have a3 : mAe l1A V V37 := mAe.tr a1 (mAe.of y3.1 (fun z => by unfold wX9_add at z; omega))
      obtain ⟨c4, h⟩ := mGd_some h
      obtain ⟨v42, L43, V43, h5, h⟩ := mBA_some h
      have y5 := NX9_add h5
      have a5 : mAe l1A V V43 := mAe.tr a3 (mAe.of y5.1 (fun z => by unfold wX9_add at z; omega))
      obtain ⟨_, rfl, rfl⟩ := mRA3 h
      exact a5
  · obtain ⟨v8, V9, h6, h⟩ := mBW_some h
    have a6 : mAe l1A V V9 := mAe.tr mAe.rf (mAe.tell h6)
    rcases mIf_some h with ⟨_, h⟩ | ⟨_, h⟩
    · obtain ⟨v25, L26, V26, h7, h⟩ := mBA_some h
      have y7 := NX8_writePrime h7
      have a7 : mAe l1A V V26 := mAe.tr a6 (mAe.of y7.1 (fun z => by unfold wX8_writePrime at z; omega))
      obtain ⟨_, rfl, rfl⟩ := mRA3 h
      exact a7
    · obtain ⟨v14, L15, V15, h8, h⟩ := mBA_some h
      have y8 := NX9_add h8
      have a8 : mAe l1A V V15 := mAe.tr a6 (mAe.of y8.1 (fun z => by unfold wX9_add at z; omega))
      obtain ⟨c9, h⟩ := mGd_some h
      obtain ⟨v20, L21, V21, h10, h⟩ := mBA_some h
      have y10 := NX9_add h10
      have a10 : mAe l1A V V21 := mAe.tr a8 (mAe.of y10.1 (fun z => by unfold wX9_add at z; omega))
      obtain ⟨_, rfl, rfl⟩ := mRA3 h
      exact a10
set_option maxHeartbeats 4000000 in
theorem EX8_solveRoots_go {F : Nat} {v : Unit} {Ln1 : Nat → Nat} {V1 : mV} : ∀ k' : Nat, (∀ (l1A : Nat) (_ : 256 ≤ l1A ∧ l1A < 1024) (l4I : Int32) (Ln : Nat → Nat) (V : mV), mX8_solveRoots_go F k' 0 Ln l1A l4I V = some (v, Ln1, V1) → mAe l1A V V1) := by
  intro k'
  induction k' with
  | zero => exact (fun _ _ _ _ _ h => by cases h)
  | succ k' ih =>
    intro l1A he l4I Ln V h
    rw [mX8_solveRoots_go, if_pos rfl] at h
    unfold mX8_solveRoots_b0 at h
    rcases mIf_some h with ⟨_, h⟩ | ⟨_, h⟩
    · obtain ⟨_, rfl, rfl⟩ := mRA3 h
      exact mAe.rf
    · obtain ⟨v2, _, h⟩ := mBN_some h
      obtain ⟨v7, L8, V8, h1, h⟩ := mBA_some h
      have y1 := NX9_add h1
      have a1 : mAe l1A V V8 := mAe.tr mAe.rf (mAe.of y1.1 (fun z => by unfold wX9_add at z; omega))
      obtain ⟨x12, _, h⟩ := mLt_some h
      have y := ih _ he _ _ _ h
      exact mAe.tr a1 y
set_option maxHeartbeats 4000000 in
theorem EX8_solveRoots {F : Nat} {Ln Ln1 : Nat → Nat} {V V1 : mV} {v : Unit} {l1A : Nat} (he : 256 ≤ l1A ∧ l1A < 1024) (h : mX8_solveRoots F Ln l1A V = some (v, Ln1, V1)) : mAe l1A V V1 := by
  have ih := EX8_solveRoots_go (F := F) (v := v) (Ln1 := Ln1) (V1 := V1) F
  unfold mX8_solveRoots mX8_solveRoots_s at h
  obtain ⟨v13, V14, h2, h⟩ := mBW_some h
  have a2 : mAe l1A V V14 := mAe.tr mAe.rf (mAe.of (NX8_buildChain h2) (fun z => by unfold wX8_buildChain at z; omega))
  obtain ⟨v18, _, h⟩ := mBN_some h
  rcases mIf_some h with ⟨_, h⟩ | ⟨_, h⟩
  · obtain ⟨v24, V25, h3, h⟩ := mBW_some h
    have a3 : mAe l1A V V25 := mAe.tr a2 (mAe.tell h3)
    have y := ih _ he _ _ _ h
    exact mAe.tr a3 y
  · obtain ⟨v29, V30, h4, h⟩ := mBW_some h
    have a4 : mAe l1A V V30 := mAe.tr a2 (mAe.tell h4)
    obtain ⟨v34, L35, V35, h5, h⟩ := mBA_some h
    have y5 := NX8_writeParts h5
    have a5 : mAe l1A V V35 := mAe.tr a4 (mAe.of y5.1 (fun z => by unfold wX8_writeParts at z; omega))
    obtain ⟨_, rfl, rfl⟩ := mRA3 h
    exact a5
set_option maxHeartbeats 4000000 in
theorem EX10_solvePermutations {F : Nat} {Ln Ln1 : Nat → Nat} {V V1 : mV} {v : Unit} {l1A : Nat} (he : 256 ≤ l1A ∧ l1A < 1024) (h : mX10_solvePermutations F Ln l1A V = some (v, Ln1, V1)) : mAe l1A V V1 := by
  unfold mX10_solvePermutations at h
  obtain ⟨v1, V2, h1, h⟩ := mBW_some h
  have a1 : mAe l1A V V2 := mAe.tr mAe.rf (mAe.of (NX10_reachAll h1) (fun z => by unfold wX10_reachAll at z; omega))
  obtain ⟨v6, _, h⟩ := mBN_some h
  obtain ⟨c2, h⟩ := mGd_some h
  rcases mIf_some h with ⟨_, h⟩ | ⟨_, h⟩
  · obtain ⟨v13, V14, h3, h⟩ := mBW_some h
    have a3 : mAe l1A V V14 := mAe.tr a1 (mAe.tell h3)
    obtain ⟨v18, L19, V19, h4, h⟩ := mBA_some h
    have y4 := NX10_writeRows h4
    have a4 : mAe l1A V V19 := mAe.tr a3 (mAe.of y4.1 (fun z => by unfold wX10_writeRows at z; omega))
    obtain ⟨_, rfl, rfl⟩ := mRA3 h
    exact a4
  · obtain ⟨v23, V24, h5, h⟩ := mBW_some h
    have a5 : mAe l1A V V24 := mAe.tr a1 (mAe.tell h5)
    obtain ⟨v28, L29, V29, h6, h⟩ := mBA_some h
    have y6 := NX10_writeItems h6
    have a6 : mAe l1A V V29 := mAe.tr a5 (mAe.of y6.1 (fun z => by unfold wX10_writeItems at z; omega))
    obtain ⟨_, rfl, rfl⟩ := mRA3 h
    exact a6
set_option maxHeartbeats 4000000 in
theorem EX10_solveWords_go {F : Nat} {v : Unit} {Ln1 : Nat → Nat} {V1 : mV} : ∀ k' : Nat, (∀ (l1A : Nat) (_ : 256 ≤ l1A ∧ l1A < 1024) (l2I : Int32) (l3I : Int32) (l4I : Int32) (s0I : Int32) (Ln : Nat → Nat) (V : mV), mX10_solveWords_go F k' 0 Ln l1A l2I l3I l4I 0 s0I V = some (v, Ln1, V1) → mAe l1A V V1) ∧ (∀ (l1A : Nat) (_ : 256 ≤ l1A ∧ l1A < 1024) (l4I : Int32) (l7I : Int32) (Ln : Nat → Nat) (V : mV), mX10_solveWords_go F k' 1 Ln l1A 0 0 l4I l7I 0 V = some (v, Ln1, V1) → mAe l1A V V1) := by
  intro k'
  induction k' with
  | zero => exact ⟨(fun _ _ _ _ _ _ _ _ h => by cases h), (fun _ _ _ _ _ _ h => by cases h)⟩
  | succ k' ih =>
    refine ⟨?_, ?_⟩
    · intro l1A he l2I l3I l4I s0I Ln V h
      rw [mX10_solveWords_go, if_pos rfl] at h
      unfold mX10_solveWords_b0 at h
      rcases mIf_some h with ⟨_, h⟩ | ⟨_, h⟩
      · obtain ⟨v2, V3, h1, h⟩ := mBW_some h
        have a1 : mAe l1A V V3 := mAe.tr mAe.rf (mAe.tell h1)
        rcases mIf_some h with ⟨_, h⟩ | ⟨_, h⟩
        · obtain ⟨_, rfl, rfl⟩ := mRA3 h
          exact a1
        · have y := ih.2 _ he _ _ _ _ h
          exact mAe.tr a1 y
      · rcases mIf_some h with ⟨_, h⟩ | ⟨_, h⟩
        · obtain ⟨v9, V10, h2, h⟩ := mBW_some h
          have a2 : mAe l1A V V10 := mAe.tr mAe.rf (mAe.tell h2)
          rcases mIf_some h with ⟨_, h⟩ | ⟨_, h⟩
          · obtain ⟨_, rfl, rfl⟩ := mRA3 h
            exact a2
          · have y := ih.2 _ he _ _ _ _ h
            exact mAe.tr a2 y
        · obtain ⟨c3, h⟩ := mGd_some h
          rcases mIf_some h with ⟨_, h⟩ | ⟨_, h⟩
          · obtain ⟨v17, V18, h4, h⟩ := mBW_some h
            have a4 : mAe l1A V V18 := mAe.tr mAe.rf (mAe.tell h4)
            rcases mIf_some h with ⟨_, h⟩ | ⟨_, h⟩
            · obtain ⟨_, rfl, rfl⟩ := mRA3 h
              exact a4
            · have y := ih.2 _ he _ _ _ _ h
              exact mAe.tr a4 y
          · obtain ⟨v23, V24, h5, h⟩ := mBW_some h
            have a5 : mAe l1A V V24 := mAe.tr mAe.rf (mAe.tell h5)
            obtain ⟨v28, V29, h6, h⟩ := mBW_some h
            have a6 : mAe l1A V V29 := mAe.tr a5 (mAe.of (NX10_stepFrom h6) (fun z => by unfold wX10_stepFrom at z; omega))
            obtain ⟨v33, L34, V34, h7, h⟩ := mBA_some h
            have y7 := NX10_writeSteps h7
            have a7 : mAe l1A V V34 := mAe.tr a6 (mAe.of y7.1 (fun z => by unfold wX10_writeSteps at z; omega))
            obtain ⟨_, rfl, rfl⟩ := mRA3 h
            exact a7
    · intro l1A he l4I l7I Ln V h
      rw [mX10_solveWords_go, if_neg (by decide), if_pos rfl] at h
      unfold mX10_solveWords_b1 at h
      rcases mIf_some h with ⟨_, h⟩ | ⟨_, h⟩
      · obtain ⟨_, rfl, rfl⟩ := mRA3 h
        exact mAe.rf
      · obtain ⟨c8, h⟩ := mGd_some h
        rcases mIf_some h with ⟨_, h⟩ | ⟨_, h⟩
        · obtain ⟨x41, _, h⟩ := mLt_some h
          have y := ih.2 _ he _ _ _ _ h
          exact mAe.tr mAe.rf y
        · obtain ⟨v42, L43, V43, h9, h⟩ := mBA_some h
          have y9 := NX9_add h9
          have a9 : mAe l1A V V43 := mAe.tr mAe.rf (mAe.of y9.1 (fun z => by unfold wX9_add at z; omega))
          obtain ⟨x47, _, h⟩ := mLt_some h
          have y := ih.2 _ he _ _ _ _ h
          exact mAe.tr a9 y
set_option maxHeartbeats 4000000 in
theorem EX10_solveWords {F : Nat} {Ln Ln1 : Nat → Nat} {V V1 : mV} {v : Unit} {l1A : Nat} (he : 256 ≤ l1A ∧ l1A < 1024) (h : mX10_solveWords F Ln l1A V = some (v, Ln1, V1)) : mAe l1A V V1 := by
  have ih := EX10_solveWords_go (F := F) (v := v) (Ln1 := Ln1) (V1 := V1) F
  unfold mX10_solveWords mX10_solveWords_s at h
  obtain ⟨v48, _, h⟩ := mBN_some h
  obtain ⟨v53, _, h⟩ := mBN_some h
  obtain ⟨v58, _, h⟩ := mBN_some h
  rcases mIf_some h with ⟨_, h⟩ | ⟨_, h⟩
  · have y := ih.1 _ he _ _ _ _ _ _ h
    exact mAe.tr mAe.rf y
  · obtain ⟨v64, V65, h10, h⟩ := mBW_some h
    have a10 : mAe l1A V V65 := mAe.tr mAe.rf (mAe.of (NX10_stepFrom h10) (fun z => by unfold wX10_stepFrom at z; omega))
    have y := ih.1 _ he _ _ _ _ _ _ h
    exact mAe.tr a10 y
set_option maxHeartbeats 4000000 in
theorem EX6_solveMachines_go {F : Nat} {v : Unit} {Ln1 : Nat → Nat} {V1 : mV} : ∀ k' : Nat, (∀ (l1A : Nat) (_ : 256 ≤ l1A ∧ l1A < 1024) (l2I : Int32) (l3I : Int32) (l4I : Int32) (Ln : Nat → Nat) (V : mV), mX6_solveMachines_go F k' 0 Ln l1A l2I l3I l4I 0 V = some (v, Ln1, V1) → mAe l1A V V1) ∧ (∀ (l1A : Nat) (_ : 256 ≤ l1A ∧ l1A < 1024) (l5I : Int32) (Ln : Nat → Nat) (V : mV), mX6_solveMachines_go F k' 1 Ln l1A 0 0 0 l5I V = some (v, Ln1, V1) → mAe l1A V V1) := by
  intro k'
  induction k' with
  | zero => exact ⟨(fun _ _ _ _ _ _ _ h => by cases h), (fun _ _ _ _ _ h => by cases h)⟩
  | succ k' ih =>
    refine ⟨?_, ?_⟩
    · intro l1A he l2I l3I l4I Ln V h
      rw [mX6_solveMachines_go, if_pos rfl] at h
      unfold mX6_solveMachines_b0 at h
      rcases mIf_some h with ⟨_, h⟩ | ⟨_, h⟩
      · obtain ⟨v2, _, h⟩ := mBN_some h
        rcases mIf_some h with ⟨_, h⟩ | ⟨_, h⟩
        · obtain ⟨v8, V9, h1, h⟩ := mBW_some h
          have a1 : mAe l1A V V9 := mAe.tr mAe.rf (mAe.tell h1)
          obtain ⟨v13, L14, V14, h2, h⟩ := mBA_some h
          have y2 := NX6_writeLetters h2
          have a2 : mAe l1A V V14 := mAe.tr a1 (mAe.of y2.1 (fun z => by unfold wX6_writeLetters at z; omega))
          obtain ⟨_, rfl, rfl⟩ := mRA3 h
          exact a2
        · obtain ⟨v18, V19, h3, h⟩ := mBW_some h
          have a3 : mAe l1A V V19 := mAe.tr mAe.rf (mAe.tell h3)
          have y := ih.2 _ he _ _ _ h
          exact mAe.tr a3 y
      · obtain ⟨v23, _, h⟩ := mBN_some h
        rcases mIf_some h with ⟨_, h⟩ | ⟨_, h⟩
        · obtain ⟨x30, _, h⟩ := mLt_some h
          obtain ⟨x31, _, h⟩ := mLt_some h
          have y := ih.1 _ he _ _ _ _ _ h
          exact mAe.tr mAe.rf y
        · obtain ⟨x29, _, h⟩ := mLt_some h
          have y := ih.1 _ he _ _ _ _ _ h
          exact mAe.tr mAe.rf y
    · intro l1A he l5I Ln V h
      rw [mX6_solveMachines_go, if_neg (by decide), if_pos rfl] at h
      unfold mX6_solveMachines_b1 at h
      rcases mIf_some h with ⟨_, h⟩ | ⟨_, h⟩
      · obtain ⟨_, rfl, rfl⟩ := mRA3 h
        exact mAe.rf
      · obtain ⟨v33, _, h⟩ := mBN_some h
        obtain ⟨v38, L39, V39, h4, h⟩ := mBA_some h
        have y4 := NX9_add h4
        have a4 : mAe l1A V V39 := mAe.tr mAe.rf (mAe.of y4.1 (fun z => by unfold wX9_add at z; omega))
        obtain ⟨x43, _, h⟩ := mLt_some h
        have y := ih.2 _ he _ _ _ h
        exact mAe.tr a4 y
set_option maxHeartbeats 4000000 in
theorem EX6_solveMachines {F : Nat} {Ln Ln1 : Nat → Nat} {V V1 : mV} {v : Unit} {l1A : Nat} (he : 256 ≤ l1A ∧ l1A < 1024) (h : mX6_solveMachines F Ln l1A V = some (v, Ln1, V1)) : mAe l1A V V1 := by
  have ih := EX6_solveMachines_go (F := F) (v := v) (Ln1 := Ln1) (V1 := V1) F
  unfold mX6_solveMachines mX6_solveMachines_s at h
  obtain ⟨v44, V45, h5, h⟩ := mBW_some h
  have a5 : mAe l1A V V45 := mAe.tr mAe.rf (mAe.of (NX6_findLetters h5) (fun z => by unfold wX6_findLetters at z; omega))
  obtain ⟨v49, _, h⟩ := mBN_some h
  have y := ih.1 _ he _ _ _ _ _ h
  exact mAe.tr a5 y
set_option maxHeartbeats 4000000 in
theorem EX6_solveGames_go {F : Nat} {v : Unit} {Ln1 : Nat → Nat} {V1 : mV} : ∀ k' : Nat, (∀ (l1A : Nat) (_ : 256 ≤ l1A ∧ l1A < 1024) (l4I : Int32) (l5I : Int32) (l6I : Int32) (Ln : Nat → Nat) (V : mV), mX6_solveGames_go F k' 0 Ln l1A l4I l5I l6I V = some (v, Ln1, V1) → mAe l1A V V1) := by
  intro k'
  induction k' with
  | zero => exact (fun _ _ _ _ _ _ _ h => by cases h)
  | succ k' ih =>
    intro l1A he l4I l5I l6I Ln V h
    rw [mX6_solveGames_go, if_pos rfl] at h
    unfold mX6_solveGames_b0 at h
    rcases mIf_some h with ⟨_, h⟩ | ⟨_, h⟩
    · obtain ⟨_, rfl, rfl⟩ := mRA3 h
      exact mAe.rf
    · obtain ⟨c1, h⟩ := mGd_some h
      rcases mIf_some h with ⟨_, h⟩ | ⟨_, h⟩
      · obtain ⟨v10, V11, h2, h⟩ := mBW_some h
        have a2 : mAe l1A V V11 := mAe.tr mAe.rf (mAe.of (NX6_leastWay h2) (fun z => by unfold wX6_leastWay at z; omega))
        obtain ⟨v15, L16, V16, h3, h⟩ := mBA_some h
        have y3 := NX9_add h3
        have a3 : mAe l1A V V16 := mAe.tr a2 (mAe.of y3.1 (fun z => by unfold wX9_add at z; omega))
        obtain ⟨x20, _, h⟩ := mLt_some h
        have y := ih _ he _ _ _ _ _ h
        exact mAe.tr a3 y
      · obtain ⟨v4, L5, V5, h4, h⟩ := mBA_some h
        have y4 := NX9_add h4
        have a4 : mAe l1A V V5 := mAe.tr mAe.rf (mAe.of y4.1 (fun z => by unfold wX9_add at z; omega))
        obtain ⟨x9, _, h⟩ := mLt_some h
        have y := ih _ he _ _ _ _ _ h
        exact mAe.tr a4 y
set_option maxHeartbeats 4000000 in
theorem EX6_solveGames {F : Nat} {Ln Ln1 : Nat → Nat} {V V1 : mV} {v : Unit} {l1A : Nat} (he : 256 ≤ l1A ∧ l1A < 1024) (h : mX6_solveGames F Ln l1A V = some (v, Ln1, V1)) : mAe l1A V V1 := by
  have ih := EX6_solveGames_go (F := F) (v := v) (Ln1 := Ln1) (V1 := V1) F
  unfold mX6_solveGames mX6_solveGames_s at h
  obtain ⟨v21, V22, h5, h⟩ := mBW_some h
  have a5 : mAe l1A V V22 := mAe.tr mAe.rf (mAe.of (NX6_loadNodes h5) (fun z => by unfold wX6_loadNodes at z; omega))
  obtain ⟨x26, _, h⟩ := mLt_some h
  obtain ⟨v27, _, h⟩ := mBN_some h
  obtain ⟨v32, _, h⟩ := mBN_some h
  obtain ⟨v37, _, h⟩ := mBN_some h
  rcases mIf_some h with ⟨_, h⟩ | ⟨_, h⟩
  · obtain ⟨v43, _, h⟩ := mBN_some h
    obtain ⟨v48, V49, h6, h⟩ := mBW_some h
    have a6 : mAe l1A V V49 := mAe.tr a5 (mAe.tell h6)
    have y := ih _ he _ _ _ _ _ h
    exact mAe.tr a6 y
  · obtain ⟨v53, _, h⟩ := mBN_some h
    obtain ⟨v58, V59, h7, h⟩ := mBW_some h
    have a7 : mAe l1A V V59 := mAe.tr a5 (mAe.tell h7)
    have y := ih _ he _ _ _ _ _ h
    exact mAe.tr a7 y
end
