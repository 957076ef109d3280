/-! WHAT EACH METHOD LEAVES ALONE: X2_solve, X4_carriesOver, X6_solveGames, X7_solveFlows, X8_solveEquations, X8_solvePrimes, X8_buildChain, X8_judgeParts, X8_judgeSigns, X10_solvePermutations, X10_solveWords, X11_wouldBeCarriedSo. -/
section
def wX2_solve (l1A : Nat) (i : Nat) : Prop := i = 3 ∨ (27 ≤ i ∧ i ≤ 33) ∨ i = 3000 ∨ i = l1A ∨ i = l1A + 2 ∨ i = l1A + 3
def wX2_solve_0 (l1A : Nat) (i : Nat) : Prop := i = 3000 ∨ i = l1A ∨ i = l1A + 2 ∨ i = l1A + 3
set_option maxHeartbeats 4000000 in
theorem NX2_solve_go {F : Nat} {v : Unit} {Ln1 : Nat → Nat} {V1 : mV} : ∀ k' : Nat, (∀ (l1A : Nat) (l3I : Int32) (Ln : Nat → Nat) (V : mV), mX2_solve_go F k' 0 Ln l1A l3I V = some (v, Ln1, V1) → mAv (wX2_solve_0 l1A) V V1 ∧ mAl (wX2_solve_0 l1A) Ln Ln1) := by
  intro k'
  induction k' with
  | zero => exact (fun _ _ _ _ h => by cases h)
  | succ k' ih =>
    intro l1A l3I Ln V h
    rw [mX2_solve_go, if_pos rfl] at h
    unfold mX2_solve_b0 at h
    rcases mIf_some h with ⟨_, h⟩ | ⟨_, h⟩
    · obtain ⟨v2, _, h⟩ := mBN_some h
      obtain ⟨v7, V8, h1, h⟩ := mBW_some h
      have a1 : mAv (wX2_solve_0 l1A) V V8 := mAv.tr mAv.rf (NX3_tell h1) (fun i z => by unfold wX3_tell at z; unfold wX2_solve_0; omega)
      obtain ⟨_, rfl, rfl⟩ := mRA3 h
      exact ⟨a1, mAl.rf⟩
    · obtain ⟨c2, h⟩ := mGd_some h
      obtain ⟨v13, L14, V14, h3, h⟩ := mBA_some h
      have y3 := NX9_add h3
      have a3 : mAv (wX2_solve_0 l1A) V V14 := mAv.tr mAv.rf y3.1 (fun i z => by unfold wX9_add at z; unfold wX2_solve_0; omega)
      have b3 : mAl (wX2_solve_0 l1A) Ln L14 := mAl.tr mAl.rf y3.2 (fun i z => by unfold wX9_add at z; unfold wX2_solve_0; omega)
      obtain ⟨x18, _, h⟩ := mLt_some h
      have y := ih _ _ _ _ h
      exact ⟨mAv.tr a3 y.1 (fun i z => by unfold wX2_solve_0 at z; unfold wX2_solve_0; omega), mAl.tr b3 y.2 (fun i z => by unfold wX2_solve_0 at z; unfold wX2_solve_0; omega)⟩
set_option maxHeartbeats 4000000 in
theorem NX2_solve {F : Nat} {Ln Ln1 : Nat → Nat} {V V1 : mV} {v : Unit} {l1A : Nat} (h : mX2_solve F Ln l1A V = some (v, Ln1, V1)) : mAv (wX2_solve l1A) V V1 ∧ mAl (wX2_solve l1A) Ln Ln1 := by
  have ih := NX2_solve_go (F := F) (v := v) (Ln1 := Ln1) (V1 := V1) F
  unfold mX2_solve mX2_solve_s at h
  obtain ⟨v19, _, h⟩ := mBN_some h
  obtain ⟨v24, V25, h4, h⟩ := mBW_some h
  have a4 : mAv (wX2_solve l1A) V V25 := mAv.tr mAv.rf (NX2_loadEdges h4) (fun i z => by unfold wX2_loadEdges at z; unfold wX2_solve; omega)
  obtain ⟨v29, V30, h5, h⟩ := mBW_some h
  have a5 : mAv (wX2_solve l1A) V V30 := mAv.tr a4 (NX2_fillsFrom h5) (fun i z => by unfold wX2_fillsFrom at z; unfold wX2_solve; omega)
  rcases mIf_some h with ⟨_, h⟩ | ⟨_, h⟩
  · obtain ⟨v35, L36, V36, h6, h⟩ := mBA_some h
    have y6 := NX2_writeCore h6
    have a6 : mAv (wX2_solve l1A) V V36 := mAv.tr a5 y6.1 (fun i z => by unfold wX2_writeCore at z; unfold wX2_solve; omega)
    have b6 : mAl (wX2_solve l1A) Ln L36 := mAl.tr mAl.rf y6.2 (fun i z => by unfold wX2_writeCore at z; unfold wX2_solve; omega)
    obtain ⟨v40, V41, h7, h⟩ := mBW_some h
    have a7 : mAv (wX2_solve l1A) V V41 := mAv.tr a6 (NX3_tell h7) (fun i z => by unfold wX3_tell at z; unfold wX2_solve; omega)
    obtain ⟨_, rfl, rfl⟩ := mRA3 h
    exact ⟨a7, b6⟩
  · have y := ih _ _ _ _ h
    exact ⟨mAv.tr a5 y.1 (fun i z => by unfold wX2_solve_0 at z; unfold wX2_solve; omega), mAl.tr mAl.rf y.2 (fun i z => by unfold wX2_solve_0 at z; unfold wX2_solve; omega)⟩
def wX4_carriesOver (l1A : Nat) (l3A : Nat) (i : Nat) : Prop := i = 18 ∨ i = l3A ∨ i = l3A + 1
def wX4_carriesOver_0 (l1A : Nat) (l3A : Nat) (i : Nat) : Prop := i = l3A ∨ i = l3A + 1
set_option maxHeartbeats 4000000 in
theorem NX4_carriesOver_go {F : Nat} {v : Int32} {V1 : mV} : ∀ k' : Nat, (∀ (l1A : Nat) (l2I : Int32) (l3A : Nat) (V : mV), mX4_carriesOver_go F k' 0 l1A l2I l3A V = some (v, V1) → mAv (wX4_carriesOver_0 l1A l3A) V V1) := by
  intro k'
  induction k' with
  | zero => exact (fun _ _ _ _ h => by cases h)
  | succ k' ih =>
    intro l1A l2I l3A V h
    rw [mX4_carriesOver_go, if_pos rfl] at h
    unfold mX4_carriesOver_b0 at h
    rcases mIf_some h with ⟨_, h⟩ | ⟨_, h⟩
    · rcases mIf_some h with ⟨_, h⟩ | ⟨_, h⟩
      · obtain ⟨v19, V20, h1, h⟩ := mBW_some h
        have a1 : mAv (wX4_carriesOver_0 l1A l3A) V V20 := mAv.tr mAv.rf (NX4_carriesFlows h1) (fun i z => by unfold wX4_carriesFlows at z; unfold wX4_carriesOver_0; omega)
        obtain ⟨c2, h⟩ := mGd_some h
        obtain ⟨_, rfl⟩ := mRW h
        exact a1
      · rcases mIf_some h with ⟨_, h⟩ | ⟨_, h⟩
        · rcases mIf_some h with ⟨_, h⟩ | ⟨_, h⟩
          · obtain ⟨v13, V14, h3, h⟩ := mBW_some h
            have a3 : mAv (wX4_carriesOver_0 l1A l3A) V V14 := mAv.tr mAv.rf (NX4_carriesEdges h3) (fun i z => by unfold wX4_carriesEdges at z; unfold wX4_carriesOver_0; omega)
            obtain ⟨c4, h⟩ := mGd_some h
            obtain ⟨_, rfl⟩ := mRW h
            exact a3
          · obtain ⟨_, rfl⟩ := mRW h
            exact mAv.rf
        · obtain ⟨_, rfl⟩ := mRW h
          exact mAv.rf
    · rcases mIf_some h with ⟨_, h⟩ | ⟨_, h⟩
      · rcases mIf_some h with ⟨_, h⟩ | ⟨_, h⟩
        · obtain ⟨v4, V5, h5, h⟩ := mBW_some h
          have a5 : mAv (wX4_carriesOver_0 l1A l3A) V V5 := mAv.tr mAv.rf (NX4_carriesEdges h5) (fun i z => by unfold wX4_carriesEdges at z; unfold wX4_carriesOver_0; omega)
          obtain ⟨c6, h⟩ := mGd_some h
          obtain ⟨_, rfl⟩ := mRW h
          exact a5
        · obtain ⟨_, rfl⟩ := mRW h
          exact mAv.rf
      · obtain ⟨_, rfl⟩ := mRW h
        exact mAv.rf
set_option maxHeartbeats 4000000 in
theorem NX4_carriesOver {F : Nat} {V V1 : mV} {v : Int32} {l1A : Nat} {l2I : Int32} {l3A : Nat} (h : mX4_carriesOver F l1A l2I l3A V = some (v, V1)) : mAv (wX4_carriesOver l1A l3A) V V1 := by
  have ih := NX4_carriesOver_go (F := F) (v := v) (V1 := V1) F
  unfold mX4_carriesOver mX4_carriesOver_s at h
  rcases mIf_some h with ⟨_, h⟩ | ⟨_, h⟩
  · rcases mIf_some h with ⟨_, h⟩ | ⟨_, h⟩
    · obtain ⟨v27, V28, h7, h⟩ := mBW_some h
      have a7 : mAv (wX4_carriesOver l1A l3A) V V28 := mAv.tr mAv.rf (NX4_carriesPairings h7) (fun i z => by unfold wX4_carriesPairings at z; unfold wX4_carriesOver; omega)
      obtain ⟨c8, h⟩ := mGd_some h
      obtain ⟨_, rfl⟩ := mRW h
      exact a7
    · exact mAv.tr mAv.rf (ih _ _ _ _ h) (fun i z => by unfold wX4_carriesOver_0 at z; unfold wX4_carriesOver; omega)
  · exact mAv.tr mAv.rf (ih _ _ _ _ h) (fun i z => by unfold wX4_carriesOver_0 at z; unfold wX4_carriesOver; omega)
def wX6_solveGames (l1A : Nat) (i : Nat) : Prop := i = 8 ∨ (88 ≤ i ∧ i ≤ 90) ∨ i = 3000 ∨ i = l1A ∨ i = l1A + 2 ∨ i = l1A + 3
def wX6_solveGames_0 (l1A : Nat) (i : Nat) : Prop := i = 90 ∨ i = 3000 ∨ i = l1A + 2 ∨ i = l1A + 3
set_option maxHeartbeats 4000000 in
theorem NX6_solveGames_go {F : Nat} {v : Unit} {Ln1 : Nat → Nat} {V1 : mV} : ∀ k' : Nat, (∀ (l1A : Nat) (l4I : Int32) (l5I : Int32) (l6I : Int32) (Ln : Nat → Nat) (V : mV), mX6_solveGames_go F k' 0 Ln l1A l4I l5I l6I V = some (v, Ln1, V1) → mAv (wX6_solveGames_0 l1A) V V1 ∧ mAl (wX6_solveGames_0 l1A) Ln Ln1) := by
  intro k'
  induction k' with
  | zero => exact (fun _ _ _ _ _ _ h => by cases h)
  | succ k' ih =>
    intro l1A l4I l5I l6I Ln V h
    rw [mX6_solveGames_go, if_pos rfl] at h
    unfold mX6_solveGames_b0 at h
    rcases mIf_some h with ⟨_, h⟩ | ⟨_, h⟩
    · obtain ⟨_, rfl, rfl⟩ := mRA3 h
      exact ⟨mAv.rf, mAl.rf⟩
    · obtain ⟨c1, h⟩ := mGd_some h
      rcases mIf_some h with ⟨_, h⟩ | ⟨_, h⟩
      · obtain ⟨v10, V11, h2, h⟩ := mBW_some h
        have a2 : mAv (wX6_solveGames_0 l1A) V V11 := mAv.tr mAv.rf (NX6_leastWay h2) (fun i z => by unfold wX6_leastWay at z; unfold wX6_solveGames_0; omega)
        obtain ⟨v15, L16, V16, h3, h⟩ := mBA_some h
        have y3 := NX9_add h3
        have a3 : mAv (wX6_solveGames_0 l1A) V V16 := mAv.tr a2 y3.1 (fun i z => by unfold wX9_add at z; unfold wX6_solveGames_0; omega)
        have b3 : mAl (wX6_solveGames_0 l1A) Ln L16 := mAl.tr mAl.rf y3.2 (fun i z => by unfold wX9_add at z; unfold wX6_solveGames_0; omega)
        obtain ⟨x20, _, h⟩ := mLt_some h
        have y := ih _ _ _ _ _ _ h
        exact ⟨mAv.tr a3 y.1 (fun i z => by unfold wX6_solveGames_0 at z; unfold wX6_solveGames_0; omega), mAl.tr b3 y.2 (fun i z => by unfold wX6_solveGames_0 at z; unfold wX6_solveGames_0; omega)⟩
      · obtain ⟨v4, L5, V5, h4, h⟩ := mBA_some h
        have y4 := NX9_add h4
        have a4 : mAv (wX6_solveGames_0 l1A) V V5 := mAv.tr mAv.rf y4.1 (fun i z => by unfold wX9_add at z; unfold wX6_solveGames_0; omega)
        have b4 : mAl (wX6_solveGames_0 l1A) Ln L5 := mAl.tr mAl.rf y4.2 (fun i z => by unfold wX9_add at z; unfold wX6_solveGames_0; omega)
        obtain ⟨x9, _, h⟩ := mLt_some h
        have y := ih _ _ _ _ _ _ h
        exact ⟨mAv.tr a4 y.1 (fun i z => by unfold wX6_solveGames_0 at z; unfold wX6_solveGames_0; omega), mAl.tr b4 y.2 (fun i z => by unfold wX6_solveGames_0 at z; unfold wX6_solveGames_0; omega)⟩
set_option maxHeartbeats 4000000 in
theorem NX6_solveGames {F : Nat} {Ln Ln1 : Nat → Nat} {V V1 : mV} {v : Unit} {l1A : Nat} (h : mX6_solveGames F Ln l1A V = some (v, Ln1, V1)) : mAv (wX6_solveGames l1A) V V1 ∧ mAl (wX6_solveGames l1A) Ln Ln1 := by
  have ih := NX6_solveGames_go (F := F) (v := v) (Ln1 := Ln1) (V1 := V1) F
  unfold mX6_solveGames mX6_solveGames_s at h
  obtain ⟨v21, V22, h5, h⟩ := mBW_some h
  have a5 : mAv (wX6_solveGames l1A) V V22 := mAv.tr mAv.rf (NX6_loadNodes h5) (fun i z => by unfold wX6_loadNodes at z; unfold wX6_solveGames; omega)
  obtain ⟨x26, _, h⟩ := mLt_some h
  obtain ⟨v27, _, h⟩ := mBN_some h
  obtain ⟨v32, _, h⟩ := mBN_some h
  obtain ⟨v37, _, h⟩ := mBN_some h
  rcases mIf_some h with ⟨_, h⟩ | ⟨_, h⟩
  · obtain ⟨v43, _, h⟩ := mBN_some h
    obtain ⟨v48, V49, h6, h⟩ := mBW_some h
    have a6 : mAv (wX6_solveGames l1A) V V49 := mAv.tr a5 (NX3_tell h6) (fun i z => by unfold wX3_tell at z; unfold wX6_solveGames; omega)
    have y := ih _ _ _ _ _ _ h
    exact ⟨mAv.tr a6 y.1 (fun i z => by unfold wX6_solveGames_0 at z; unfold wX6_solveGames; omega), mAl.tr mAl.rf y.2 (fun i z => by unfold wX6_solveGames_0 at z; unfold wX6_solveGames; omega)⟩
  · obtain ⟨v53, _, h⟩ := mBN_some h
    obtain ⟨v58, V59, h7, h⟩ := mBW_some h
    have a7 : mAv (wX6_solveGames l1A) V V59 := mAv.tr a5 (NX3_tell h7) (fun i z => by unfold wX3_tell at z; unfold wX6_solveGames; omega)
    have y := ih _ _ _ _ _ _ h
    exact ⟨mAv.tr a7 y.1 (fun i z => by unfold wX6_solveGames_0 at z; unfold wX6_solveGames; omega), mAl.tr mAl.rf y.2 (fun i z => by unfold wX6_solveGames_0 at z; unfold wX6_solveGames; omega)⟩
def wX7_solveFlows (l1A : Nat) (i : Nat) : Prop := i = 2 ∨ (21 ≤ i ∧ i ≤ 25) ∨ i = 3000 ∨ i = l1A ∨ i = l1A + 2 ∨ i = l1A + 3
def wX7_solveFlows_0 (l1A : Nat) (i : Nat) : Prop := i = 2 ∨ (24 ≤ i ∧ i ≤ 25) ∨ i = 3000 ∨ i = l1A + 2 ∨ i = l1A + 3
def wX7_solveFlows_1 (l1A : Nat) (i : Nat) : Prop := i = 3000 ∨ i = l1A + 2 ∨ i = l1A + 3
def wX7_solveFlows_2 (l1A : Nat) (i : Nat) : Prop := i = 3000 ∨ i = l1A + 2 ∨ i = l1A + 3
set_option maxHeartbeats 4000000 in
theorem NX7_solveFlows_go {F : Nat} {v : Unit} {Ln1 : Nat → Nat} {V1 : mV} : ∀ k' : Nat, (∀ (l1A : Nat) (l4I : Int32) (Ln : Nat → Nat) (V : mV), mX7_solveFlows_go F k' 0 Ln l1A l4I V = some (v, Ln1, V1) → mAv (wX7_solveFlows_0 l1A) V V1 ∧ mAl (wX7_solveFlows_0 l1A) Ln Ln1) ∧ (∀ (l1A : Nat) (l4I : Int32) (Ln : Nat → Nat) (V : mV), mX7_solveFlows_go F k' 1 Ln l1A l4I V = some (v, Ln1, V1) → mAv (wX7_solveFlows_1 l1A) V V1 ∧ mAl (wX7_solveFlows_1 l1A) Ln Ln1) ∧ (∀ (l1A : Nat) (l4I : Int32) (Ln : Nat → Nat) (V : mV), mX7_solveFlows_go F k' 2 Ln l1A l4I V = some (v, Ln1, V1) → mAv (wX7_solveFlows_2 l1A) V V1 ∧ mAl (wX7_solveFlows_2 l1A) Ln Ln1) := by
  intro k'
  induction k' with
  | zero => exact ⟨(fun _ _ _ _ h => by cases h), (fun _ _ _ _ h => by cases h), (fun _ _ _ _ h => by cases h)⟩
  | succ k' ih =>
    refine ⟨?_, ?_, ?_⟩
    · intro l1A l4I Ln V h
      rw [mX7_solveFlows_go, if_pos rfl] at h
      unfold mX7_solveFlows_b0 at h
      rcases mIf_some h with ⟨_, h⟩ | ⟨_, h⟩
      · obtain ⟨v2, V3, h1, h⟩ := mBW_some h
        have a1 : mAv (wX7_solveFlows_0 l1A) V V3 := mAv.tr mAv.rf (NX7_lowerAll h1) (fun i z => by unfold wX7_lowerAll at z; unfold wX7_solveFlows_0; omega)
        have y := ih.2.1 _ _ _ _ h
        exact ⟨mAv.tr a1 y.1 (fun i z => by unfold wX7_solveFlows_1 at z; unfold wX7_solveFlows_0; omega), mAl.tr mAl.rf y.2 (fun i z => by unfold wX7_solveFlows_1 at z; unfold wX7_solveFlows_0; omega)⟩
      · obtain ⟨v7, V8, h2, h⟩ := mBW_some h
        have a2 : mAv (wX7_solveFlows_0 l1A) V V8 := mAv.tr mAv.rf (NX7_leadsOn h2) (fun i z => by unfold wX7_leadsOn at z; unfold wX7_solveFlows_0; omega)
        obtain ⟨x12, _, h⟩ := mLt_some h
        have y := ih.1 _ _ _ _ h
        exact ⟨mAv.tr a2 y.1 (fun i z => by unfold wX7_solveFlows_0 at z; unfold wX7_solveFlows_0; omega), mAl.tr mAl.rf y.2 (fun i z => by unfold wX7_solveFlows_0 at z; unfold wX7_solveFlows_0; omega)⟩
    · intro l1A l4I Ln V h
      rw [mX7_solveFlows_go, if_neg (by decide), if_pos rfl] at h
      unfold mX7_solveFlows_b1 at h
      rcases mIf_some h with ⟨_, h⟩ | ⟨_, h⟩
      · obtain ⟨_, rfl, rfl⟩ := mRA3 h
        exact ⟨mAv.rf, mAl.rf⟩
      · obtain ⟨c3, h⟩ := mGd_some h
        obtain ⟨v15, L16, V16, h4, h⟩ := mBA_some h
        have y4 := NX9_add h4
        have a4 : mAv (wX7_solveFlows_1 l1A) V V16 := mAv.tr mAv.rf y4.1 (fun i z => by unfold wX9_add at z; unfold wX7_solveFlows_1; omega)
        have b4 : mAl (wX7_solveFlows_1 l1A) Ln L16 := mAl.tr mAl.rf y4.2 (fun i z => by unfold wX9_add at z; unfold wX7_solveFlows_1; omega)
        obtain ⟨x20, _, h⟩ := mLt_some h
        have y := ih.2.1 _ _ _ _ h
        exact ⟨mAv.tr a4 y.1 (fun i z => by unfold wX7_solveFlows_1 at z; unfold wX7_solveFlows_1; omega), mAl.tr b4 y.2 (fun i z => by unfold wX7_solveFlows_1 at z; unfold wX7_solveFlows_1; omega)⟩
    · intro l1A l4I Ln V h
      rw [mX7_solveFlows_go, if_neg (by decide), if_neg (by decide), if_pos rfl] at h
      unfold mX7_solveFlows_b2 at h
      rcases mIf_some h with ⟨_, h⟩ | ⟨_, h⟩
      · obtain ⟨_, rfl, rfl⟩ := mRA3 h
        exact ⟨mAv.rf, mAl.rf⟩
      · obtain ⟨v22, _, h⟩ := mBN_some h
        rcases mIf_some h with ⟨_, h⟩ | ⟨_, h⟩
        · obtain ⟨x28, _, h⟩ := mLt_some h
          have y := ih.2.2 _ _ _ _ h
          exact ⟨mAv.tr mAv.rf y.1 (fun i z => by unfold wX7_solveFlows_2 at z; unfold wX7_solveFlows_2; omega), mAl.tr mAl.rf y.2 (fun i z => by unfold wX7_solveFlows_2 at z; unfold wX7_solveFlows_2; omega)⟩
        · obtain ⟨v29, L30, V30, h5, h⟩ := mBA_some h
          have y5 := NX9_add h5
          have a5 : mAv (wX7_solveFlows_2 l1A) V V30 := mAv.tr mAv.rf y5.1 (fun i z => by unfold wX9_add at z; unfold wX7_solveFlows_2; omega)
          have b5 : mAl (wX7_solveFlows_2 l1A) Ln L30 := mAl.tr mAl.rf y5.2 (fun i z => by unfold wX9_add at z; unfold wX7_solveFlows_2; omega)
          obtain ⟨x34, _, h⟩ := mLt_some h
          have y := ih.2.2 _ _ _ _ h
          exact ⟨mAv.tr a5 y.1 (fun i z => by unfold wX7_solveFlows_2 at z; unfold wX7_solveFlows_2; omega), mAl.tr b5 y.2 (fun i z => by unfold wX7_solveFlows_2 at z; unfold wX7_solveFlows_2; omega)⟩
set_option maxHeartbeats 4000000 in
theorem NX7_solveFlows {F : Nat} {Ln Ln1 : Nat → Nat} {V V1 : mV} {v : Unit} {l1A : Nat} (h : mX7_solveFlows F Ln l1A V = some (v, Ln1, V1)) : mAv (wX7_solveFlows l1A) V V1 ∧ mAl (wX7_solveFlows l1A) Ln Ln1 := by
  have ih := NX7_solveFlows_go (F := F) (v := v) (Ln1 := Ln1) (V1 := V1) F
  unfold mX7_solveFlows mX7_solveFlows_s at h
  obtain ⟨v35, V36, h6, h⟩ := mBW_some h
  have a6 : mAv (wX7_solveFlows l1A) V V36 := mAv.tr mAv.rf (NX7_loadFlows h6) (fun i z => by unfold wX7_loadFlows at z; unfold wX7_solveFlows; omega)
  obtain ⟨v40, V41, h7, h⟩ := mBW_some h
  have a7 : mAv (wX7_solveFlows l1A) V V41 := mAv.tr a6 (NX7_greatest h7) (fun i z => by unfold wX7_greatest at z; unfold wX7_solveFlows; omega)
  rcases mIf_some h with ⟨_, h⟩ | ⟨_, h⟩
  · obtain ⟨v46, V47, h8, h⟩ := mBW_some h
    have a8 : mAv (wX7_solveFlows l1A) V V47 := mAv.tr a7 (NX3_tell h8) (fun i z => by unfold wX3_tell at z; unfold wX7_solveFlows; omega)
    have y := ih.2.2 _ _ _ _ h
    exact ⟨mAv.tr a8 y.1 (fun i z => by unfold wX7_solveFlows_2 at z; unfold wX7_solveFlows; omega), mAl.tr mAl.rf y.2 (fun i z => by unfold wX7_solveFlows_2 at z; unfold wX7_solveFlows; omega)⟩
  · obtain ⟨v51, V52, h9, h⟩ := mBW_some h
    have a9 : mAv (wX7_solveFlows l1A) V V52 := mAv.tr a7 (NX3_tell h9) (fun i z => by unfold wX3_tell at z; unfold wX7_solveFlows; omega)
    obtain ⟨v56, V57, h10, h⟩ := mBW_some h
    have a10 : mAv (wX7_solveFlows l1A) V V57 := mAv.tr a9 (NJ7_fill_53178 h10) (fun i z => by unfold wJ7_fill_53178 at z; unfold wX7_solveFlows; omega)
    have y := ih.1 _ _ _ _ h
    exact ⟨mAv.tr a10 y.1 (fun i z => by unfold wX7_solveFlows_0 at z; unfold wX7_solveFlows; omega), mAl.tr mAl.rf y.2 (fun i z => by unfold wX7_solveFlows_0 at z; unfold wX7_solveFlows; omega)⟩
def wX8_solveEquations (l1A : Nat) (i : Nat) : Prop := i = 6 ∨ i = 54 ∨ (56 ≤ i ∧ i ≤ 60) ∨ i = 3000 ∨ i = l1A ∨ i = l1A + 2 ∨ i = l1A + 3
def wX8_solveEquations_0 (l1A : Nat) (i : Nat) : Prop := i = 6 ∨ i = 54 ∨ (56 ≤ i ∧ i ≤ 60) ∨ i = 3000 ∨ i = l1A + 2 ∨ i = l1A + 3
def wX8_solveEquations_1 (l1A : Nat) (i : Nat) : Prop := i = 3000 ∨ i = l1A + 2 ∨ i = l1A + 3
set_option maxHeartbeats 4000000 in
theorem NX8_solveEquations_go {F : Nat} {v : Unit} {Ln1 : Nat → Nat} {V1 : mV} : ∀ k' : Nat, (∀ (l1A : Nat) (l2I : Int32) (Ln : Nat → Nat) (V : mV), mX8_solveEquations_go F k' 0 Ln l1A l2I V = some (v, Ln1, V1) → mAv (wX8_solveEquations_0 l1A) V V1 ∧ mAl (wX8_solveEquations_0 l1A) Ln Ln1) ∧ (∀ (l1A : Nat) (l2I : Int32) (Ln : Nat → Nat) (V : mV), mX8_solveEquations_go F k' 1 Ln l1A l2I V = some (v, Ln1, V1) → mAv (wX8_solveEquations_1 l1A) V V1 ∧ mAl (wX8_solveEquations_1 l1A) Ln Ln1) := by
  intro k'
  induction k' with
  | zero => exact ⟨(fun _ _ _ _ h => by cases h), (fun _ _ _ _ h => by cases h)⟩
  | succ k' ih =>
    refine ⟨?_, ?_⟩
    · intro l1A l2I Ln V h
      rw [mX8_solveEquations_go, if_pos rfl] at h
      unfold mX8_solveEquations_b0 at h
      rcases mIf_some h with ⟨_, h⟩ | ⟨_, h⟩
      · have y := ih.2 _ _ _ _ h
        exact ⟨mAv.tr mAv.rf y.1 (fun i z => by unfold wX8_solveEquations_1 at z; unfold wX8_solveEquations_0; omega), mAl.tr mAl.rf y.2 (fun i z => by unfold wX8_solveEquations_1 at z; unfold wX8_solveEquations_0; omega)⟩
      · obtain ⟨v2, V3, h1, h⟩ := mBW_some h
        have a1 : mAv (wX8_solveEquations_0 l1A) V V3 := mAv.tr mAv.rf (NX8_takeLeastAmount h1) (fun i z => by unfold wX8_takeLeastAmount at z; unfold wX8_solveEquations_0; omega)
        obtain ⟨x7, _, h⟩ := mLt_some h
        have y := ih.1 _ _ _ _ h
        exact ⟨mAv.tr a1 y.1 (fun i z => by unfold wX8_solveEquations_0 at z; unfold wX8_solveEquations_0; omega), mAl.tr mAl.rf y.2 (fun i z => by unfold wX8_solveEquations_0 at z; unfold wX8_solveEquations_0; omega)⟩
    · intro l1A l2I Ln V h
      rw [mX8_solveEquations_go, if_neg (by decide), if_pos rfl] at h
      unfold mX8_solveEquations_b1 at h
      rcases mIf_some h with ⟨_, h⟩ | ⟨_, h⟩
      · obtain ⟨_, rfl, rfl⟩ := mRA3 h
        exact ⟨mAv.rf, mAl.rf⟩
      · obtain ⟨c2, h⟩ := mGd_some h
        obtain ⟨v10, L11, V11, h3, h⟩ := mBA_some h
        have y3 := NX9_add h3
        have a3 : mAv (wX8_solveEquations_1 l1A) V V11 := mAv.tr mAv.rf y3.1 (fun i z => by unfold wX9_add at z; unfold wX8_solveEquations_1; omega)
        have b3 : mAl (wX8_solveEquations_1 l1A) Ln L11 := mAl.tr mAl.rf y3.2 (fun i z => by unfold wX9_add at z; unfold wX8_solveEquations_1; omega)
        obtain ⟨x15, _, h⟩ := mLt_some h
        have y := ih.2 _ _ _ _ h
        exact ⟨mAv.tr a3 y.1 (fun i z => by unfold wX8_solveEquations_1 at z; unfold wX8_solveEquations_1; omega), mAl.tr b3 y.2 (fun i z => by unfold wX8_solveEquations_1 at z; unfold wX8_solveEquations_1; omega)⟩
set_option maxHeartbeats 4000000 in
theorem NX8_solveEquations {F : Nat} {Ln Ln1 : Nat → Nat} {V V1 : mV} {v : Unit} {l1A : Nat} (h : mX8_solveEquations F Ln l1A V = some (v, Ln1, V1)) : mAv (wX8_solveEquations l1A) V V1 ∧ mAl (wX8_solveEquations l1A) Ln Ln1 := by
  have ih := NX8_solveEquations_go (F := F) (v := v) (Ln1 := Ln1) (V1 := V1) F
  unfold mX8_solveEquations mX8_solveEquations_s at h
  obtain ⟨v16, V17, h4, h⟩ := mBW_some h
  have a4 : mAv (wX8_solveEquations l1A) V V17 := mAv.tr mAv.rf (NX8_findPoint h4) (fun i z => by unfold wX8_findPoint at z; unfold wX8_solveEquations; omega)
  rcases mIf_some h with ⟨_, h⟩ | ⟨_, h⟩
  · obtain ⟨v22, L23, V23, h5, h⟩ := mBA_some h
    have y5 := NX8_writeModulus h5
    have a5 : mAv (wX8_solveEquations l1A) V V23 := mAv.tr a4 y5.1 (fun i z => by unfold wX8_writeModulus at z; unfold wX8_solveEquations; omega)
    have b5 : mAl (wX8_solveEquations l1A) Ln L23 := mAl.tr mAl.rf y5.2 (fun i z => by unfold wX8_writeModulus at z; unfold wX8_solveEquations; omega)
    obtain ⟨v27, _, h⟩ := mBN_some h
    obtain ⟨v32, V33, h6, h⟩ := mBW_some h
    have a6 : mAv (wX8_solveEquations l1A) V V33 := mAv.tr a5 (NX3_tell h6) (fun i z => by unfold wX3_tell at z; unfold wX8_solveEquations; omega)
    obtain ⟨_, rfl, rfl⟩ := mRA3 h
    exact ⟨a6, b5⟩
  · obtain ⟨v37, V38, h7, h⟩ := mBW_some h
    have a7 : mAv (wX8_solveEquations l1A) V V38 := mAv.tr a4 (NX3_tell h7) (fun i z => by unfold wX3_tell at z; unfold wX8_solveEquations; omega)
    have y := ih.1 _ _ _ _ h
    exact ⟨mAv.tr a7 y.1 (fun i z => by unfold wX8_solveEquations_0 at z; unfold wX8_solveEquations; omega), mAl.tr mAl.rf y.2 (fun i z => by unfold wX8_solveEquations_0 at z; unfold wX8_solveEquations; omega)⟩
def wX8_solvePrimes (l1A : Nat) (i : Nat) : Prop := i = 3000 ∨ i = l1A ∨ i = l1A + 2 ∨ i = l1A + 3
set_option maxHeartbeats 4000000 in
theorem NX8_solvePrimes {F : Nat} {Ln Ln1 : Nat → Nat} {V V1 : mV} {v : Unit} {l1A : Nat} (h : mX8_solvePrimes F Ln l1A V = some (v, Ln1, V1)) : mAv (wX8_solvePrimes l1A) V V1 ∧ mAl (wX8_solvePrimes l1A) Ln Ln1 := by
  unfold mX8_solvePrimes at h
  obtain ⟨x1, _, h⟩ := mLt_some h
  obtain ⟨v2, _, h⟩ := mBN_some h
  rcases mIf_some h with ⟨_, h⟩ | ⟨_, h⟩
  · obtain ⟨v30, V31, h1, h⟩ := mBW_some h
    have a1 : mAv (wX8_solvePrimes l1A) V V31 := mAv.tr mAv.rf (NX3_tell h1) (fun i z => by unfold wX3_tell at z; unfold wX8_solvePrimes; omega)
    rcases mIf_some h with ⟨_, h⟩ | ⟨_, h⟩
    · obtain ⟨v47, L48, V48, h2, h⟩ := mBA_some h
      have y2 := NX8_writePrime h2
      have a2 : mAv (wX8_solvePrimes l1A) V V48 := mAv.tr a1 y2.1 (fun i z => by unfold wX8_writePrime at z; unfold wX8_solvePrimes; omega)
      have b2 : mAl (wX8_solvePrimes l1A) Ln L48 := mAl.tr mAl.rf y2.2 (fun i z => by unfold wX8_writePrime at z; unfold wX8_solvePrimes; omega)
      obtain ⟨_, rfl, rfl⟩ := mRA3 h
      exact ⟨a2, b2⟩
    · obtain ⟨v36, L37, V37, h3, h⟩ := mBA_some h
      have y3 := NX9_add h3
      have a3 : mAv (wX8_solvePrimes l1A) V V37 := mAv.tr a1 y3.1 (fun i z => by unfold wX9_add at z; unfold wX8_solvePrimes; omega)
      have b3 : mAl (wX8_solvePrimes l1A) Ln L37 := mAl.tr mAl.rf y3.2 (fun i z => by unfold wX9_add at z; unfold wX8_solvePrimes; omega)
      obtain ⟨c4, h⟩ := mGd_some h
      obtain ⟨v42, L43, V43, h5, h⟩ := mBA_some h
      have y5 := NX9_add h5
      have a5 : mAv (wX8_solvePrimes l1A) V V43 := mAv.tr a3 y5.1 (fun i z => by unfold wX9_add at z; unfold wX8_solvePrimes; omega)
      have b5 : mAl (wX8_solvePrimes l1A) Ln L43 := mAl.tr b3 y5.2 (fun i z => by unfold wX9_add at z; unfold wX8_solvePrimes; omega)
      obtain ⟨_, rfl, rfl⟩ := mRA3 h
      exact ⟨a5, b5⟩
  · obtain ⟨v8, V9, h6, h⟩ := mBW_some h
    have a6 : mAv (wX8_solvePrimes l1A) V V9 := mAv.tr mAv.rf (NX3_tell h6) (fun i z => by unfold wX3_tell at z; unfold wX8_solvePrimes; omega)
    rcases mIf_some h with ⟨_, h⟩ | ⟨_, h⟩
    · obtain ⟨v25, L26, V26, h7, h⟩ := mBA_some h
      have y7 := NX8_writePrime h7
      have a7 : mAv (wX8_solvePrimes l1A) V V26 := mAv.tr a6 y7.1 (fun i z => by unfold wX8_writePrime at z; unfold wX8_solvePrimes; omega)
      have b7 : mAl (wX8_solvePrimes l1A) Ln L26 := mAl.tr mAl.rf y7.2 (fun i z => by unfold wX8_writePrime at z; unfold wX8_solvePrimes; omega)
      obtain ⟨_, rfl, rfl⟩ := mRA3 h
      exact ⟨a7, b7⟩
    · obtain ⟨v14, L15, V15, h8, h⟩ := mBA_some h
      have y8 := NX9_add h8
      have a8 : mAv (wX8_solvePrimes l1A) V V15 := mAv.tr a6 y8.1 (fun i z => by unfold wX9_add at z; unfold wX8_solvePrimes; omega)
      have b8 : mAl (wX8_solvePrimes l1A) Ln L15 := mAl.tr mAl.rf y8.2 (fun i z => by unfold wX9_add at z; unfold wX8_solvePrimes; omega)
      obtain ⟨c9, h⟩ := mGd_some h
      obtain ⟨v20, L21, V21, h10, h⟩ := mBA_some h
      have y10 := NX9_add h10
      have a10 : mAv (wX8_solvePrimes l1A) V V21 := mAv.tr a8 y10.1 (fun i z => by unfold wX9_add at z; unfold wX8_solvePrimes; omega)
      have b10 : mAl (wX8_solvePrimes l1A) Ln L21 := mAl.tr b8 y10.2 (fun i z => by unfold wX9_add at z; unfold wX8_solvePrimes; omega)
      obtain ⟨_, rfl, rfl⟩ := mRA3 h
      exact ⟨a10, b10⟩
def wX8_buildChain (l1A : Nat) (i : Nat) : Prop := i = 6 ∨ (62 ≤ i ∧ i ≤ 69)
def wX8_buildChain_0 (l1A : Nat) (i : Nat) : Prop := i = 6 ∨ (62 ≤ i ∧ i ≤ 69)
set_option maxHeartbeats 4000000 in
theorem NX8_buildChain_go {F : Nat} {v : Unit} {V1 : mV} : ∀ k' : Nat, (∀ (l1A : Nat) (l2I : Int32) (V : mV), mX8_buildChain_go F k' 0 l1A l2I V = some (v, V1) → mAv (wX8_buildChain_0 l1A) V V1) := by
  intro k'
  induction k' with
  | zero => exact (fun _ _ _ h => by cases h)
  | succ k' ih =>
    intro l1A l2I V h
    rw [mX8_buildChain_go, if_pos rfl] at h
    unfold mX8_buildChain_b0 at h
    rcases mIf_some h with ⟨_, h⟩ | ⟨_, h⟩
    · obtain ⟨c1, h⟩ := mGd_some h
      obtain ⟨v4, _, h⟩ := mBN_some h
      rcases mIf_some h with ⟨_, h⟩ | ⟨_, h⟩
      · obtain ⟨c2, h⟩ := mGd_some h
        obtain ⟨V11, eV11, h⟩ := mLt_some h
        have a3 : mAv (wX8_buildChain_0 l1A) V V11 := by rw [eV11]; exact mAv.I mAv.rf (by unfold wX8_buildChain_0; omega)
        obtain ⟨v12, V13, h4, h⟩ := mBW_some h
        have a4 : mAv (wX8_buildChain_0 l1A) V V13 := mAv.tr a3 (NX8_continueChain h4) (fun i z => by unfold wX8_continueChain at z; unfold wX8_buildChain_0; omega)
        obtain ⟨v17, V18, h5, h⟩ := mBW_some h
        have a5 : mAv (wX8_buildChain_0 l1A) V V18 := mAv.tr a4 (NX8_divideFirst h5) (fun i z => by unfold wX8_divideFirst at z; unfold wX8_buildChain_0; omega)
        obtain ⟨v22, V23, h6, h⟩ := mBW_some h
        have a6 : mAv (wX8_buildChain_0 l1A) V V23 := mAv.tr a5 (NX8_continueChain h6) (fun i z => by unfold wX8_continueChain at z; unfold wX8_buildChain_0; omega)
        obtain ⟨_, rfl⟩ := mRW h
        exact a6
      · obtain ⟨_, rfl⟩ := mRW h
        exact mAv.rf
    · obtain ⟨c7, h⟩ := mGd_some h
      obtain ⟨v29, _, h⟩ := mBN_some h
      obtain ⟨c8, h⟩ := mGd_some h
      obtain ⟨V35, eV35, h⟩ := mLt_some h
      have z9 := (Nat.lt_of_not_le (fun z => c7 (Or.inr z)))
      have a9 : mAv (wX8_buildChain_0 l1A) V V35 := by rw [eV35]; exact mAv.J mAv.rf (by unfold wX8_buildChain_0; omega)
      obtain ⟨x36, _, h⟩ := mLt_some h
      exact mAv.tr a9 (ih _ _ _ h) (fun i z => by unfold wX8_buildChain_0 at z; unfold wX8_buildChain_0; omega)
set_option maxHeartbeats 4000000 in
theorem NX8_buildChain {F : Nat} {V V1 : mV} {v : Unit} {l1A : Nat} (h : mX8_buildChain F l1A V = some (v, V1)) : mAv (wX8_buildChain l1A) V V1 := by
  have ih := NX8_buildChain_go (F := F) (v := v) (V1 := V1) F
  unfold mX8_buildChain mX8_buildChain_s at h
  obtain ⟨V37, eV37, h⟩ := mLt_some h
  have a10 : mAv (wX8_buildChain l1A) V V37 := by rw [eV37]; exact mAv.F mAv.rf (by unfold wX8_buildChain; omega)
  exact mAv.tr a10 (ih _ _ _ h) (fun i z => by unfold wX8_buildChain_0 at z; unfold wX8_buildChain; omega)
def wX8_judgeParts (l1A : Nat) (l2A : Nat) (i : Nat) : Prop := i = 6 ∨ (62 ≤ i ∧ i ≤ 69)
def wX8_judgeParts_0 (l2A : Nat) (i : Nat) : Prop := False
set_option maxHeartbeats 4000000 in
theorem NX8_judgeParts_go {F : Nat} {v : Int32} {V1 : mV} : ∀ k' : Nat, (∀ (l2A : Nat) (l3I : Int32) (Ln : Nat → Nat) (V : mV), mX8_judgeParts_go F k' 0 Ln l2A l3I V = some (v, V1) → mAv (wX8_judgeParts_0 l2A) V V1) := by
  intro k'
  induction k' with
  | zero => exact (fun _ _ _ _ h => by cases h)
  | succ k' ih =>
    intro l2A l3I Ln V h
    rw [mX8_judgeParts_go, if_pos rfl] at h
    unfold mX8_judgeParts_b0 at h
    rcases mIf_some h with ⟨_, h⟩ | ⟨_, h⟩
    · obtain ⟨_, rfl⟩ := mRW h
      exact mAv.rf
    · obtain ⟨v2, _, h⟩ := mBN_some h
      obtain ⟨v7, _, h⟩ := mBN_some h
      obtain ⟨v12, _, h⟩ := mBN_some h
      rcases mIf_some h with ⟨_, h⟩ | ⟨_, h⟩
      · obtain ⟨x18, _, h⟩ := mLt_some h
        exact mAv.tr mAv.rf (ih _ _ _ _ h) (fun i z => by unfold wX8_judgeParts_0 at z; unfold wX8_judgeParts_0; omega)
      · obtain ⟨_, rfl⟩ := mRW h
        exact mAv.rf
set_option maxHeartbeats 4000000 in
theorem NX8_judgeParts {F : Nat} {Ln : Nat → Nat} {V V1 : mV} {v : Int32} {l1A : Nat} {l2A : Nat} (h : mX8_judgeParts F Ln l1A l2A V = some (v, V1)) : mAv (wX8_judgeParts l1A l2A) V V1 := by
  have ih := NX8_judgeParts_go (F := F) (v := v) (V1 := V1) F
  unfold mX8_judgeParts mX8_judgeParts_s at h
  rcases mIf_some h with ⟨_, h⟩ | ⟨_, h⟩
  · obtain ⟨v20, _, h⟩ := mBN_some h
    rcases mIf_some h with ⟨_, h⟩ | ⟨_, h⟩
    · obtain ⟨_, rfl⟩ := mRW h
      exact mAv.rf
    · obtain ⟨v26, _, h⟩ := mBN_some h
      rcases mIf_some h with ⟨_, h⟩ | ⟨_, h⟩
      · obtain ⟨_, rfl⟩ := mRW h
        exact mAv.rf
      · rcases mIf_some h with ⟨_, h⟩ | ⟨_, h⟩
        · obtain ⟨v33, V34, h1, h⟩ := mBW_some h
          have a1 : mAv (wX8_judgeParts l1A l2A) V V34 := mAv.tr mAv.rf (NX8_buildChain h1) (fun i z => by unfold wX8_buildChain at z; unfold wX8_judgeParts; omega)
          exact mAv.tr a1 (ih _ _ _ _ h) (fun i z => by unfold wX8_judgeParts_0 at z; unfold wX8_judgeParts; omega)
        · obtain ⟨_, rfl⟩ := mRW h
          exact mAv.rf
  · obtain ⟨_, rfl⟩ := mRW h
    exact mAv.rf
def wX8_judgeSigns (l1A : Nat) (l2A : Nat) (i : Nat) : Prop := i = 6 ∨ (62 ≤ i ∧ i ≤ 69)
def wX8_judgeSigns_0 (l1A : Nat) (l2A : Nat) (i : Nat) : Prop := False
set_option maxHeartbeats 4000000 in
theorem NX8_judgeSigns_go {F : Nat} {v : Int32} {V1 : mV} : ∀ k' : Nat, (∀ (l1A : Nat) (l2A : Nat) (l3I : Int32) (Ln : Nat → Nat) (V : mV), mX8_judgeSigns_go F k' 0 Ln l1A l2A l3I V = some (v, V1) → mAv (wX8_judgeSigns_0 l1A l2A) V V1) := by
  intro k'
  induction k' with
  | zero => exact (fun _ _ _ _ _ h => by cases h)
  | succ k' ih =>
    intro l1A l2A l3I Ln V h
    rw [mX8_judgeSigns_go, if_pos rfl] at h
    unfold mX8_judgeSigns_b0 at h
    rcases mIf_some h with ⟨_, h⟩ | ⟨_, h⟩
    · obtain ⟨v2, _, h⟩ := mBN_some h
      rcases mIf_some h with ⟨_, h⟩ | ⟨_, h⟩
      · obtain ⟨_, rfl⟩ := mRW h
        exact mAv.rf
      · obtain ⟨_, rfl⟩ := mRW h
        exact mAv.rf
    · obtain ⟨v8, _, h⟩ := mBN_some h
      obtain ⟨v13, _, h⟩ := mBN_some h
      rcases mIf_some h with ⟨_, h⟩ | ⟨_, h⟩
      · obtain ⟨x19, _, h⟩ := mLt_some h
        exact mAv.tr mAv.rf (ih _ _ _ _ _ h) (fun i z => by unfold wX8_judgeSigns_0 at z; unfold wX8_judgeSigns_0; omega)
      · obtain ⟨_, rfl⟩ := mRW h
        exact mAv.rf
set_option maxHeartbeats 4000000 in
theorem NX8_judgeSigns {F : Nat} {Ln : Nat → Nat} {V V1 : mV} {v : Int32} {l1A : Nat} {l2A : Nat} (h : mX8_judgeSigns F Ln l1A l2A V = some (v, V1)) : mAv (wX8_judgeSigns l1A l2A) V V1 := by
  have ih := NX8_judgeSigns_go (F := F) (v := v) (V1 := V1) F
  unfold mX8_judgeSigns mX8_judgeSigns_s at h
  obtain ⟨v20, V21, h1, h⟩ := mBW_some h
  have a1 : mAv (wX8_judgeSigns l1A l2A) V V21 := mAv.tr mAv.rf (NX8_buildChain h1) (fun i z => by unfold wX8_buildChain at z; unfold wX8_judgeSigns; omega)
  rcases mIf_some h with ⟨_, h⟩ | ⟨_, h⟩
  · exact mAv.tr a1 (ih _ _ _ _ _ h) (fun i z => by unfold wX8_judgeSigns_0 at z; unfold wX8_judgeSigns; omega)
  · obtain ⟨_, rfl⟩ := mRW h
    exact a1
def wX10_solvePermutations (l1A : Nat) (i : Nat) : Prop := i = 7 ∨ (71 ≤ i ∧ i ≤ 81) ∨ i = 3000 ∨ i = l1A ∨ i = l1A + 2 ∨ i = l1A + 3
set_option maxHeartbeats 4000000 in
theorem NX10_solvePermutations {F : Nat} {Ln Ln1 : Nat → Nat} {V V1 : mV} {v : Unit} {l1A : Nat} (h : mX10_solvePermutations F Ln l1A V = some (v, Ln1, V1)) : mAv (wX10_solvePermutations l1A) V V1 ∧ mAl (wX10_solvePermutations l1A) Ln Ln1 := by
  unfold mX10_solvePermutations at h
  obtain ⟨v1, V2, h1, h⟩ := mBW_some h
  have a1 : mAv (wX10_solvePermutations l1A) V V2 := mAv.tr mAv.rf (NX10_reachAll h1) (fun i z => by unfold wX10_reachAll at z; unfold wX10_solvePermutations; omega)
  obtain ⟨v6, _, h⟩ := mBN_some h
  obtain ⟨c2, h⟩ := mGd_some h
  rcases mIf_some h with ⟨_, h⟩ | ⟨_, h⟩
  · obtain ⟨v13, V14, h3, h⟩ := mBW_some h
    have a3 : mAv (wX10_solvePermutations l1A) V V14 := mAv.tr a1 (NX3_tell h3) (fun i z => by unfold wX3_tell at z; unfold wX10_solvePermutations; omega)
    obtain ⟨v18, L19, V19, h4, h⟩ := mBA_some h
    have y4 := NX10_writeRows h4
    have a4 : mAv (wX10_solvePermutations l1A) V V19 := mAv.tr a3 y4.1 (fun i z => by unfold wX10_writeRows at z; unfold wX10_solvePermutations; omega)
    have b4 : mAl (wX10_solvePermutations l1A) Ln L19 := mAl.tr mAl.rf y4.2 (fun i z => by unfold wX10_writeRows at z; unfold wX10_solvePermutations; omega)
    obtain ⟨_, rfl, rfl⟩ := mRA3 h
    exact ⟨a4, b4⟩
  · obtain ⟨v23, V24, h5, h⟩ := mBW_some h
    have a5 : mAv (wX10_solvePermutations l1A) V V24 := mAv.tr a1 (NX3_tell h5) (fun i z => by unfold wX3_tell at z; unfold wX10_solvePermutations; omega)
    obtain ⟨v28, L29, V29, h6, h⟩ := mBA_some h
    have y6 := NX10_writeItems h6
    have a6 : mAv (wX10_solvePermutations l1A) V V29 := mAv.tr a5 y6.1 (fun i z => by unfold wX10_writeItems at z; unfold wX10_solvePermutations; omega)
    have b6 : mAl (wX10_solvePermutations l1A) Ln L29 := mAl.tr mAl.rf y6.2 (fun i z => by unfold wX10_writeItems at z; unfold wX10_solvePermutations; omega)
    obtain ⟨_, rfl, rfl⟩ := mRA3 h
    exact ⟨a6, b6⟩
def wX10_solveWords (l1A : Nat) (i : Nat) : Prop := i = 7 ∨ i = 79 ∨ (82 ≤ i ∧ i ≤ 83) ∨ i = 3000 ∨ i = l1A ∨ i = l1A + 2 ∨ i = l1A + 3
def wX10_solveWords_0 (l1A : Nat) (i : Nat) : Prop := i = 7 ∨ i = 79 ∨ (82 ≤ i ∧ i ≤ 83) ∨ i = 3000 ∨ i = l1A ∨ i = l1A + 2 ∨ i = l1A + 3
def wX10_solveWords_1 (l1A : Nat) (i : Nat) : Prop := i = 3000 ∨ i = l1A + 2 ∨ i = l1A + 3
set_option maxHeartbeats 4000000 in
theorem NX10_solveWords_go {F : Nat} {v : Unit} {Ln1 : Nat → Nat} {V1 : mV} : ∀ k' : Nat, (∀ (l1A : Nat) (l2I : Int32) (l3I : Int32) (l4I : Int32) (s0I : Int32) (Ln : Nat → Nat) (V : mV), mX10_solveWords_go F k' 0 Ln l1A l2I l3I l4I 0 s0I V = some (v, Ln1, V1) → mAv (wX10_solveWords_0 l1A) V V1 ∧ mAl (wX10_solveWords_0 l1A) Ln Ln1) ∧ (∀ (l1A : Nat) (l4I : Int32) (l7I : Int32) (Ln : Nat → Nat) (V : mV), mX10_solveWords_go F k' 1 Ln l1A 0 0 l4I l7I 0 V = some (v, Ln1, V1) → mAv (wX10_solveWords_1 l1A) V V1 ∧ mAl (wX10_solveWords_1 l1A) Ln Ln1) := by
  intro k'
  induction k' with
  | zero => exact ⟨(fun _ _ _ _ _ _ _ h => by cases h), (fun _ _ _ _ _ h => by cases h)⟩
  | succ k' ih =>
    refine ⟨?_, ?_⟩
    · intro l1A l2I l3I l4I s0I Ln V h
      rw [mX10_solveWords_go, if_pos rfl] at h
      unfold mX10_solveWords_b0 at h
      rcases mIf_some h with ⟨_, h⟩ | ⟨_, h⟩
      · obtain ⟨v2, V3, h1, h⟩ := mBW_some h
        have a1 : mAv (wX10_solveWords_0 l1A) V V3 := mAv.tr mAv.rf (NX3_tell h1) (fun i z => by unfold wX3_tell at z; unfold wX10_solveWords_0; omega)
        rcases mIf_some h with ⟨_, h⟩ | ⟨_, h⟩
        · obtain ⟨_, rfl, rfl⟩ := mRA3 h
          exact ⟨a1, mAl.rf⟩
        · have y := ih.2 _ _ _ _ _ h
          exact ⟨mAv.tr a1 y.1 (fun i z => by unfold wX10_solveWords_1 at z; unfold wX10_solveWords_0; omega), mAl.tr mAl.rf y.2 (fun i z => by unfold wX10_solveWords_1 at z; unfold wX10_solveWords_0; omega)⟩
      · rcases mIf_some h with ⟨_, h⟩ | ⟨_, h⟩
        · obtain ⟨v9, V10, h2, h⟩ := mBW_some h
          have a2 : mAv (wX10_solveWords_0 l1A) V V10 := mAv.tr mAv.rf (NX3_tell h2) (fun i z => by unfold wX3_tell at z; unfold wX10_solveWords_0; omega)
          rcases mIf_some h with ⟨_, h⟩ | ⟨_, h⟩
          · obtain ⟨_, rfl, rfl⟩ := mRA3 h
            exact ⟨a2, mAl.rf⟩
          · have y := ih.2 _ _ _ _ _ h
            exact ⟨mAv.tr a2 y.1 (fun i z => by unfold wX10_solveWords_1 at z; unfold wX10_solveWords_0; omega), mAl.tr mAl.rf y.2 (fun i z => by unfold wX10_solveWords_1 at z; unfold wX10_solveWords_0; omega)⟩
        · obtain ⟨c3, h⟩ := mGd_some h
          rcases mIf_some h with ⟨_, h⟩ | ⟨_, h⟩
          · obtain ⟨v17, V18, h4, h⟩ := mBW_some h
            have a4 : mAv (wX10_solveWords_0 l1A) V V18 := mAv.tr mAv.rf (NX3_tell h4) (fun i z => by unfold wX3_tell at z; unfold wX10_solveWords_0; omega)
            rcases mIf_some h with ⟨_, h⟩ | ⟨_, h⟩
            · obtain ⟨_, rfl, rfl⟩ := mRA3 h
              exact ⟨a4, mAl.rf⟩
            · have y := ih.2 _ _ _ _ _ h
              exact ⟨mAv.tr a4 y.1 (fun i z => by unfold wX10_solveWords_1 at z; unfold wX10_solveWords_0; omega), mAl.tr mAl.rf y.2 (fun i z => by unfold wX10_solveWords_1 at z; unfold wX10_solveWords_0; omega)⟩
          · obtain ⟨v23, V24, h5, h⟩ := mBW_some h
            have a5 : mAv (wX10_solveWords_0 l1A) V V24 := mAv.tr mAv.rf (NX3_tell h5) (fun i z => by unfold wX3_tell at z; unfold wX10_solveWords_0; omega)
            obtain ⟨v28, V29, h6, h⟩ := mBW_some h
            have a6 : mAv (wX10_solveWords_0 l1A) V V29 := mAv.tr a5 (NX10_stepFrom h6) (fun i z => by unfold wX10_stepFrom at z; unfold wX10_solveWords_0; omega)
            obtain ⟨v33, L34, V34, h7, h⟩ := mBA_some h
            have y7 := NX10_writeSteps h7
            have a7 : mAv (wX10_solveWords_0 l1A) V V34 := mAv.tr a6 y7.1 (fun i z => by unfold wX10_writeSteps at z; unfold wX10_solveWords_0; omega)
            have b7 : mAl (wX10_solveWords_0 l1A) Ln L34 := mAl.tr mAl.rf y7.2 (fun i z => by unfold wX10_writeSteps at z; unfold wX10_solveWords_0; omega)
            obtain ⟨_, rfl, rfl⟩ := mRA3 h
            exact ⟨a7, b7⟩
    · intro l1A l4I l7I Ln V h
      rw [mX10_solveWords_go, if_neg (by decide), if_pos rfl] at h
      unfold mX10_solveWords_b1 at h
      rcases mIf_some h with ⟨_, h⟩ | ⟨_, h⟩
      · obtain ⟨_, rfl, rfl⟩ := mRA3 h
        exact ⟨mAv.rf, mAl.rf⟩
      · obtain ⟨c8, h⟩ := mGd_some h
        rcases mIf_some h with ⟨_, h⟩ | ⟨_, h⟩
        · obtain ⟨x41, _, h⟩ := mLt_some h
          have y := ih.2 _ _ _ _ _ h
          exact ⟨mAv.tr mAv.rf y.1 (fun i z => by unfold wX10_solveWords_1 at z; unfold wX10_solveWords_1; omega), mAl.tr mAl.rf y.2 (fun i z => by unfold wX10_solveWords_1 at z; unfold wX10_solveWords_1; omega)⟩
        · obtain ⟨v42, L43, V43, h9, h⟩ := mBA_some h
          have y9 := NX9_add h9
          have a9 : mAv (wX10_solveWords_1 l1A) V V43 := mAv.tr mAv.rf y9.1 (fun i z => by unfold wX9_add at z; unfold wX10_solveWords_1; omega)
          have b9 : mAl (wX10_solveWords_1 l1A) Ln L43 := mAl.tr mAl.rf y9.2 (fun i z => by unfold wX9_add at z; unfold wX10_solveWords_1; omega)
          obtain ⟨x47, _, h⟩ := mLt_some h
          have y := ih.2 _ _ _ _ _ h
          exact ⟨mAv.tr a9 y.1 (fun i z => by unfold wX10_solveWords_1 at z; unfold wX10_solveWords_1; omega), mAl.tr b9 y.2 (fun i z => by unfold wX10_solveWords_1 at z; unfold wX10_solveWords_1; omega)⟩
set_option maxHeartbeats 4000000 in
theorem NX10_solveWords {F : Nat} {Ln Ln1 : Nat → Nat} {V V1 : mV} {v : Unit} {l1A : Nat} (h : mX10_solveWords F Ln l1A V = some (v, Ln1, V1)) : mAv (wX10_solveWords l1A) V V1 ∧ mAl (wX10_solveWords l1A) Ln Ln1 := by
  have ih := NX10_solveWords_go (F := F) (v := v) (Ln1 := Ln1) (V1 := V1) F
  unfold mX10_solveWords mX10_solveWords_s at h
  obtain ⟨v48, _, h⟩ := mBN_some h
  obtain ⟨v53, _, h⟩ := mBN_some h
  obtain ⟨v58, _, h⟩ := mBN_some h
  rcases mIf_some h with ⟨_, h⟩ | ⟨_, h⟩
  · have y := ih.1 _ _ _ _ _ _ _ h
    exact ⟨mAv.tr mAv.rf y.1 (fun i z => by unfold wX10_solveWords_0 at z; unfold wX10_solveWords; omega), mAl.tr mAl.rf y.2 (fun i z => by unfold wX10_solveWords_0 at z; unfold wX10_solveWords; omega)⟩
  · obtain ⟨v64, V65, h10, h⟩ := mBW_some h
    have a10 : mAv (wX10_solveWords l1A) V V65 := mAv.tr mAv.rf (NX10_stepFrom h10) (fun i z => by unfold wX10_stepFrom at z; unfold wX10_solveWords; omega)
    have y := ih.1 _ _ _ _ _ _ _ h
    exact ⟨mAv.tr a10 y.1 (fun i z => by unfold wX10_solveWords_0 at z; unfold wX10_solveWords; omega), mAl.tr mAl.rf y.2 (fun i z => by unfold wX10_solveWords_0 at z; unfold wX10_solveWords; omega)⟩
def wX11_wouldBeCarriedSo (l1A : Nat) (i : Nat) : Prop := i = 18 ∨ (544 ≤ i ∧ i ≤ 545)
set_option maxHeartbeats 4000000 in
theorem NX11_wouldBeCarriedSo {F : Nat} {V V1 : mV} {v : Int32} {l1A : Nat} (h : mX11_wouldBeCarriedSo F l1A V = some (v, V1)) : mAv (wX11_wouldBeCarriedSo l1A) V V1 := by
  unfold mX11_wouldBeCarriedSo at h
  rcases mIf_some h with ⟨_, h⟩ | ⟨_, h⟩
  · obtain ⟨c1, h⟩ := mGd_some h
    obtain ⟨v4, V5, h2, h⟩ := mBW_some h
    have z2_0 := (Nat.lt_of_not_le (fun z => c1 (Or.inr z)))
    have a2 : mAv (wX11_wouldBeCarriedSo l1A) V V5 := mAv.tr mAv.rf (NX4_carriesOver h2) (fun i z => by unfold wX4_carriesOver at z; unfold wX11_wouldBeCarriedSo; omega)
    rcases mIf_some h with ⟨_, h⟩ | ⟨_, h⟩
    · obtain ⟨_, rfl⟩ := mRW h
      exact a2
    · obtain ⟨v10, _, h⟩ := mBN_some h
      rcases mIf_some h with ⟨_, h⟩ | ⟨_, h⟩
      · obtain ⟨_, rfl⟩ := mRW h
        exact a2
      · obtain ⟨_, rfl⟩ := mRW h
        exact a2
  · obtain ⟨_, rfl⟩ := mRW h
    exact mAv.rf
end
