/-! WHAT EACH METHOD LEAVES ALONE: X7_solveFlows, X8_solveEquations, X8_solvePrimes, X8_buildChain, X8_judgeParts, X8_judgeSigns, X10_solvePermutations, X10_solveWords, X11_open, X11_wouldBeCarriedSo, X4_judge, X8_solveRoots. -/
section
def wX7_solveFlows (l1A : Nat) (i : Nat) : Prop := i = 2 ∨ (21 ≤ i ∧ i ≤ 25) ∨ i = l1A ∨ i = l1A + 2 ∨ i = l1A + 3
def wX7_solveFlows_0 (l1A : Nat) (i : Nat) : Prop := i = 2 ∨ (24 ≤ i ∧ i ≤ 25) ∨ i = l1A + 2 ∨ i = l1A + 3
def wX7_solveFlows_1 (l1A : Nat) (i : Nat) : Prop := i = l1A + 2 ∨ i = l1A + 3
def wX7_solveFlows_2 (l1A : Nat) (i : Nat) : Prop := i = l1A + 2 ∨ i = l1A + 3
set_option maxHeartbeats 4000000 in
theorem NX7_solveFlows_go {F : Nat} {v : Unit} {Ln1 : Nat → Nat} {V1 : mV} : ∀ k' : Nat, (∀ (l1A : Nat) (l4I : Int32) (Ln : Nat → Nat) (V : mV), mX7_solveFlows_go F k' 0 Ln l1A l4I V = some (v, Ln1, V1) → mAv (wX7_solveFlows_0 l1A) V V1 ∧ mAl (wX7_solveFlows_0 l1A) Ln Ln1) ∧ (∀ (l1A : Nat) (l4I : Int32) (Ln : Nat → Nat) (V : mV), mX7_solveFlows_go F k' 1 Ln l1A l4I V = some (v, Ln1, V1) → mAv (wX7_solveFlows_1 l1A) V V1 ∧ mAl (wX7_solveFlows_1 l1A) Ln Ln1) ∧ (∀ (l1A : Nat) (l4I : Int32) (Ln : Nat → Nat) (V : mV), mX7_solveFlows_go F k' 2 Ln l1A l4I V = some (v, Ln1, V1) → mAv (wX7_solveFlows_2 l1A) V V1 ∧ mAl (wX7_solveFlows_2 l1A) Ln Ln1) := by
  intro k'
  induction k' with
  | zero => exact ⟨(fun _ _ _ _ h => by cases h), (fun _ _ _ _ h => by cases h), (fun _ _ _ _ h => by cases h)⟩
  | succ k' ih =>
    refine ⟨?_, ?_, ?_⟩
    · intro l1A l4I Ln V h
      rw [mX7_solveFlows_go, if_pos rfl] at h
      unfold mX7_solveFlows_b0 at h
      rcases mIf_some h with ⟨_, h⟩ | ⟨_, h⟩
      · obtain ⟨v2, V3, h1, h⟩ := mBW_some h
        have a1 : mAv (wX7_solveFlows_0 l1A) V V3 := mAv.tr mAv.rf (NX7_lowerAll h1) (fun i z => by unfold wX7_lowerAll at z; unfold wX7_solveFlows_0; omega)
        have y := ih.2.1 _ _ _ _ h
        exact ⟨mAv.tr a1 y.1 (fun i z => by unfold wX7_solveFlows_1 at z; unfold wX7_solveFlows_0; omega), mAl.tr mAl.rf y.2 (fun i z => by unfold wX7_solveFlows_1 at z; unfold wX7_solveFlows_0; omega)⟩
      · obtain ⟨v7, V8, h2, h⟩ := mBW_some h
        have a2 : mAv (wX7_solveFlows_0 l1A) V V8 := mAv.tr mAv.rf (NX7_leadsOn h2) (fun i z => by unfold wX7_leadsOn at z; unfold wX7_solveFlows_0; omega)
        obtain ⟨x12, _, h⟩ := mLt_some h
        have y := ih.1 _ _ _ _ h
        exact ⟨mAv.tr a2 y.1 (fun i z => by unfold wX7_solveFlows_0 at z; unfold wX7_solveFlows_0; omega), mAl.tr mAl.rf y.2 (fun i z => by unfold wX7_solveFlows_0 at z; unfold wX7_solveFlows_0; omega)⟩
    · intro l1A l4I Ln V h
      rw [mX7_solveFlows_go, if_neg (by decide), if_pos rfl] at h
      unfold mX7_solveFlows_b1 at h
      rcases mIf_some h with ⟨_, h⟩ | ⟨_, h⟩
      · obtain ⟨_, rfl, rfl⟩ := mRA3 h
        exact ⟨mAv.rf, mAl.rf⟩
      · obtain ⟨c3, h⟩ := mGd_some h
        obtain ⟨v15, L16, V16, h4, h⟩ := mBA_some h
        have y4 := NX9_add h4
        have a4 : mAv (wX7_solveFlows_1 l1A) V V16 := mAv.tr mAv.rf y4.1 (fun i z => by unfold wX9_add at z; unfold wX7_solveFlows_1; omega)
        have b4 : mAl (wX7_solveFlows_1 l1A) Ln L16 := mAl.tr mAl.rf y4.2 (fun i z => by unfold wX9_add at z; unfold wX7_solveFlows_1; omega)
        obtain ⟨x20, _, h⟩ := mLt_some h
        have y := ih.2.1 _ _ _ _ h
        exact ⟨mAv.tr a4 y.1 (fun i z => by unfold wX7_solveFlows_1 at z; unfold wX7_solveFlows_1; omega), mAl.tr b4 y.2 (fun i z => by unfold wX7_solveFlows_1 at z; unfold wX7_solveFlows_1; omega)⟩
    · intro l1A l4I Ln V h
      rw [mX7_solveFlows_go, if_neg (by decide), if_neg (by decide), if_pos rfl] at h
      unfold mX7_solveFlows_b2 at h
      rcases mIf_some h with ⟨_, h⟩ | ⟨_, h⟩
      · obtain ⟨_, rfl, rfl⟩ := mRA3 h
        exact ⟨mAv.rf, mAl.rf⟩
      · obtain ⟨v22, _, h⟩ := mBN_some h
        rcases mIf_some h with ⟨_, h⟩ | ⟨_, h⟩
        · obtain ⟨x28, _, h⟩ := mLt_some h
          have y := ih.2.2 _ _ _ _ h
          exact ⟨mAv.tr mAv.rf y.1 (fun i z => by unfold wX7_solveFlows_2 at z; unfold wX7_solveFlows_2; omega), mAl.tr mAl.rf y.2 (fun i z => by unfold wX7_solveFlows_2 at z; unfold wX7_solveFlows_2; omega)⟩
        · obtain ⟨v29, L30, V30, h5, h⟩ := mBA_some h
          have y5 := NX9_add h5
          have a5 : mAv (wX7_solveFlows_2 l1A) V V30 := mAv.tr mAv.rf y5.1 (fun i z => by unfold wX9_add at z; unfold wX7_solveFlows_2; omega)
          have b5 : mAl (wX7_solveFlows_2 l1A) Ln L30 := mAl.tr mAl.rf y5.2 (fun i z => by unfold wX9_add at z; unfold wX7_solveFlows_2; omega)
          obtain ⟨x34, _, h⟩ := mLt_some h
          have y := ih.2.2 _ _ _ _ h
          exact ⟨mAv.tr a5 y.1 (fun i z => by unfold wX7_solveFlows_2 at z; unfold wX7_solveFlows_2; omega), mAl.tr b5 y.2 (fun i z => by unfold wX7_solveFlows_2 at z; unfold wX7_solveFlows_2; omega)⟩
set_option maxHeartbeats 4000000 in
theorem NX7_solveFlows {F : Nat} {Ln Ln1 : Nat → Nat} {V V1 : mV} {v : Unit} {l1A : Nat} (h : mX7_solveFlows F Ln l1A V = some (v, Ln1, V1)) : mAv (wX7_solveFlows l1A) V V1 ∧ mAl (wX7_solveFlows l1A) Ln Ln1 := by
  have ih := NX7_solveFlows_go (F := F) (v := v) (Ln1 := Ln1) (V1 := V1) F
  unfold mX7_solveFlows mX7_solveFlows_s at h
  obtain ⟨v35, V36, h6, h⟩ := mBW_some h
  have a6 : mAv (wX7_solveFlows l1A) V V36 := mAv.tr mAv.rf (NX7_loadFlows h6) (fun i z => by unfold wX7_loadFlows at z; unfold wX7_solveFlows; omega)
  obtain ⟨v40, V41, h7, h⟩ := mBW_some h
  have a7 : mAv (wX7_solveFlows l1A) V V41 := mAv.tr a6 (NX7_greatest h7) (fun i z => by unfold wX7_greatest at z; unfold wX7_solveFlows; omega)
  rcases mIf_some h with ⟨_, h⟩ | ⟨_, h⟩
  · obtain ⟨v46, V47, h8, h⟩ := mBW_some h
    have a8 : mAv (wX7_solveFlows l1A) V V47 := mAv.tr a7 (NX3_tell h8) (fun i z => by unfold wX3_tell at z; unfold wX7_solveFlows; omega)
    have y := ih.2.2 _ _ _ _ h
    exact ⟨mAv.tr a8 y.1 (fun i z => by unfold wX7_solveFlows_2 at z; unfold wX7_solveFlows; omega), mAl.tr mAl.rf y.2 (fun i z => by unfold wX7_solveFlows_2 at z; unfold wX7_solveFlows; omega)⟩
  · obtain ⟨v51, V52, h9, h⟩ := mBW_some h
    have a9 : mAv (wX7_solveFlows l1A) V V52 := mAv.tr a7 (NX3_tell h9) (fun i z => by unfold wX3_tell at z; unfold wX7_solveFlows; omega)
    obtain ⟨v56, V57, h10, h⟩ := mBW_some h
    have a10 : mAv (wX7_solveFlows l1A) V V57 := mAv.tr a9 (NJ7_fill_53178 h10) (fun i z => by unfold wJ7_fill_53178 at z; unfold wX7_solveFlows; omega)
    have y := ih.1 _ _ _ _ h
    exact ⟨mAv.tr a10 y.1 (fun i z => by unfold wX7_solveFlows_0 at z; unfold wX7_solveFlows; omega), mAl.tr mAl.rf y.2 (fun i z => by unfold wX7_solveFlows_0 at z; unfold wX7_solveFlows; omega)⟩
def wX8_solveEquations (l1A : Nat) (i : Nat) : Prop := i = 6 ∨ i = 54 ∨ (56 ≤ i ∧ i ≤ 60) ∨ i = l1A ∨ i = l1A + 2 ∨ i = l1A + 3
def wX8_solveEquations_0 (l1A : Nat) (i : Nat) : Prop := i = 6 ∨ i = 54 ∨ (56 ≤ i ∧ i ≤ 60) ∨ i = l1A + 2 ∨ i = l1A + 3
def wX8_solveEquations_1 (l1A : Nat) (i : Nat) : Prop := i = l1A + 2 ∨ i = l1A + 3
set_option maxHeartbeats 4000000 in
theorem NX8_solveEquations_go {F : Nat} {v : Unit} {Ln1 : Nat → Nat} {V1 : mV} : ∀ k' : Nat, (∀ (l1A : Nat) (l2I : Int32) (Ln : Nat → Nat) (V : mV), mX8_solveEquations_go F k' 0 Ln l1A l2I V = some (v, Ln1, V1) → mAv (wX8_solveEquations_0 l1A) V V1 ∧ mAl (wX8_solveEquations_0 l1A) Ln Ln1) ∧ (∀ (l1A : Nat) (l2I : Int32) (Ln : Nat → Nat) (V : mV), mX8_solveEquations_go F k' 1 Ln l1A l2I V = some (v, Ln1, V1) → mAv (wX8_solveEquations_1 l1A) V V1 ∧ mAl (wX8_solveEquations_1 l1A) Ln Ln1) := by
  intro k'
  induction k' with
  | zero => exact ⟨(fun _ _ _ _ h => by cases h), (fun _ _ _ _ h => by cases h)⟩
  | succ k' ih =>
    refine ⟨?_, ?_⟩
    · intro l1A l2I Ln V h
      rw [mX8_solveEquations_go, if_pos rfl] at h
      unfold mX8_solveEquations_b0 at h
      rcases mIf_some h with ⟨_, h⟩ | ⟨_, h⟩
      · have y := ih.2 _ _ _ _ h
        exact ⟨mAv.tr mAv.rf y.1 (fun i z => by unfold wX8_solveEquations_1 at z; unfold wX8_solveEquations_0; omega), mAl.tr mAl.rf y.2 (fun i z => by unfold wX8_solveEquations_1 at z; unfold wX8_solveEquations_0; omega)⟩
      · obtain ⟨v2, V3, h1, h⟩ := mBW_some h
        have a1 : mAv (wX8_solveEquations_0 l1A) V V3 := mAv.tr mAv.rf (NX8_takeLeastAmount h1) (fun i z => by unfold wX8_takeLeastAmount at z; unfold wX8_solveEquations_0; omega)
        obtain ⟨x7, _, h⟩ := mLt_some h
        have y := ih.1 _ _ _ _ h
        exact ⟨mAv.tr a1 y.1 (fun i z => by unfold wX8_solveEquations_0 at z; unfold wX8_solveEquations_0; omega), mAl.tr mAl.rf y.2 (fun i z => by unfold wX8_solveEquations_0 at z; unfold wX8_solveEquations_0; omega)⟩
    · intro l1A l2I Ln V h
      rw [mX8_solveEquations_go, if_neg (by decide), if_pos rfl] at h
      unfold mX8_solveEquations_b1 at h
      rcases mIf_some h with ⟨_, h⟩ | ⟨_, h⟩
      · obtain ⟨_, rfl, rfl⟩ := mRA3 h
        exact ⟨mAv.rf, mAl.rf⟩
      · obtain ⟨c2, h⟩ := mGd_some h
        obtain ⟨v10, L11, V11, h3, h⟩ := mBA_some h
        have y3 := NX9_add h3
        have a3 : mAv (wX8_solveEquations_1 l1A) V V11 := mAv.tr mAv.rf y3.1 (fun i z => by unfold wX9_add at z; unfold wX8_solveEquations_1; omega)
        have b3 : mAl (wX8_solveEquations_1 l1A) Ln L11 := mAl.tr mAl.rf y3.2 (fun i z => by unfold wX9_add at z; unfold wX8_solveEquations_1; omega)
        obtain ⟨x15, _, h⟩ := mLt_some h
        have y := ih.2 _ _ _ _ h
        exact ⟨mAv.tr a3 y.1 (fun i z => by unfold wX8_solveEquations_1 at z; unfold wX8_solveEquations_1; omega), mAl.tr b3 y.2 (fun i z => by unfold wX8_solveEquations_1 at z; unfold wX8_solveEquations_1; omega)⟩
set_option maxHeartbeats 4000000 in
theorem NX8_solveEquations {F : Nat} {Ln Ln1 : Nat → Nat} {V V1 : mV} {v : Unit} {l1A : Nat} (h : mX8_solveEquations F Ln l1A V = some (v, Ln1, V1)) : mAv (wX8_solveEquations l1A) V V1 ∧ mAl (wX8_solveEquations l1A) Ln Ln1 := by
  have ih := NX8_solveEquations_go (F := F) (v := v) (Ln1 := Ln1) (V1 := V1) F
  unfold mX8_solveEquations mX8_solveEquations_s at h
  obtain ⟨v16, V17, h4, h⟩ := mBW_some h
  have a4 : mAv (wX8_solveEquations l1A) V V17 := mAv.tr mAv.rf (NX8_findPoint h4) (fun i z => by unfold wX8_findPoint at z; unfold wX8_solveEquations; omega)
  rcases mIf_some h with ⟨_, h⟩ | ⟨_, h⟩
  · obtain ⟨v22, L23, V23, h5, h⟩ := mBA_some h
    have y5 := NX8_writeModulus h5
    have a5 : mAv (wX8_solveEquations l1A) V V23 := mAv.tr a4 y5.1 (fun i z => by unfold wX8_writeModulus at z; unfold wX8_solveEquations; omega)
    have b5 : mAl (wX8_solveEquations l1A) Ln L23 := mAl.tr mAl.rf y5.2 (fun i z => by unfold wX8_writeModulus at z; unfold wX8_solveEquations; omega)
    obtain ⟨v27, _, h⟩ := mBN_some h
    obtain ⟨v32, V33, h6, h⟩ := mBW_some h
    have a6 : mAv (wX8_solveEquations l1A) V V33 := mAv.tr a5 (NX3_tell h6) (fun i z => by unfold wX3_tell at z; unfold wX8_solveEquations; omega)
    obtain ⟨_, rfl, rfl⟩ := mRA3 h
    exact ⟨a6, b5⟩
  · obtain ⟨v37, V38, h7, h⟩ := mBW_some h
    have a7 : mAv (wX8_solveEquations l1A) V V38 := mAv.tr a4 (NX3_tell h7) (fun i z => by unfold wX3_tell at z; unfold wX8_solveEquations; omega)
    have y := ih.1 _ _ _ _ h
    exact ⟨mAv.tr a7 y.1 (fun i z => by unfold wX8_solveEquations_0 at z; unfold wX8_solveEquations; omega), mAl.tr mAl.rf y.2 (fun i z => by unfold wX8_solveEquations_0 at z; unfold wX8_solveEquations; omega)⟩
def wX8_solvePrimes (l1A : Nat) (i : Nat) : Prop := i = l1A ∨ i = l1A + 2 ∨ i = l1A + 3
set_option maxHeartbeats 4000000 in
theorem NX8_solvePrimes {F : Nat} {Ln Ln1 : Nat → Nat} {V V1 : mV} {v : Unit} {l1A : Nat} (h : mX8_solvePrimes F Ln l1A V = some (v, Ln1, V1)) : mAv (wX8_solvePrimes l1A) V V1 ∧ mAl (wX8_solvePrimes l1A) Ln Ln1 := by
  unfold mX8_solvePrimes at h
  obtain ⟨x1, _, h⟩ := mLt_some h
  obtain ⟨v2, _, h⟩ := mBN_some h
  rcases mIf_some h with ⟨_, h⟩ | ⟨_, h⟩
  · obtain ⟨v30, V31, h1, h⟩ := mBW_some h
    have a1 : mAv (wX8_solvePrimes l1A) V V31 := mAv.tr mAv.rf (NX3_tell h1) (fun i z => by unfold wX3_tell at z; unfold wX8_solvePrimes; omega)
    rcases mIf_some h with ⟨_, h⟩ | ⟨_, h⟩
    · obtain ⟨v47, L48, V48, h2, h⟩ := mBA_some h
      have y2 := NX8_writePrime h2
      have a2 : mAv (wX8_solvePrimes l1A) V V48 := mAv.tr a1 y2.1 (fun i z => by unfold wX8_writePrime at z; unfold wX8_solvePrimes; omega)
      have b2 : mAl (wX8_solvePrimes l1A) Ln L48 := mAl.tr mAl.rf y2.2 (fun i z => by unfold wX8_writePrime at z; unfold wX8_solvePrimes; omega)
      obtain ⟨_, rfl, rfl⟩ := mRA3 h
      exact ⟨a2, b2⟩
    · obtain ⟨v36, L37, V37, h3, h⟩ := mBA_some h
      have y3 := NX9_add h3
      have a3 : mAv (wX8_solvePrimes l1A) V V37 := mAv.tr a1 y3.1 (fun i z => by unfold wX9_add at z; unfold wX8_solvePrimes; omega)
      have b3 : mAl (wX8_solvePrimes l1A) Ln L37 := mAl.tr mAl.rf y3.2 (fun i z => by unfold wX9_add at z; unfold wX8_solvePrimes; omega)
      obtain ⟨c4, h⟩ := mGd_some h
      obtain ⟨v42, L43, V43, h5, h⟩ := mBA_some h
      have y5 := NX9_add h5
      have a5 : mAv (wX8_solvePrimes l1A) V V43 := mAv.tr a3 y5.1 (fun i z => by unfold wX9_add at z; unfold wX8_solvePrimes; omega)
      have b5 : mAl (wX8_solvePrimes l1A) Ln L43 := mAl.tr b3 y5.2 (fun i z => by unfold wX9_add at z; unfold wX8_solvePrimes; omega)
      obtain ⟨_, rfl, rfl⟩ := mRA3 h
      exact ⟨a5, b5⟩
  · obtain ⟨v8, V9, h6, h⟩ := mBW_some h
    have a6 : mAv (wX8_solvePrimes l1A) V V9 := mAv.tr mAv.rf (NX3_tell h6) (fun i z => by unfold wX3_tell at z; unfold wX8_solvePrimes; omega)
    rcases mIf_some h with ⟨_, h⟩ | ⟨_, h⟩
    · obtain ⟨v25, L26, V26, h7, h⟩ := mBA_some h
      have y7 := NX8_writePrime h7
      have a7 : mAv (wX8_solvePrimes l1A) V V26 := mAv.tr a6 y7.1 (fun i z => by unfold wX8_writePrime at z; unfold wX8_solvePrimes; omega)
      have b7 : mAl (wX8_solvePrimes l1A) Ln L26 := mAl.tr mAl.rf y7.2 (fun i z => by unfold wX8_writePrime at z; unfold wX8_solvePrimes; omega)
      obtain ⟨_, rfl, rfl⟩ := mRA3 h
      exact ⟨a7, b7⟩
    · obtain ⟨v14, L15, V15, h8, h⟩ := mBA_some h
      have y8 := NX9_add h8
      have a8 : mAv (wX8_solvePrimes l1A) V V15 := mAv.tr a6 y8.1 (fun i z => by unfold wX9_add at z; unfold wX8_solvePrimes; omega)
      have b8 : mAl (wX8_solvePrimes l1A) Ln L15 := mAl.tr mAl.rf y8.2 (fun i z => by unfold wX9_add at z; unfold wX8_solvePrimes; omega)
      obtain ⟨c9, h⟩ := mGd_some h
      obtain ⟨v20, L21, V21, h10, h⟩ := mBA_some h
      have y10 := NX9_add h10
      have a10 : mAv (wX8_solvePrimes l1A) V V21 := mAv.tr a8 y10.1 (fun i z => by unfold wX9_add at z; unfold wX8_solvePrimes; omega)
      have b10 : mAl (wX8_solvePrimes l1A) Ln L21 := mAl.tr b8 y10.2 (fun i z => by unfold wX9_add at z; unfold wX8_solvePrimes; omega)
      obtain ⟨_, rfl, rfl⟩ := mRA3 h
      exact ⟨a10, b10⟩
def wX8_buildChain (l1A : Nat) (i : Nat) : Prop := i = 6 ∨ (62 ≤ i ∧ i ≤ 69)
def wX8_buildChain_0 (l1A : Nat) (i : Nat) : Prop := i = 6 ∨ (62 ≤ i ∧ i ≤ 69)
set_option maxHeartbeats 4000000 in
theorem NX8_buildChain_go {F : Nat} {v : Unit} {V1 : mV} : ∀ k' : Nat, (∀ (l1A : Nat) (l2I : Int32) (V : mV), mX8_buildChain_go F k' 0 l1A l2I V = some (v, V1) → mAv (wX8_buildChain_0 l1A) V V1) := by
  intro k'
  induction k' with
  | zero => exact (fun _ _ _ h => by cases h)
  | succ k' ih =>
    intro l1A l2I V h
    rw [mX8_buildChain_go, if_pos rfl] at h
    unfold mX8_buildChain_b0 at h
    rcases mIf_some h with ⟨_, h⟩ | ⟨_, h⟩
    · obtain ⟨c1, h⟩ := mGd_some h
      obtain ⟨v4, _, h⟩ := mBN_some h
      rcases mIf_some h with ⟨_, h⟩ | ⟨_, h⟩
      · obtain ⟨c2, h⟩ := mGd_some h
        obtain ⟨V11, eV11, h⟩ := mLt_some h
        have a3 : mAv (wX8_buildChain_0 l1A) V V11 := by rw [eV11]; exact mAv.I mAv.rf (by unfold wX8_buildChain_0; omega)
        obtain ⟨v12, V13, h4, h⟩ := mBW_some h
        have a4 : mAv (wX8_buildChain_0 l1A) V V13 := mAv.tr a3 (NX8_continueChain h4) (fun i z => by unfold wX8_continueChain at z; unfold wX8_buildChain_0; omega)
        obtain ⟨v17, V18, h5, h⟩ := mBW_some h
        have a5 : mAv (wX8_buildChain_0 l1A) V V18 := mAv.tr a4 (NX8_divideFirst h5) (fun i z => by unfold wX8_divideFirst at z; unfold wX8_buildChain_0; omega)
        obtain ⟨v22, V23, h6, h⟩ := mBW_some h
        have a6 : mAv (wX8_buildChain_0 l1A) V V23 := mAv.tr a5 (NX8_continueChain h6) (fun i z => by unfold wX8_continueChain at z; unfold wX8_buildChain_0; omega)
        obtain ⟨_, rfl⟩ := mRW h
        exact a6
      · obtain ⟨_, rfl⟩ := mRW h
        exact mAv.rf
    · obtain ⟨c7, h⟩ := mGd_some h
      obtain ⟨v29, _, h⟩ := mBN_some h
      obtain ⟨c8, h⟩ := mGd_some h
      obtain ⟨V35, eV35, h⟩ := mLt_some h
      have z9 := (Nat.lt_of_not_le (fun z => c7 (Or.inr z)))
      have a9 : mAv (wX8_buildChain_0 l1A) V V35 := by rw [eV35]; exact mAv.J mAv.rf (by unfold wX8_buildChain_0; omega)
      obtain ⟨x36, _, h⟩ := mLt_some h
      exact mAv.tr a9 (ih _ _ _ h) (fun i z => by unfold wX8_buildChain_0 at z; unfold wX8_buildChain_0; omega)
set_option maxHeartbeats 4000000 in
theorem NX8_buildChain {F : Nat} {V V1 : mV} {v : Unit} {l1A : Nat} (h : mX8_buildChain F l1A V = some (v, V1)) : mAv (wX8_buildChain l1A) V V1 := by
  have ih := NX8_buildChain_go (F := F) (v := v) (V1 := V1) F
  unfold mX8_buildChain mX8_buildChain_s at h
  obtain ⟨V37, eV37, h⟩ := mLt_some h
  have a10 : mAv (wX8_buildChain l1A) V V37 := by rw [eV37]; exact mAv.F mAv.rf (by unfold wX8_buildChain; omega)
  exact mAv.tr a10 (ih _ _ _ h) (fun i z => by unfold wX8_buildChain_0 at z; unfold wX8_buildChain; omega)
def wX8_judgeParts (l1A : Nat) (l2A : Nat) (i : Nat) : Prop := i = 6 ∨ (62 ≤ i ∧ i ≤ 69)
def wX8_judgeParts_0 (l2A : Nat) (i : Nat) : Prop := i < 0
set_option maxHeartbeats 4000000 in
theorem NX8_judgeParts_go {F : Nat} {v : Int32} {V1 : mV} : ∀ k' : Nat, (∀ (l2A : Nat) (l3I : Int32) (Ln : Nat → Nat) (V : mV), mX8_judgeParts_go F k' 0 Ln l2A l3I V = some (v, V1) → mAv (wX8_judgeParts_0 l2A) V V1) := by
  intro k'
  induction k' with
  | zero => exact (fun _ _ _ _ h => by cases h)
  | succ k' ih =>
    intro l2A l3I Ln V h
    rw [mX8_judgeParts_go, if_pos rfl] at h
    unfold mX8_judgeParts_b0 at h
    rcases mIf_some h with ⟨_, h⟩ | ⟨_, h⟩
    · obtain ⟨_, rfl⟩ := mRW h
      exact mAv.rf
    · obtain ⟨v2, _, h⟩ := mBN_some h
      obtain ⟨v7, _, h⟩ := mBN_some h
      obtain ⟨v12, _, h⟩ := mBN_some h
      rcases mIf_some h with ⟨_, h⟩ | ⟨_, h⟩
      · obtain ⟨x18, _, h⟩ := mLt_some h
        exact mAv.tr mAv.rf (ih _ _ _ _ h) (fun i z => by unfold wX8_judgeParts_0 at z; unfold wX8_judgeParts_0; omega)
      · obtain ⟨_, rfl⟩ := mRW h
        exact mAv.rf
set_option maxHeartbeats 4000000 in
theorem NX8_judgeParts {F : Nat} {Ln : Nat → Nat} {V V1 : mV} {v : Int32} {l1A : Nat} {l2A : Nat} (h : mX8_judgeParts F Ln l1A l2A V = some (v, V1)) : mAv (wX8_judgeParts l1A l2A) V V1 := by
  have ih := NX8_judgeParts_go (F := F) (v := v) (V1 := V1) F
  unfold mX8_judgeParts mX8_judgeParts_s at h
  rcases mIf_some h with ⟨_, h⟩ | ⟨_, h⟩
  · obtain ⟨v20, _, h⟩ := mBN_some h
    rcases mIf_some h with ⟨_, h⟩ | ⟨_, h⟩
    · obtain ⟨_, rfl⟩ := mRW h
      exact mAv.rf
    · obtain ⟨v26, _, h⟩ := mBN_some h
      rcases mIf_some h with ⟨_, h⟩ | ⟨_, h⟩
      · obtain ⟨_, rfl⟩ := mRW h
        exact mAv.rf
      · rcases mIf_some h with ⟨_, h⟩ | ⟨_, h⟩
        · obtain ⟨v33, V34, h1, h⟩ := mBW_some h
          have a1 : mAv (wX8_judgeParts l1A l2A) V V34 := mAv.tr mAv.rf (NX8_buildChain h1) (fun i z => by unfold wX8_buildChain at z; unfold wX8_judgeParts; omega)
          exact mAv.tr a1 (ih _ _ _ _ h) (fun i z => by unfold wX8_judgeParts_0 at z; unfold wX8_judgeParts; omega)
        · obtain ⟨_, rfl⟩ := mRW h
          exact mAv.rf
  · obtain ⟨_, rfl⟩ := mRW h
    exact mAv.rf
def wX8_judgeSigns (l1A : Nat) (l2A : Nat) (i : Nat) : Prop := i = 6 ∨ (62 ≤ i ∧ i ≤ 69)
def wX8_judgeSigns_0 (l1A : Nat) (l2A : Nat) (i : Nat) : Prop := i < 0
set_option maxHeartbeats 4000000 in
theorem NX8_judgeSigns_go {F : Nat} {v : Int32} {V1 : mV} : ∀ k' : Nat, (∀ (l1A : Nat) (l2A : Nat) (l3I : Int32) (Ln : Nat → Nat) (V : mV), mX8_judgeSigns_go F k' 0 Ln l1A l2A l3I V = some (v, V1) → mAv (wX8_judgeSigns_0 l1A l2A) V V1) := by
  intro k'
  induction k' with
  | zero => exact (fun _ _ _ _ _ h => by cases h)
  | succ k' ih =>
    intro l1A l2A l3I Ln V h
    rw [mX8_judgeSigns_go, if_pos rfl] at h
    unfold mX8_judgeSigns_b0 at h
    rcases mIf_some h with ⟨_, h⟩ | ⟨_, h⟩
    · obtain ⟨v2, _, h⟩ := mBN_some h
      rcases mIf_some h with ⟨_, h⟩ | ⟨_, h⟩
      · obtain ⟨_, rfl⟩ := mRW h
        exact mAv.rf
      · obtain ⟨_, rfl⟩ := mRW h
        exact mAv.rf
    · obtain ⟨v8, _, h⟩ := mBN_some h
      obtain ⟨v13, _, h⟩ := mBN_some h
      rcases mIf_some h with ⟨_, h⟩ | ⟨_, h⟩
      · obtain ⟨x19, _, h⟩ := mLt_some h
        exact mAv.tr mAv.rf (ih _ _ _ _ _ h) (fun i z => by unfold wX8_judgeSigns_0 at z; unfold wX8_judgeSigns_0; omega)
      · obtain ⟨_, rfl⟩ := mRW h
        exact mAv.rf
set_option maxHeartbeats 4000000 in
theorem NX8_judgeSigns {F : Nat} {Ln : Nat → Nat} {V V1 : mV} {v : Int32} {l1A : Nat} {l2A : Nat} (h : mX8_judgeSigns F Ln l1A l2A V = some (v, V1)) : mAv (wX8_judgeSigns l1A l2A) V V1 := by
  have ih := NX8_judgeSigns_go (F := F) (v := v) (V1 := V1) F
  unfold mX8_judgeSigns mX8_judgeSigns_s at h
  obtain ⟨v20, V21, h1, h⟩ := mBW_some h
  have a1 : mAv (wX8_judgeSigns l1A l2A) V V21 := mAv.tr mAv.rf (NX8_buildChain h1) (fun i z => by unfold wX8_buildChain at z; unfold wX8_judgeSigns; omega)
  rcases mIf_some h with ⟨_, h⟩ | ⟨_, h⟩
  · exact mAv.tr a1 (ih _ _ _ _ _ h) (fun i z => by unfold wX8_judgeSigns_0 at z; unfold wX8_judgeSigns; omega)
  · obtain ⟨_, rfl⟩ := mRW h
    exact a1
def wX10_solvePermutations (l1A : Nat) (i : Nat) : Prop := i = 7 ∨ (71 ≤ i ∧ i ≤ 81) ∨ i = l1A ∨ i = l1A + 2 ∨ i = l1A + 3
set_option maxHeartbeats 4000000 in
theorem NX10_solvePermutations {F : Nat} {Ln Ln1 : Nat → Nat} {V V1 : mV} {v : Unit} {l1A : Nat} (h : mX10_solvePermutations F Ln l1A V = some (v, Ln1, V1)) : mAv (wX10_solvePermutations l1A) V V1 ∧ mAl (wX10_solvePermutations l1A) Ln Ln1 := by
  unfold mX10_solvePermutations at h
  obtain ⟨v1, V2, h1, h⟩ := mBW_some h
  have a1 : mAv (wX10_solvePermutations l1A) V V2 := mAv.tr mAv.rf (NX10_reachAll h1) (fun i z => by unfold wX10_reachAll at z; unfold wX10_solvePermutations; omega)
  obtain ⟨v6, _, h⟩ := mBN_some h
  obtain ⟨c2, h⟩ := mGd_some h
  rcases mIf_some h with ⟨_, h⟩ | ⟨_, h⟩
  · obtain ⟨v13, V14, h3, h⟩ := mBW_some h
    have a3 : mAv (wX10_solvePermutations l1A) V V14 := mAv.tr a1 (NX3_tell h3) (fun i z => by unfold wX3_tell at z; unfold wX10_solvePermutations; omega)
    obtain ⟨v18, L19, V19, h4, h⟩ := mBA_some h
    have y4 := NX10_writeRows h4
    have a4 : mAv (wX10_solvePermutations l1A) V V19 := mAv.tr a3 y4.1 (fun i z => by unfold wX10_writeRows at z; unfold wX10_solvePermutations; omega)
    have b4 : mAl (wX10_solvePermutations l1A) Ln L19 := mAl.tr mAl.rf y4.2 (fun i z => by unfold wX10_writeRows at z; unfold wX10_solvePermutations; omega)
    obtain ⟨_, rfl, rfl⟩ := mRA3 h
    exact ⟨a4, b4⟩
  · obtain ⟨v23, V24, h5, h⟩ := mBW_some h
    have a5 : mAv (wX10_solvePermutations l1A) V V24 := mAv.tr a1 (NX3_tell h5) (fun i z => by unfold wX3_tell at z; unfold wX10_solvePermutations; omega)
    obtain ⟨v28, L29, V29, h6, h⟩ := mBA_some h
    have y6 := NX10_writeItems h6
    have a6 : mAv (wX10_solvePermutations l1A) V V29 := mAv.tr a5 y6.1 (fun i z => by unfold wX10_writeItems at z; unfold wX10_solvePermutations; omega)
    have b6 : mAl (wX10_solvePermutations l1A) Ln L29 := mAl.tr mAl.rf y6.2 (fun i z => by unfold wX10_writeItems at z; unfold wX10_solvePermutations; omega)
    obtain ⟨_, rfl, rfl⟩ := mRA3 h
    exact ⟨a6, b6⟩
def wX10_solveWords (l1A : Nat) (i : Nat) : Prop := i = 7 ∨ i = 79 ∨ (82 ≤ i ∧ i ≤ 83) ∨ i = l1A ∨ i = l1A + 2 ∨ i = l1A + 3
def wX10_solveWords_0 (l1A : Nat) (i : Nat) : Prop := i = 7 ∨ i = 79 ∨ (82 ≤ i ∧ i ≤ 83) ∨ i = l1A ∨ i = l1A + 2 ∨ i = l1A + 3
def wX10_solveWords_1 (l1A : Nat) (i : Nat) : Prop := i = l1A + 2 ∨ i = l1A + 3
set_option maxHeartbeats 4000000 in
theorem NX10_solveWords_go {F : Nat} {v : Unit} {Ln1 : Nat → Nat} {V1 : mV} : ∀ k' : Nat, (∀ (l1A : Nat) (l2I : Int32) (l3I : Int32) (l4I : Int32) (s0I : Int32) (Ln : Nat → Nat) (V : mV), mX10_solveWords_go F k' 0 Ln l1A l2I l3I l4I 0 s0I V = some (v, Ln1, V1) → mAv (wX10_solveWords_0 l1A) V V1 ∧ mAl (wX10_solveWords_0 l1A) Ln Ln1) ∧ (∀ (l1A : Nat) (l4I : Int32) (l7I : Int32) (Ln : Nat → Nat) (V : mV), mX10_solveWords_go F k' 1 Ln l1A 0 0 l4I l7I 0 V = some (v, Ln1, V1) → mAv (wX10_solveWords_1 l1A) V V1 ∧ mAl (wX10_solveWords_1 l1A) Ln Ln1) := by
  intro k'
  induction k' with
  | zero => exact ⟨(fun _ _ _ _ _ _ _ h => by cases h), (fun _ _ _ _ _ h => by cases h)⟩
  | succ k' ih =>
    refine ⟨?_, ?_⟩
    · intro l1A l2I l3I l4I s0I Ln V h
      rw [mX10_solveWords_go, if_pos rfl] at h
      unfold mX10_solveWords_b0 at h
      rcases mIf_some h with ⟨_, h⟩ | ⟨_, h⟩
      · obtain ⟨v2, V3, h1, h⟩ := mBW_some h
        have a1 : mAv (wX10_solveWords_0 l1A) V V3 := mAv.tr mAv.rf (NX3_tell h1) (fun i z => by unfold wX3_tell at z; unfold wX10_solveWords_0; omega)
        rcases mIf_some h with ⟨_, h⟩ | ⟨_, h⟩
        · obtain ⟨_, rfl, rfl⟩ := mRA3 h
          exact ⟨a1, mAl.rf⟩
        · have y := ih.2 _ _ _ _ _ h
          exact ⟨mAv.tr a1 y.1 (fun i z => by unfold wX10_solveWords_1 at z; unfold wX10_solveWords_0; omega), mAl.tr mAl.rf y.2 (fun i z => by unfold wX10_solveWords_1 at z; unfold wX10_solveWords_0; omega)⟩
      · rcases mIf_some h with ⟨_, h⟩ | ⟨_, h⟩
        · obtain ⟨v9, V10, h2, h⟩ := mBW_some h
          have a2 : mAv (wX10_solveWords_0 l1A) V V10 := mAv.tr mAv.rf (NX3_tell h2) (fun i z => by unfold wX3_tell at z; unfold wX10_solveWords_0; omega)
          rcases mIf_some h with ⟨_, h⟩ | ⟨_, h⟩
          · obtain ⟨_, rfl, rfl⟩ := mRA3 h
            exact ⟨a2, mAl.rf⟩
          · have y := ih.2 _ _ _ _ _ h
            exact ⟨mAv.tr a2 y.1 (fun i z => by unfold wX10_solveWords_1 at z; unfold wX10_solveWords_0; omega), mAl.tr mAl.rf y.2 (fun i z => by unfold wX10_solveWords_1 at z; unfold wX10_solveWords_0; omega)⟩
        · obtain ⟨c3, h⟩ := mGd_some h
          rcases mIf_some h with ⟨_, h⟩ | ⟨_, h⟩
          · obtain ⟨v17, V18, h4, h⟩ := mBW_some h
            have a4 : mAv (wX10_solveWords_0 l1A) V V18 := mAv.tr mAv.rf (NX3_tell h4) (fun i z => by unfold wX3_tell at z; unfold wX10_solveWords_0; omega)
            rcases mIf_some h with ⟨_, h⟩ | ⟨_, h⟩
            · obtain ⟨_, rfl, rfl⟩ := mRA3 h
              exact ⟨a4, mAl.rf⟩
            · have y := ih.2 _ _ _ _ _ h
              exact ⟨mAv.tr a4 y.1 (fun i z => by unfold wX10_solveWords_1 at z; unfold wX10_solveWords_0; omega), mAl.tr mAl.rf y.2 (fun i z => by unfold wX10_solveWords_1 at z; unfold wX10_solveWords_0; omega)⟩
          · obtain ⟨v23, V24, h5, h⟩ := mBW_some h
            have a5 : mAv (wX10_solveWords_0 l1A) V V24 := mAv.tr mAv.rf (NX3_tell h5) (fun i z => by unfold wX3_tell at z; unfold wX10_solveWords_0; omega)
            obtain ⟨v28, V29, h6, h⟩ := mBW_some h
            have a6 : mAv (wX10_solveWords_0 l1A) V V29 := mAv.tr a5 (NX10_stepFrom h6) (fun i z => by unfold wX10_stepFrom at z; unfold wX10_solveWords_0; omega)
            obtain ⟨v33, L34, V34, h7, h⟩ := mBA_some h
            have y7 := NX10_writeSteps h7
            have a7 : mAv (wX10_solveWords_0 l1A) V V34 := mAv.tr a6 y7.1 (fun i z => by unfold wX10_writeSteps at z; unfold wX10_solveWords_0; omega)
            have b7 : mAl (wX10_solveWords_0 l1A) Ln L34 := mAl.tr mAl.rf y7.2 (fun i z => by unfold wX10_writeSteps at z; unfold wX10_solveWords_0; omega)
            obtain ⟨_, rfl, rfl⟩ := mRA3 h
            exact ⟨a7, b7⟩
    · intro l1A l4I l7I Ln V h
      rw [mX10_solveWords_go, if_neg (by decide), if_pos rfl] at h
      unfold mX10_solveWords_b1 at h
      rcases mIf_some h with ⟨_, h⟩ | ⟨_, h⟩
      · obtain ⟨_, rfl, rfl⟩ := mRA3 h
        exact ⟨mAv.rf, mAl.rf⟩
      · obtain ⟨c8, h⟩ := mGd_some h
        rcases mIf_some h with ⟨_, h⟩ | ⟨_, h⟩
        · obtain ⟨x41, _, h⟩ := mLt_some h
          have y := ih.2 _ _ _ _ _ h
          exact ⟨mAv.tr mAv.rf y.1 (fun i z => by unfold wX10_solveWords_1 at z; unfold wX10_solveWords_1; omega), mAl.tr mAl.rf y.2 (fun i z => by unfold wX10_solveWords_1 at z; unfold wX10_solveWords_1; omega)⟩
        · obtain ⟨v42, L43, V43, h9, h⟩ := mBA_some h
          have y9 := NX9_add h9
          have a9 : mAv (wX10_solveWords_1 l1A) V V43 := mAv.tr mAv.rf y9.1 (fun i z => by unfold wX9_add at z; unfold wX10_solveWords_1; omega)
          have b9 : mAl (wX10_solveWords_1 l1A) Ln L43 := mAl.tr mAl.rf y9.2 (fun i z => by unfold wX9_add at z; unfold wX10_solveWords_1; omega)
          obtain ⟨x47, _, h⟩ := mLt_some h
          have y := ih.2 _ _ _ _ _ h
          exact ⟨mAv.tr a9 y.1 (fun i z => by unfold wX10_solveWords_1 at z; unfold wX10_solveWords_1; omega), mAl.tr b9 y.2 (fun i z => by unfold wX10_solveWords_1 at z; unfold wX10_solveWords_1; omega)⟩
set_option maxHeartbeats 4000000 in
theorem NX10_solveWords {F : Nat} {Ln Ln1 : Nat → Nat} {V V1 : mV} {v : Unit} {l1A : Nat} (h : mX10_solveWords F Ln l1A V = some (v, Ln1, V1)) : mAv (wX10_solveWords l1A) V V1 ∧ mAl (wX10_solveWords l1A) Ln Ln1 := by
  have ih := NX10_solveWords_go (F := F) (v := v) (Ln1 := Ln1) (V1 := V1) F
  unfold mX10_solveWords mX10_solveWords_s at h
  obtain ⟨v48, _, h⟩ := mBN_some h
  obtain ⟨v53, _, h⟩ := mBN_some h
  obtain ⟨v58, _, h⟩ := mBN_some h
  rcases mIf_some h with ⟨_, h⟩ | ⟨_, h⟩
  · have y := ih.1 _ _ _ _ _ _ _ h
    exact ⟨mAv.tr mAv.rf y.1 (fun i z => by unfold wX10_solveWords_0 at z; unfold wX10_solveWords; omega), mAl.tr mAl.rf y.2 (fun i z => by unfold wX10_solveWords_0 at z; unfold wX10_solveWords; omega)⟩
  · obtain ⟨v64, V65, h10, h⟩ := mBW_some h
    have a10 : mAv (wX10_solveWords l1A) V V65 := mAv.tr mAv.rf (NX10_stepFrom h10) (fun i z => by unfold wX10_stepFrom at z; unfold wX10_solveWords; omega)
    have y := ih.1 _ _ _ _ _ _ _ h
    exact ⟨mAv.tr a10 y.1 (fun i z => by unfold wX10_solveWords_0 at z; unfold wX10_solveWords; omega), mAl.tr mAl.rf y.2 (fun i z => by unfold wX10_solveWords_0 at z; unfold wX10_solveWords; omega)⟩
def wX11_open (i : Nat) : Prop := i = 0 ∨ (14 ≤ i ∧ i ≤ 15) ∨ (256 ≤ i ∧ i ≤ 344) ∨ (352 ≤ i ∧ i ≤ 537) ∨ i = 3000
set_option maxHeartbeats 4000000 in
theorem NX11_open {F : Nat} {Ln Ln1 : Nat → Nat} {V V1 : mV} {v : (String ⊕ Int32)} {l1I : Int32} {l2I : Int32} {l3I : Int32} (h : mX11_open F Ln l1I l2I l3I V = some (v, Ln1, V1)) : mAv (wX11_open) V V1 ∧ mAl (wX11_open) Ln Ln1 := by
  unfold mX11_open at h
  obtain ⟨v1, _, h⟩ := mBN_some h
  rcases mIf_some h with ⟨_, h⟩ | ⟨_, h⟩
  · obtain ⟨_, rfl, rfl, _⟩ := mTh_some h
    exact ⟨mAv.rf, mAl.up mAl.rf (by unfold wX11_open; omega)⟩
  · obtain ⟨v8, _, h⟩ := mBN_some h
    rcases mIf_some h with ⟨_, h⟩ | ⟨_, h⟩
    · obtain ⟨_, rfl, rfl, _⟩ := mTh_some h
      exact ⟨mAv.rf, mAl.up mAl.rf (by unfold wX11_open; omega)⟩
    · obtain ⟨v15, _, h⟩ := mBN_some h
      rcases mIf_some h with ⟨_, h⟩ | ⟨_, h⟩
      · obtain ⟨_, rfl, rfl, _⟩ := mTh_some h
        exact ⟨mAv.rf, mAl.up mAl.rf (by unfold wX11_open; omega)⟩
      · rcases mIf_some h with ⟨_, h⟩ | ⟨_, h⟩
        · obtain ⟨c1, h⟩ := mGd_some h
          obtain ⟨v24, V25, h2, h⟩ := mBW_some h
          have z2_0 := (Nat.lt_of_not_le (fun z => c1 (Or.inr z)))
          have a2 : mAv (wX11_open) V V25 := mAv.tr mAv.rf (NX3_begin h2) (fun i z => by unfold wX3_begin at z; unfold wX11_open; omega)
          obtain ⟨v29, V30, h3, h⟩ := mBW_some h
          have a3 : mAv (wX11_open) V V30 := mAv.tr a2 (NX11_remember h3) (fun i z => by unfold wX11_remember at z; unfold wX11_open; omega)
          obtain ⟨V34, eV34, h⟩ := mLt_some h
          have a4 : mAv (wX11_open) V V34 := by rw [eV34]; exact mAv.F a3 (by unfold wX11_open; omega)
          obtain ⟨_, rfl, rfl⟩ := mRA3 h
          exact ⟨a4, mAl.rf⟩
        · obtain ⟨_, rfl, rfl, _⟩ := mTh_some h
          exact ⟨mAv.rf, mAl.up mAl.rf (by unfold wX11_open; omega)⟩
def wX11_wouldBeCarriedSo (l1A : Nat) (i : Nat) : Prop := i = 18 ∨ (544 ≤ i ∧ i ≤ 545)
set_option maxHeartbeats 4000000 in
theorem NX11_wouldBeCarriedSo {F : Nat} {V V1 : mV} {v : Int32} {l1A : Nat} (h : mX11_wouldBeCarriedSo F l1A V = some (v, V1)) : mAv (wX11_wouldBeCarriedSo l1A) V V1 := by
  unfold mX11_wouldBeCarriedSo at h
  rcases mIf_some h with ⟨_, h⟩ | ⟨_, h⟩
  · obtain ⟨c1, h⟩ := mGd_some h
    obtain ⟨v4, V5, h2, h⟩ := mBW_some h
    have z2_0 := (Nat.lt_of_not_le (fun z => c1 (Or.inr z)))
    have a2 : mAv (wX11_wouldBeCarriedSo l1A) V V5 := mAv.tr mAv.rf (NX4_carriesOver h2) (fun i z => by unfold wX4_carriesOver at z; unfold wX11_wouldBeCarriedSo; omega)
    rcases mIf_some h with ⟨_, h⟩ | ⟨_, h⟩
    · obtain ⟨_, rfl⟩ := mRW h
      exact a2
    · obtain ⟨v10, _, h⟩ := mBN_some h
      rcases mIf_some h with ⟨_, h⟩ | ⟨_, h⟩
      · obtain ⟨_, rfl⟩ := mRW h
        exact a2
      · obtain ⟨_, rfl⟩ := mRW h
        exact a2
  · obtain ⟨_, rfl⟩ := mRW h
    exact mAv.rf
def wX4_judge (l1A : Nat) (l2A : Nat) (i : Nat) : Prop := (2 ≤ i ∧ i ≤ 3) ∨ (5 ≤ i ∧ i ≤ 8) ∨ i = 19 ∨ (21 ≤ i ∧ i ≤ 23) ∨ (26 ≤ i ∧ i ≤ 34) ∨ (52 ≤ i ∧ i ≤ 53) ∨ (62 ≤ i ∧ i ≤ 69) ∨ (71 ≤ i ∧ i ≤ 78) ∨ (83 ≤ i ∧ i ≤ 86) ∨ (88 ≤ i ∧ i ≤ 90)
set_option maxHeartbeats 4000000 in
theorem NX4_judge {F : Nat} {Ln : Nat → Nat} {V V1 : mV} {v : Int32} {l1A : Nat} {l2A : Nat} {l3I : Int32} (h : mX4_judge F Ln l1A l2A l3I V = some (v, V1)) : mAv (wX4_judge l1A l2A) V V1 := by
  unfold mX4_judge at h
  rcases mIf_some h with ⟨_, h⟩ | ⟨_, h⟩
  · rcases mIf_some h with ⟨_, h⟩ | ⟨_, h⟩
    · obtain ⟨v4, V5, h1, h⟩ := mBW_some h
      have a1 : mAv (wX4_judge l1A l2A) V V5 := mAv.tr mAv.rf (NX7_judgeNodes h1) (fun i z => by unfold wX7_judgeNodes at z; unfold wX4_judge; omega)
      obtain ⟨_, rfl⟩ := mRW h
      exact a1
    · obtain ⟨v9, V10, h2, h⟩ := mBW_some h
      have a2 : mAv (wX4_judge l1A l2A) V V10 := mAv.tr mAv.rf (NX7_judgePairing h2) (fun i z => by unfold wX7_judgePairing at z; unfold wX4_judge; omega)
      obtain ⟨_, rfl⟩ := mRW h
      exact a2
  · rcases mIf_some h with ⟨_, h⟩ | ⟨_, h⟩
    · rcases mIf_some h with ⟨_, h⟩ | ⟨_, h⟩
      · obtain ⟨v16, V17, h3, h⟩ := mBW_some h
        have a3 : mAv (wX4_judge l1A l2A) V V17 := mAv.tr mAv.rf (NX7_judgeBar h3) (fun i z => by unfold wX7_judgeBar at z; unfold wX4_judge; omega)
        obtain ⟨_, rfl⟩ := mRW h
        exact a3
      · obtain ⟨v21, V22, h4, h⟩ := mBW_some h
        have a4 : mAv (wX4_judge l1A l2A) V V22 := mAv.tr mAv.rf (NX7_judgeFlow h4) (fun i z => by unfold wX7_judgeFlow at z; unfold wX4_judge; omega)
        obtain ⟨_, rfl⟩ := mRW h
        exact a4
    · rcases mIf_some h with ⟨_, h⟩ | ⟨_, h⟩
      · rcases mIf_some h with ⟨_, h⟩ | ⟨_, h⟩
        · obtain ⟨v28, V29, h5, h⟩ := mBW_some h
          have a5 : mAv (wX4_judge l1A l2A) V V29 := mAv.tr mAv.rf (NX2_judgeCore h5) (fun i z => by unfold wX2_judgeCore at z; unfold wX4_judge; omega)
          obtain ⟨_, rfl⟩ := mRW h
          exact a5
        · obtain ⟨v33, V34, h6, h⟩ := mBW_some h
          have a6 : mAv (wX4_judge l1A l2A) V V34 := mAv.tr mAv.rf (NX2_judgeDrawing h6) (fun i z => by unfold wX2_judgeDrawing at z; unfold wX4_judge; omega)
          obtain ⟨_, rfl⟩ := mRW h
          exact a6
      · rcases mIf_some h with ⟨_, h⟩ | ⟨_, h⟩
        · rcases mIf_some h with ⟨_, h⟩ | ⟨_, h⟩
          · obtain ⟨v40, _, h⟩ := mBN_some h
            obtain ⟨_, rfl⟩ := mRW h
            exact mAv.rf
          · obtain ⟨v45, _, h⟩ := mBN_some h
            obtain ⟨_, rfl⟩ := mRW h
            exact mAv.rf
        · rcases mIf_some h with ⟨_, h⟩ | ⟨_, h⟩
          · rcases mIf_some h with ⟨_, h⟩ | ⟨_, h⟩
            · obtain ⟨v52, V53, h7, h⟩ := mBW_some h
              have a7 : mAv (wX4_judge l1A l2A) V V53 := mAv.tr mAv.rf (NX1_judgeTree h7) (fun i z => by unfold wX1_judgeTree at z; unfold wX4_judge; omega)
              obtain ⟨_, rfl⟩ := mRW h
              exact a7
            · obtain ⟨v57, V58, h8, h⟩ := mBW_some h
              have a8 : mAv (wX4_judge l1A l2A) V V58 := mAv.tr mAv.rf (NX1_judgeTruths h8) (fun i z => by unfold wX1_judgeTruths at z; unfold wX4_judge; omega)
              obtain ⟨_, rfl⟩ := mRW h
              exact a8
          · rcases mIf_some h with ⟨_, h⟩ | ⟨_, h⟩
            · rcases mIf_some h with ⟨_, h⟩ | ⟨_, h⟩
              · obtain ⟨v64, _, h⟩ := mBN_some h
                obtain ⟨_, rfl⟩ := mRW h
                exact mAv.rf
              · obtain ⟨v69, _, h⟩ := mBN_some h
                obtain ⟨_, rfl⟩ := mRW h
                exact mAv.rf
            · rcases mIf_some h with ⟨_, h⟩ | ⟨_, h⟩
              · rcases mIf_some h with ⟨_, h⟩ | ⟨_, h⟩
                · obtain ⟨v76, _, h⟩ := mBN_some h
                  obtain ⟨_, rfl⟩ := mRW h
                  exact mAv.rf
                · obtain ⟨v81, _, h⟩ := mBN_some h
                  obtain ⟨_, rfl⟩ := mRW h
                  exact mAv.rf
              · rcases mIf_some h with ⟨_, h⟩ | ⟨_, h⟩
                · rcases mIf_some h with ⟨_, h⟩ | ⟨_, h⟩
                  · obtain ⟨v88, V89, h9, h⟩ := mBW_some h
                    have a9 : mAv (wX4_judge l1A l2A) V V89 := mAv.tr mAv.rf (NX8_judgeSigns h9) (fun i z => by unfold wX8_judgeSigns at z; unfold wX4_judge; omega)
                    obtain ⟨_, rfl⟩ := mRW h
                    exact a9
                  · obtain ⟨v93, V94, h10, h⟩ := mBW_some h
                    have a10 : mAv (wX4_judge l1A l2A) V V94 := mAv.tr mAv.rf (NX8_judgeParts h10) (fun i z => by unfold wX8_judgeParts at z; unfold wX4_judge; omega)
                    obtain ⟨_, rfl⟩ := mRW h
                    exact a10
                · rcases mIf_some h with ⟨_, h⟩ | ⟨_, h⟩
                  · rcases mIf_some h with ⟨_, h⟩ | ⟨_, h⟩
                    · obtain ⟨v100, V101, h11, h⟩ := mBW_some h
                      have a11 : mAv (wX4_judge l1A l2A) V V101 := mAv.tr mAv.rf (NX10_judgeRows h11) (fun i z => by unfold wX10_judgeRows at z; unfold wX4_judge; omega)
                      obtain ⟨_, rfl⟩ := mRW h
                      exact a11
                    · obtain ⟨v105, V106, h12, h⟩ := mBW_some h
                      have a12 : mAv (wX4_judge l1A l2A) V V106 := mAv.tr mAv.rf (NX10_judgeItems h12) (fun i z => by unfold wX10_judgeItems at z; unfold wX4_judge; omega)
                      obtain ⟨_, rfl⟩ := mRW h
                      exact a12
                  · rcases mIf_some h with ⟨_, h⟩ | ⟨_, h⟩
                    · rcases mIf_some h with ⟨_, h⟩ | ⟨_, h⟩
                      · obtain ⟨v112, V113, h13, h⟩ := mBW_some h
                        have a13 : mAv (wX4_judge l1A l2A) V V113 := mAv.tr mAv.rf (NX10_judgeClosure h13) (fun i z => by unfold wX10_judgeClosure at z; unfold wX4_judge; omega)
                        obtain ⟨_, rfl⟩ := mRW h
                        exact a13
                      · obtain ⟨v117, V118, h14, h⟩ := mBW_some h
                        have a14 : mAv (wX4_judge l1A l2A) V V118 := mAv.tr mAv.rf (NX10_judgeSteps h14) (fun i z => by unfold wX10_judgeSteps at z; unfold wX4_judge; omega)
                        obtain ⟨_, rfl⟩ := mRW h
                        exact a14
                    · rcases mIf_some h with ⟨_, h⟩ | ⟨_, h⟩
                      · rcases mIf_some h with ⟨_, h⟩ | ⟨_, h⟩
                        · obtain ⟨v124, V125, h15, h⟩ := mBW_some h
                          have a15 : mAv (wX4_judge l1A l2A) V V125 := mAv.tr mAv.rf (NX6_judgeLetters h15) (fun i z => by unfold wX6_judgeLetters at z; unfold wX4_judge; omega)
                          obtain ⟨_, rfl⟩ := mRW h
                          exact a15
                        · obtain ⟨v129, V130, h16, h⟩ := mBW_some h
                          have a16 : mAv (wX4_judge l1A l2A) V V130 := mAv.tr mAv.rf (NX6_judgeLikeness h16) (fun i z => by unfold wX6_judgeLikeness at z; unfold wX4_judge; omega)
                          obtain ⟨_, rfl⟩ := mRW h
                          exact a16
                      · rcases mIf_some h with ⟨_, h⟩ | ⟨_, h⟩
                        · obtain ⟨v135, V136, h17, h⟩ := mBW_some h
                          have a17 : mAv (wX4_judge l1A l2A) V V136 := mAv.tr mAv.rf (NX6_judgeGame h17) (fun i z => by unfold wX6_judgeGame at z; unfold wX4_judge; omega)
                          obtain ⟨_, rfl⟩ := mRW h
                          exact a17
                        · obtain ⟨v140, V141, h18, h⟩ := mBW_some h
                          have a18 : mAv (wX4_judge l1A l2A) V V141 := mAv.tr mAv.rf (NX6_judgeGame h18) (fun i z => by unfold wX6_judgeGame at z; unfold wX4_judge; omega)
                          obtain ⟨_, rfl⟩ := mRW h
                          exact a18
def wX8_solveRoots (l1A : Nat) (i : Nat) : Prop := i = 6 ∨ (62 ≤ i ∧ i ≤ 69) ∨ i = l1A ∨ i = l1A + 2 ∨ i = l1A + 3
def wX8_solveRoots_0 (l1A : Nat) (i : Nat) : Prop := i = l1A + 2 ∨ i = l1A + 3
set_option maxHeartbeats 4000000 in
theorem NX8_solveRoots_go {F : Nat} {v : Unit} {Ln1 : Nat → Nat} {V1 : mV} : ∀ k' : Nat, (∀ (l1A : Nat) (l4I : Int32) (Ln : Nat → Nat) (V : mV), mX8_solveRoots_go F k' 0 Ln l1A l4I V = some (v, Ln1, V1) → mAv (wX8_solveRoots_0 l1A) V V1 ∧ mAl (wX8_solveRoots_0 l1A) Ln Ln1) := by
  intro k'
  induction k' with
  | zero => exact (fun _ _ _ _ h => by cases h)
  | succ k' ih =>
    intro l1A l4I Ln V h
    rw [mX8_solveRoots_go, if_pos rfl] at h
    unfold mX8_solveRoots_b0 at h
    rcases mIf_some h with ⟨_, h⟩ | ⟨_, h⟩
    · obtain ⟨_, rfl, rfl⟩ := mRA3 h
      exact ⟨mAv.rf, mAl.rf⟩
    · obtain ⟨v2, _, h⟩ := mBN_some h
      obtain ⟨v7, L8, V8, h1, h⟩ := mBA_some h
      have y1 := NX9_add h1
      have a1 : mAv (wX8_solveRoots_0 l1A) V V8 := mAv.tr mAv.rf y1.1 (fun i z => by unfold wX9_add at z; unfold wX8_solveRoots_0; omega)
      have b1 : mAl (wX8_solveRoots_0 l1A) Ln L8 := mAl.tr mAl.rf y1.2 (fun i z => by unfold wX9_add at z; unfold wX8_solveRoots_0; omega)
      obtain ⟨x12, _, h⟩ := mLt_some h
      have y := ih _ _ _ _ h
      exact ⟨mAv.tr a1 y.1 (fun i z => by unfold wX8_solveRoots_0 at z; unfold wX8_solveRoots_0; omega), mAl.tr b1 y.2 (fun i z => by unfold wX8_solveRoots_0 at z; unfold wX8_solveRoots_0; omega)⟩
set_option maxHeartbeats 4000000 in
theorem NX8_solveRoots {F : Nat} {Ln Ln1 : Nat → Nat} {V V1 : mV} {v : Unit} {l1A : Nat} (h : mX8_solveRoots F Ln l1A V = some (v, Ln1, V1)) : mAv (wX8_solveRoots l1A) V V1 ∧ mAl (wX8_solveRoots l1A) Ln Ln1 := by
  have ih := NX8_solveRoots_go (F := F) (v := v) (Ln1 := Ln1) (V1 := V1) F
  unfold mX8_solveRoots mX8_solveRoots_s at h
  obtain ⟨v13, V14, h2, h⟩ := mBW_some h
  have a2 : mAv (wX8_solveRoots l1A) V V14 := mAv.tr mAv.rf (NX8_buildChain h2) (fun i z => by unfold wX8_buildChain at z; unfold wX8_solveRoots; omega)
  obtain ⟨v18, _, h⟩ := mBN_some h
  rcases mIf_some h with ⟨_, h⟩ | ⟨_, h⟩
  · obtain ⟨v24, V25, h3, h⟩ := mBW_some h
    have a3 : mAv (wX8_solveRoots l1A) V V25 := mAv.tr a2 (NX3_tell h3) (fun i z => by unfold wX3_tell at z; unfold wX8_solveRoots; omega)
    have y := ih _ _ _ _ h
    exact ⟨mAv.tr a3 y.1 (fun i z => by unfold wX8_solveRoots_0 at z; unfold wX8_solveRoots; omega), mAl.tr mAl.rf y.2 (fun i z => by unfold wX8_solveRoots_0 at z; unfold wX8_solveRoots; omega)⟩
  · obtain ⟨v29, V30, h4, h⟩ := mBW_some h
    have a4 : mAv (wX8_solveRoots l1A) V V30 := mAv.tr a2 (NX3_tell h4) (fun i z => by unfold wX3_tell at z; unfold wX8_solveRoots; omega)
    obtain ⟨v34, L35, V35, h5, h⟩ := mBA_some h
    have y5 := NX8_writeParts h5
    have a5 : mAv (wX8_solveRoots l1A) V V35 := mAv.tr a4 y5.1 (fun i z => by unfold wX8_writeParts at z; unfold wX8_solveRoots; omega)
    have b5 : mAl (wX8_solveRoots l1A) Ln L35 := mAl.tr mAl.rf y5.2 (fun i z => by unfold wX8_writeParts at z; unfold wX8_solveRoots; omega)
    obtain ⟨_, rfl, rfl⟩ := mRA3 h
    exact ⟨a5, b5⟩
end
