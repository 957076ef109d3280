/-! WHAT EACH METHOD LEAVES ALONE: X4_judge, X8_solveRoots, X11_settleClaims, X11_isSoundEntry, X11_isUnsoundClaim, X4_solve, L_wipe. -/
section
def wX4_judge (l1A : Nat) (l2A : Nat) (i : Nat) : Prop := (2 ≤ i ∧ i ≤ 3) ∨ (5 ≤ i ∧ i ≤ 8) ∨ i = 19 ∨ (21 ≤ i ∧ i ≤ 23) ∨ (26 ≤ i ∧ i ≤ 34) ∨ (52 ≤ i ∧ i ≤ 53) ∨ (62 ≤ i ∧ i ≤ 69) ∨ (71 ≤ i ∧ i ≤ 78) ∨ (83 ≤ i ∧ i ≤ 86) ∨ (88 ≤ i ∧ i ≤ 90)
set_option maxHeartbeats 4000000 in
theorem NX4_judge {F : Nat} {Ln : Nat → Nat} {V V1 : mV} {v : Int32} {l1A : Nat} {l2A : Nat} {l3I : Int32} (h : mX4_judge F Ln l1A l2A l3I V = some (v, V1)) : mAv (wX4_judge l1A l2A) V V1 := by
  unfold mX4_judge at h
  rcases mIf_some h with ⟨_, h⟩ | ⟨_, h⟩
  · rcases mIf_some h with ⟨_, h⟩ | ⟨_, h⟩
    · obtain ⟨v4, V5, h1, h⟩ := mBW_some h
      have a1 : mAv (wX4_judge l1A l2A) V V5 := mAv.tr mAv.rf (NX7_judgeNodes h1) (fun i z => by unfold wX7_judgeNodes at z; unfold wX4_judge; omega)
      obtain ⟨_, rfl⟩ := mRW h
      exact a1
    · obtain ⟨v9, V10, h2, h⟩ := mBW_some h
      have a2 : mAv (wX4_judge l1A l2A) V V10 := mAv.tr mAv.rf (NX7_judgePairing h2) (fun i z => by unfold wX7_judgePairing at z; unfold wX4_judge; omega)
      obtain ⟨_, rfl⟩ := mRW h
      exact a2
  · rcases mIf_some h with ⟨_, h⟩ | ⟨_, h⟩
    · rcases mIf_some h with ⟨_, h⟩ | ⟨_, h⟩
      · obtain ⟨v16, V17, h3, h⟩ := mBW_some h
        have a3 : mAv (wX4_judge l1A l2A) V V17 := mAv.tr mAv.rf (NX7_judgeBar h3) (fun i z => by unfold wX7_judgeBar at z; unfold wX4_judge; omega)
        obtain ⟨_, rfl⟩ := mRW h
        exact a3
      · obtain ⟨v21, V22, h4, h⟩ := mBW_some h
        have a4 : mAv (wX4_judge l1A l2A) V V22 := mAv.tr mAv.rf (NX7_judgeFlow h4) (fun i z => by unfold wX7_judgeFlow at z; unfold wX4_judge; omega)
        obtain ⟨_, rfl⟩ := mRW h
        exact a4
    · rcases mIf_some h with ⟨_, h⟩ | ⟨_, h⟩
      · rcases mIf_some h with ⟨_, h⟩ | ⟨_, h⟩
        · obtain ⟨v28, V29, h5, h⟩ := mBW_some h
          have a5 : mAv (wX4_judge l1A l2A) V V29 := mAv.tr mAv.rf (NX2_judgeCore h5) (fun i z => by unfold wX2_judgeCore at z; unfold wX4_judge; omega)
          obtain ⟨_, rfl⟩ := mRW h
          exact a5
        · obtain ⟨v33, V34, h6, h⟩ := mBW_some h
          have a6 : mAv (wX4_judge l1A l2A) V V34 := mAv.tr mAv.rf (NX2_judgeDrawing h6) (fun i z => by unfold wX2_judgeDrawing at z; unfold wX4_judge; omega)
          obtain ⟨_, rfl⟩ := mRW h
          exact a6
      · rcases mIf_some h with ⟨_, h⟩ | ⟨_, h⟩
        · rcases mIf_some h with ⟨_, h⟩ | ⟨_, h⟩
          · obtain ⟨v40, _, h⟩ := mBN_some h
            obtain ⟨_, rfl⟩ := mRW h
            exact mAv.rf
          · obtain ⟨v45, _, h⟩ := mBN_some h
            obtain ⟨_, rfl⟩ := mRW h
            exact mAv.rf
        · rcases mIf_some h with ⟨_, h⟩ | ⟨_, h⟩
          · rcases mIf_some h with ⟨_, h⟩ | ⟨_, h⟩
            · obtain ⟨v52, V53, h7, h⟩ := mBW_some h
              have a7 : mAv (wX4_judge l1A l2A) V V53 := mAv.tr mAv.rf (NX1_judgeTree h7) (fun i z => by unfold wX1_judgeTree at z; unfold wX4_judge; omega)
              obtain ⟨_, rfl⟩ := mRW h
              exact a7
            · obtain ⟨v57, V58, h8, h⟩ := mBW_some h
              have a8 : mAv (wX4_judge l1A l2A) V V58 := mAv.tr mAv.rf (NX1_judgeTruths h8) (fun i z => by unfold wX1_judgeTruths at z; unfold wX4_judge; omega)
              obtain ⟨_, rfl⟩ := mRW h
              exact a8
          · rcases mIf_some h with ⟨_, h⟩ | ⟨_, h⟩
            · rcases mIf_some h with ⟨_, h⟩ | ⟨_, h⟩
              · obtain ⟨v64, _, h⟩ := mBN_some h
                obtain ⟨_, rfl⟩ := mRW h
                exact mAv.rf
              · obtain ⟨v69, _, h⟩ := mBN_some h
                obtain ⟨_, rfl⟩ := mRW h
                exact mAv.rf
            · rcases mIf_some h with ⟨_, h⟩ | ⟨_, h⟩
              · rcases mIf_some h with ⟨_, h⟩ | ⟨_, h⟩
                · obtain ⟨v76, _, h⟩ := mBN_some h
                  obtain ⟨_, rfl⟩ := mRW h
                  exact mAv.rf
                · obtain ⟨v81, _, h⟩ := mBN_some h
                  obtain ⟨_, rfl⟩ := mRW h
                  exact mAv.rf
              · rcases mIf_some h with ⟨_, h⟩ | ⟨_, h⟩
                · rcases mIf_some h with ⟨_, h⟩ | ⟨_, h⟩
                  · obtain ⟨v88, V89, h9, h⟩ := mBW_some h
                    have a9 : mAv (wX4_judge l1A l2A) V V89 := mAv.tr mAv.rf (NX8_judgeSigns h9) (fun i z => by unfold wX8_judgeSigns at z; unfold wX4_judge; omega)
                    obtain ⟨_, rfl⟩ := mRW h
                    exact a9
                  · obtain ⟨v93, V94, h10, h⟩ := mBW_some h
                    have a10 : mAv (wX4_judge l1A l2A) V V94 := mAv.tr mAv.rf (NX8_judgeParts h10) (fun i z => by unfold wX8_judgeParts at z; unfold wX4_judge; omega)
                    obtain ⟨_, rfl⟩ := mRW h
                    exact a10
                · rcases mIf_some h with ⟨_, h⟩ | ⟨_, h⟩
                  · rcases mIf_some h with ⟨_, h⟩ | ⟨_, h⟩
                    · obtain ⟨v100, V101, h11, h⟩ := mBW_some h
                      have a11 : mAv (wX4_judge l1A l2A) V V101 := mAv.tr mAv.rf (NX10_judgeRows h11) (fun i z => by unfold wX10_judgeRows at z; unfold wX4_judge; omega)
                      obtain ⟨_, rfl⟩ := mRW h
                      exact a11
                    · obtain ⟨v105, V106, h12, h⟩ := mBW_some h
                      have a12 : mAv (wX4_judge l1A l2A) V V106 := mAv.tr mAv.rf (NX10_judgeItems h12) (fun i z => by unfold wX10_judgeItems at z; unfold wX4_judge; omega)
                      obtain ⟨_, rfl⟩ := mRW h
                      exact a12
                  · rcases mIf_some h with ⟨_, h⟩ | ⟨_, h⟩
                    · rcases mIf_some h with ⟨_, h⟩ | ⟨_, h⟩
                      · obtain ⟨v112, V113, h13, h⟩ := mBW_some h
                        have a13 : mAv (wX4_judge l1A l2A) V V113 := mAv.tr mAv.rf (NX10_judgeClosure h13) (fun i z => by unfold wX10_judgeClosure at z; unfold wX4_judge; omega)
                        obtain ⟨_, rfl⟩ := mRW h
                        exact a13
                      · obtain ⟨v117, V118, h14, h⟩ := mBW_some h
                        have a14 : mAv (wX4_judge l1A l2A) V V118 := mAv.tr mAv.rf (NX10_judgeSteps h14) (fun i z => by unfold wX10_judgeSteps at z; unfold wX4_judge; omega)
                        obtain ⟨_, rfl⟩ := mRW h
                        exact a14
                    · rcases mIf_some h with ⟨_, h⟩ | ⟨_, h⟩
                      · rcases mIf_some h with ⟨_, h⟩ | ⟨_, h⟩
                        · obtain ⟨v124, V125, h15, h⟩ := mBW_some h
                          have a15 : mAv (wX4_judge l1A l2A) V V125 := mAv.tr mAv.rf (NX6_judgeLetters h15) (fun i z => by unfold wX6_judgeLetters at z; unfold wX4_judge; omega)
                          obtain ⟨_, rfl⟩ := mRW h
                          exact a15
                        · obtain ⟨v129, V130, h16, h⟩ := mBW_some h
                          have a16 : mAv (wX4_judge l1A l2A) V V130 := mAv.tr mAv.rf (NX6_judgeLikeness h16) (fun i z => by unfold wX6_judgeLikeness at z; unfold wX4_judge; omega)
                          obtain ⟨_, rfl⟩ := mRW h
                          exact a16
                      · rcases mIf_some h with ⟨_, h⟩ | ⟨_, h⟩
                        · obtain ⟨v135, V136, h17, h⟩ := mBW_some h
                          have a17 : mAv (wX4_judge l1A l2A) V V136 := mAv.tr mAv.rf (NX6_judgeGame h17) (fun i z => by unfold wX6_judgeGame at z; unfold wX4_judge; omega)
                          obtain ⟨_, rfl⟩ := mRW h
                          exact a17
                        · obtain ⟨v140, V141, h18, h⟩ := mBW_some h
                          have a18 : mAv (wX4_judge l1A l2A) V V141 := mAv.tr mAv.rf (NX6_judgeGame h18) (fun i z => by unfold wX6_judgeGame at z; unfold wX4_judge; omega)
                          obtain ⟨_, rfl⟩ := mRW h
                          exact a18
def wX8_solveRoots (l1A : Nat) (i : Nat) : Prop := i = 6 ∨ (62 ≤ i ∧ i ≤ 69) ∨ i = 3000 ∨ i = l1A ∨ i = l1A + 2 ∨ i = l1A + 3
def wX8_solveRoots_0 (l1A : Nat) (i : Nat) : Prop := i = 3000 ∨ i = l1A + 2 ∨ i = l1A + 3
set_option maxHeartbeats 4000000 in
theorem NX8_solveRoots_go {F : Nat} {v : Unit} {Ln1 : Nat → Nat} {V1 : mV} : ∀ k' : Nat, (∀ (l1A : Nat) (l4I : Int32) (Ln : Nat → Nat) (V : mV), mX8_solveRoots_go F k' 0 Ln l1A l4I V = some (v, Ln1, V1) → mAv (wX8_solveRoots_0 l1A) V V1 ∧ mAl (wX8_solveRoots_0 l1A) Ln Ln1) := by
  intro k'
  induction k' with
  | zero => exact (fun _ _ _ _ h => by cases h)
  | succ k' ih =>
    intro l1A l4I Ln V h
    rw [mX8_solveRoots_go, if_pos rfl] at h
    unfold mX8_solveRoots_b0 at h
    rcases mIf_some h with ⟨_, h⟩ | ⟨_, h⟩
    · obtain ⟨_, rfl, rfl⟩ := mRA3 h
      exact ⟨mAv.rf, mAl.rf⟩
    · obtain ⟨v2, _, h⟩ := mBN_some h
      obtain ⟨v7, L8, V8, h1, h⟩ := mBA_some h
      have y1 := NX9_add h1
      have a1 : mAv (wX8_solveRoots_0 l1A) V V8 := mAv.tr mAv.rf y1.1 (fun i z => by unfold wX9_add at z; unfold wX8_solveRoots_0; omega)
      have b1 : mAl (wX8_solveRoots_0 l1A) Ln L8 := mAl.tr mAl.rf y1.2 (fun i z => by unfold wX9_add at z; unfold wX8_solveRoots_0; omega)
      obtain ⟨x12, _, h⟩ := mLt_some h
      have y := ih _ _ _ _ h
      exact ⟨mAv.tr a1 y.1 (fun i z => by unfold wX8_solveRoots_0 at z; unfold wX8_solveRoots_0; omega), mAl.tr b1 y.2 (fun i z => by unfold wX8_solveRoots_0 at z; unfold wX8_solveRoots_0; omega)⟩
set_option maxHeartbeats 4000000 in
theorem NX8_solveRoots {F : Nat} {Ln Ln1 : Nat → Nat} {V V1 : mV} {v : Unit} {l1A : Nat} (h : mX8_solveRoots F Ln l1A V = some (v, Ln1, V1)) : mAv (wX8_solveRoots l1A) V V1 ∧ mAl (wX8_solveRoots l1A) Ln Ln1 := by
  have ih := NX8_solveRoots_go (F := F) (v := v) (Ln1 := Ln1) (V1 := V1) F
  unfold mX8_solveRoots mX8_solveRoots_s at h
  obtain ⟨v13, V14, h2, h⟩ := mBW_some h
  have a2 : mAv (wX8_solveRoots l1A) V V14 := mAv.tr mAv.rf (NX8_buildChain h2) (fun i z => by unfold wX8_buildChain at z; unfold wX8_solveRoots; omega)
  obtain ⟨v18, _, h⟩ := mBN_some h
  rcases mIf_some h with ⟨_, h⟩ | ⟨_, h⟩
  · obtain ⟨v24, V25, h3, h⟩ := mBW_some h
    have a3 : mAv (wX8_solveRoots l1A) V V25 := mAv.tr a2 (NX3_tell h3) (fun i z => by unfold wX3_tell at z; unfold wX8_solveRoots; omega)
    have y := ih _ _ _ _ h
    exact ⟨mAv.tr a3 y.1 (fun i z => by unfold wX8_solveRoots_0 at z; unfold wX8_solveRoots; omega), mAl.tr mAl.rf y.2 (fun i z => by unfold wX8_solveRoots_0 at z; unfold wX8_solveRoots; omega)⟩
  · obtain ⟨v29, V30, h4, h⟩ := mBW_some h
    have a4 : mAv (wX8_solveRoots l1A) V V30 := mAv.tr a2 (NX3_tell h4) (fun i z => by unfold wX3_tell at z; unfold wX8_solveRoots; omega)
    obtain ⟨v34, L35, V35, h5, h⟩ := mBA_some h
    have y5 := NX8_writeParts h5
    have a5 : mAv (wX8_solveRoots l1A) V V35 := mAv.tr a4 y5.1 (fun i z => by unfold wX8_writeParts at z; unfold wX8_solveRoots; omega)
    have b5 : mAl (wX8_solveRoots l1A) Ln L35 := mAl.tr mAl.rf y5.2 (fun i z => by unfold wX8_writeParts at z; unfold wX8_solveRoots; omega)
    obtain ⟨_, rfl, rfl⟩ := mRA3 h
    exact ⟨a5, b5⟩
def wX11_settleClaims (i : Nat) : Prop := i = 0 ∨ (2 ≤ i ∧ i ≤ 3) ∨ (5 ≤ i ∧ i ≤ 9) ∨ i = 17 ∨ i = 19 ∨ (21 ≤ i ∧ i ≤ 23) ∨ (26 ≤ i ∧ i ≤ 34) ∨ (52 ≤ i ∧ i ≤ 53) ∨ (62 ≤ i ∧ i ≤ 69) ∨ (71 ≤ i ∧ i ≤ 78) ∨ (83 ≤ i ∧ i ≤ 86) ∨ (88 ≤ i ∧ i ≤ 90) ∨ i = 3000
def wX11_settleClaims_0 (i : Nat) : Prop := i = 0 ∨ (2 ≤ i ∧ i ≤ 3) ∨ (5 ≤ i ∧ i ≤ 9) ∨ i = 17 ∨ i = 19 ∨ (21 ≤ i ∧ i ≤ 23) ∨ (26 ≤ i ∧ i ≤ 34) ∨ (52 ≤ i ∧ i ≤ 53) ∨ (62 ≤ i ∧ i ≤ 69) ∨ (71 ≤ i ∧ i ≤ 78) ∨ (83 ≤ i ∧ i ≤ 86) ∨ (88 ≤ i ∧ i ≤ 90) ∨ i = 3000
set_option maxHeartbeats 4000000 in
theorem NX11_settleClaims_go {F : Nat} {v : Unit} {Ln1 : Nat → Nat} {V1 : mV} : ∀ k' : Nat, (∀ (l1I : Int32) (l2I : Int32) (l3I : Int32) (Ln : Nat → Nat) (V : mV), mX11_settleClaims_go F k' 0 Ln l1I l2I l3I V = some (v, Ln1, V1) → mAv (wX11_settleClaims_0) V V1 ∧ mAl (wX11_settleClaims_0) Ln Ln1) := by
  intro k'
  induction k' with
  | zero => exact (fun _ _ _ _ _ h => by cases h)
  | succ k' ih =>
    intro l1I l2I l3I Ln V h
    rw [mX11_settleClaims_go, if_pos rfl] at h
    unfold mX11_settleClaims_b0 at h
    rcases mIf_some h with ⟨_, h⟩ | ⟨_, h⟩
    · obtain ⟨_, rfl, rfl⟩ := mRA3 h
      exact ⟨mAv.rf, mAl.rf⟩
    · rcases mIf_some h with ⟨_, h⟩ | ⟨_, h⟩
      · obtain ⟨_, rfl, rfl⟩ := mRA3 h
        exact ⟨mAv.rf, mAl.rf⟩
      · obtain ⟨c1, h⟩ := mGd_some h
        rcases mIf_some h with ⟨_, h⟩ | ⟨_, h⟩
        · obtain ⟨c2, h⟩ := mGd_some h
          obtain ⟨c3, h⟩ := mGd_some h
          obtain ⟨c4, h⟩ := mGd_some h
          obtain ⟨v14, V15, h5, h⟩ := mBW_some h
          have z5_0 := (Nat.lt_of_not_le (fun z => c2 (Or.inr z)))
          have a5 : mAv (wX11_settleClaims_0) V V15 := mAv.tr mAv.rf (NX4_judge h5) (fun i z => by unfold wX4_judge at z; unfold wX11_settleClaims_0; omega)
          rcases mIf_some h with ⟨_, h⟩ | ⟨_, h⟩
          · obtain ⟨x20, _, h⟩ := mLt_some h
            obtain ⟨x21, _, h⟩ := mLt_some h
            have y := ih _ _ _ _ _ h
            exact ⟨mAv.tr a5 y.1 (fun i z => by unfold wX11_settleClaims_0 at z; unfold wX11_settleClaims_0; omega), mAl.tr mAl.rf y.2 (fun i z => by unfold wX11_settleClaims_0 at z; unfold wX11_settleClaims_0; omega)⟩
          · obtain ⟨v22, L23, V23, h6, h⟩ := mBA_some h
            have y6 := NX11_addError h6
            have a6 : mAv (wX11_settleClaims_0) V V23 := mAv.tr a5 y6.1 (fun i z => by unfold wX11_addError at z; unfold wX11_settleClaims_0; omega)
            have b6 : mAl (wX11_settleClaims_0) Ln L23 := mAl.tr mAl.rf y6.2 (fun i z => by unfold wX11_addError at z; unfold wX11_settleClaims_0; omega)
            obtain ⟨v27, V28, h7, h⟩ := mBW_some h
            have a7 : mAv (wX11_settleClaims_0) V V28 := mAv.tr a6 (NX11_removeClaim h7) (fun i z => by unfold wX11_removeClaim at z; unfold wX11_settleClaims_0; omega)
            obtain ⟨x32, _, h⟩ := mLt_some h
            have y := ih _ _ _ _ _ h
            exact ⟨mAv.tr a7 y.1 (fun i z => by unfold wX11_settleClaims_0 at z; unfold wX11_settleClaims_0; omega), mAl.tr b6 y.2 (fun i z => by unfold wX11_settleClaims_0 at z; unfold wX11_settleClaims_0; omega)⟩
        · obtain ⟨x6, _, h⟩ := mLt_some h
          obtain ⟨x7, _, h⟩ := mLt_some h
          have y := ih _ _ _ _ _ h
          exact ⟨mAv.tr mAv.rf y.1 (fun i z => by unfold wX11_settleClaims_0 at z; unfold wX11_settleClaims_0; omega), mAl.tr mAl.rf y.2 (fun i z => by unfold wX11_settleClaims_0 at z; unfold wX11_settleClaims_0; omega)⟩
set_option maxHeartbeats 4000000 in
theorem NX11_settleClaims {F : Nat} {Ln Ln1 : Nat → Nat} {V V1 : mV} {v : Unit} {l1I : Int32} (h : mX11_settleClaims F Ln l1I V = some (v, Ln1, V1)) : mAv (wX11_settleClaims) V V1 ∧ mAl (wX11_settleClaims) Ln Ln1 := by
  have ih := NX11_settleClaims_go (F := F) (v := v) (Ln1 := Ln1) (V1 := V1) F
  unfold mX11_settleClaims mX11_settleClaims_s at h
  have y := ih _ _ _ _ _ h
  exact ⟨mAv.tr mAv.rf y.1 (fun i z => by unfold wX11_settleClaims_0 at z; unfold wX11_settleClaims; omega), mAl.tr mAl.rf y.2 (fun i z => by unfold wX11_settleClaims_0 at z; unfold wX11_settleClaims; omega)⟩
def wX11_isSoundEntry (l1A : Nat) (i : Nat) : Prop := (2 ≤ i ∧ i ≤ 3) ∨ (5 ≤ i ∧ i ≤ 8) ∨ (18 ≤ i ∧ i ≤ 19) ∨ (21 ≤ i ∧ i ≤ 23) ∨ (26 ≤ i ∧ i ≤ 34) ∨ (52 ≤ i ∧ i ≤ 53) ∨ (62 ≤ i ∧ i ≤ 69) ∨ (71 ≤ i ∧ i ≤ 78) ∨ (83 ≤ i ∧ i ≤ 86) ∨ (88 ≤ i ∧ i ≤ 90) ∨ (544 ≤ i ∧ i ≤ 545)
set_option maxHeartbeats 4000000 in
theorem NX11_isSoundEntry {F : Nat} {Ln : Nat → Nat} {V V1 : mV} {v : Int32} {l1A : Nat} (h : mX11_isSoundEntry F Ln l1A V = some (v, V1)) : mAv (wX11_isSoundEntry l1A) V V1 := by
  unfold mX11_isSoundEntry at h
  rcases mIf_some h with ⟨_, h⟩ | ⟨_, h⟩
  · obtain ⟨v17, V18, h1, h⟩ := mBW_some h
    have a1 : mAv (wX11_isSoundEntry l1A) V V18 := mAv.tr mAv.rf (NX4_judge h1) (fun i z => by unfold wX4_judge at z; unfold wX11_isSoundEntry; omega)
    rcases mIf_some h with ⟨_, h⟩ | ⟨_, h⟩
    · obtain ⟨v23, V24, h2, h⟩ := mBW_some h
      have a2 : mAv (wX11_isSoundEntry l1A) V V24 := mAv.tr a1 (NX11_wouldBeCarriedSo h2) (fun i z => by unfold wX11_wouldBeCarriedSo at z; unfold wX11_isSoundEntry; omega)
      rcases mIf_some h with ⟨_, h⟩ | ⟨_, h⟩
      · obtain ⟨_, rfl⟩ := mRW h
        exact a2
      · obtain ⟨c3, h⟩ := mGd_some h
        rcases mIf_some h with ⟨_, h⟩ | ⟨_, h⟩
        · obtain ⟨_, rfl⟩ := mRW h
          exact a2
        · obtain ⟨_, rfl⟩ := mRW h
          exact a2
    · obtain ⟨_, rfl⟩ := mRW h
      exact a1
  · obtain ⟨v2, V3, h4, h⟩ := mBW_some h
    have a4 : mAv (wX11_isSoundEntry l1A) V V3 := mAv.tr mAv.rf (NX4_judge h4) (fun i z => by unfold wX4_judge at z; unfold wX11_isSoundEntry; omega)
    rcases mIf_some h with ⟨_, h⟩ | ⟨_, h⟩
    · obtain ⟨v8, V9, h5, h⟩ := mBW_some h
      have a5 : mAv (wX11_isSoundEntry l1A) V V9 := mAv.tr a4 (NX11_wouldBeCarriedSo h5) (fun i z => by unfold wX11_wouldBeCarriedSo at z; unfold wX11_isSoundEntry; omega)
      rcases mIf_some h with ⟨_, h⟩ | ⟨_, h⟩
      · obtain ⟨_, rfl⟩ := mRW h
        exact a5
      · obtain ⟨c6, h⟩ := mGd_some h
        rcases mIf_some h with ⟨_, h⟩ | ⟨_, h⟩
        · obtain ⟨_, rfl⟩ := mRW h
          exact a5
        · obtain ⟨_, rfl⟩ := mRW h
          exact a5
    · obtain ⟨_, rfl⟩ := mRW h
      exact a4
def wX11_isUnsoundClaim (l1A : Nat) (i : Nat) : Prop := (2 ≤ i ∧ i ≤ 3) ∨ (5 ≤ i ∧ i ≤ 8) ∨ i = 19 ∨ (21 ≤ i ∧ i ≤ 23) ∨ (26 ≤ i ∧ i ≤ 34) ∨ (52 ≤ i ∧ i ≤ 53) ∨ (62 ≤ i ∧ i ≤ 69) ∨ (71 ≤ i ∧ i ≤ 78) ∨ (83 ≤ i ∧ i ≤ 86) ∨ (88 ≤ i ∧ i ≤ 90)
def wX11_isUnsoundClaim_0 (l1A : Nat) (l2A : Nat) (i : Nat) : Prop := (2 ≤ i ∧ i ≤ 3) ∨ (5 ≤ i ∧ i ≤ 8) ∨ i = 19 ∨ (21 ≤ i ∧ i ≤ 23) ∨ (26 ≤ i ∧ i ≤ 34) ∨ (52 ≤ i ∧ i ≤ 53) ∨ (62 ≤ i ∧ i ≤ 69) ∨ (71 ≤ i ∧ i ≤ 78) ∨ (83 ≤ i ∧ i ≤ 86) ∨ (88 ≤ i ∧ i ≤ 90)
set_option maxHeartbeats 4000000 in
theorem NX11_isUnsoundClaim_go {F : Nat} {v : Int32} {V1 : mV} : ∀ k' : Nat, (∀ (l1A : Nat) (l2A : Nat) (s0I : Int32) (s1I : Int32) (Ln : Nat → Nat) (V : mV), mX11_isUnsoundClaim_go F k' 0 Ln l1A l2A s0I s1I V = some (v, V1) → mAv (wX11_isUnsoundClaim_0 l1A l2A) V V1) := by
  intro k'
  induction k' with
  | zero => exact (fun _ _ _ _ _ _ h => by cases h)
  | succ k' ih =>
    intro l1A l2A s0I s1I Ln V h
    rw [mX11_isUnsoundClaim_go, if_pos rfl] at h
    unfold mX11_isUnsoundClaim_b0 at h
    rcases mIf_some h with ⟨_, h⟩ | ⟨_, h⟩
    · obtain ⟨_, rfl⟩ := mRW h
      exact mAv.rf
    · obtain ⟨v2, V3, h1, h⟩ := mBW_some h
      have a1 : mAv (wX11_isUnsoundClaim_0 l1A l2A) V V3 := mAv.tr mAv.rf (NX4_judge h1) (fun i z => by unfold wX4_judge at z; unfold wX11_isUnsoundClaim_0; omega)
      rcases mIf_some h with ⟨_, h⟩ | ⟨_, h⟩
      · obtain ⟨_, rfl⟩ := mRW h
        exact a1
      · obtain ⟨_, rfl⟩ := mRW h
        exact a1
set_option maxHeartbeats 4000000 in
theorem NX11_isUnsoundClaim {F : Nat} {Ln : Nat → Nat} {V V1 : mV} {v : Int32} {l1A : Nat} (h : mX11_isUnsoundClaim F Ln l1A V = some (v, V1)) : mAv (wX11_isUnsoundClaim l1A) V V1 := by
  have ih := NX11_isUnsoundClaim_go (F := F) (v := v) (V1 := V1) F
  unfold mX11_isUnsoundClaim mX11_isUnsoundClaim_s at h
  obtain ⟨c2, h⟩ := mGd_some h
  rcases mIf_some h with ⟨_, h⟩ | ⟨_, h⟩
  · exact mAv.tr mAv.rf (ih _ _ _ _ _ _ h) (fun i z => by unfold wX11_isUnsoundClaim_0 at z; unfold wX11_isUnsoundClaim; omega)
  · exact mAv.tr mAv.rf (ih _ _ _ _ _ _ h) (fun i z => by unfold wX11_isUnsoundClaim_0 at z; unfold wX11_isUnsoundClaim; omega)
def wX4_solve (l1A : Nat) (i : Nat) : Prop := (2 ≤ i ∧ i ≤ 8) ∨ (19 ≤ i ∧ i ≤ 25) ∨ (27 ≤ i ∧ i ≤ 33) ∨ (36 ≤ i ∧ i ≤ 54) ∨ (56 ≤ i ∧ i ≤ 60) ∨ (62 ≤ i ∧ i ≤ 69) ∨ (71 ≤ i ∧ i ≤ 90) ∨ i = 3000 ∨ i = l1A ∨ i = l1A + 2 ∨ i = l1A + 3
set_option maxHeartbeats 4000000 in
theorem NX4_solve {F : Nat} {Ln Ln1 : Nat → Nat} {V V1 : mV} {v : Unit} {l1A : Nat} (h : mX4_solve F Ln l1A V = some (v, Ln1, V1)) : mAv (wX4_solve l1A) V V1 ∧ mAl (wX4_solve l1A) Ln Ln1 := by
  unfold mX4_solve at h
  obtain ⟨v1, V2, h1, h⟩ := mBW_some h
  have a1 : mAv (wX4_solve l1A) V V2 := mAv.tr mAv.rf (NX9_clear h1) (fun i z => by unfold wX9_clear at z; unfold wX4_solve; omega)
  rcases mIf_some h with ⟨_, h⟩ | ⟨_, h⟩
  · obtain ⟨v8, L9, V9, h2, h⟩ := mBA_some h
    have y2 := NX7_solvePairings h2
    have a2 : mAv (wX4_solve l1A) V V9 := mAv.tr a1 y2.1 (fun i z => by unfold wX7_solvePairings at z; unfold wX4_solve; omega)
    have b2 : mAl (wX4_solve l1A) Ln L9 := mAl.tr mAl.rf y2.2 (fun i z => by unfold wX7_solvePairings at z; unfold wX4_solve; omega)
    obtain ⟨V13, eV13, h⟩ := mLt_some h
    have a3 : mAv (wX4_solve l1A) V V13 := by rw [eV13]; exact mAv.F a2 (by unfold wX4_solve; omega)
    obtain ⟨V14, eV14, h⟩ := mLt_some h
    have a4 : mAv (wX4_solve l1A) V V14 := by rw [eV14]; exact mAv.F a3 (by unfold wX4_solve; omega)
    obtain ⟨_, rfl, rfl⟩ := mRA3 h
    exact ⟨a4, b2⟩
  · rcases mIf_some h with ⟨_, h⟩ | ⟨_, h⟩
    · obtain ⟨v16, L17, V17, h5, h⟩ := mBA_some h
      have y5 := NX7_solveFlows h5
      have a5 : mAv (wX4_solve l1A) V V17 := mAv.tr a1 y5.1 (fun i z => by unfold wX7_solveFlows at z; unfold wX4_solve; omega)
      have b5 : mAl (wX4_solve l1A) Ln L17 := mAl.tr mAl.rf y5.2 (fun i z => by unfold wX7_solveFlows at z; unfold wX4_solve; omega)
      obtain ⟨V21, eV21, h⟩ := mLt_some h
      have a6 : mAv (wX4_solve l1A) V V21 := by rw [eV21]; exact mAv.F a5 (by unfold wX4_solve; omega)
      obtain ⟨V22, eV22, h⟩ := mLt_some h
      have a7 : mAv (wX4_solve l1A) V V22 := by rw [eV22]; exact mAv.F a6 (by unfold wX4_solve; omega)
      obtain ⟨_, rfl, rfl⟩ := mRA3 h
      exact ⟨a7, b5⟩
    · rcases mIf_some h with ⟨_, h⟩ | ⟨_, h⟩
      · obtain ⟨v24, L25, V25, h8, h⟩ := mBA_some h
        have y8 := NX2_solve h8
        have a8 : mAv (wX4_solve l1A) V V25 := mAv.tr a1 y8.1 (fun i z => by unfold wX2_solve at z; unfold wX4_solve; omega)
        have b8 : mAl (wX4_solve l1A) Ln L25 := mAl.tr mAl.rf y8.2 (fun i z => by unfold wX2_solve at z; unfold wX4_solve; omega)
        obtain ⟨V29, eV29, h⟩ := mLt_some h
        have a9 : mAv (wX4_solve l1A) V V29 := by rw [eV29]; exact mAv.F a8 (by unfold wX4_solve; omega)
        obtain ⟨V30, eV30, h⟩ := mLt_some h
        have a10 : mAv (wX4_solve l1A) V V30 := by rw [eV30]; exact mAv.F a9 (by unfold wX4_solve; omega)
        obtain ⟨_, rfl, rfl⟩ := mRA3 h
        exact ⟨a10, b8⟩
      · rcases mIf_some h with ⟨_, h⟩ | ⟨_, h⟩
        · obtain ⟨v32, L33, V33, h11, h⟩ := mBA_some h
          have y11 := NX5_solve h11
          have a11 : mAv (wX4_solve l1A) V V33 := mAv.tr a1 y11.1 (fun i z => by unfold wX5_solve at z; unfold wX4_solve; omega)
          have b11 : mAl (wX4_solve l1A) Ln L33 := mAl.tr mAl.rf y11.2 (fun i z => by unfold wX5_solve at z; unfold wX4_solve; omega)
          obtain ⟨V37, eV37, h⟩ := mLt_some h
          have a12 : mAv (wX4_solve l1A) V V37 := by rw [eV37]; exact mAv.F a11 (by unfold wX4_solve; omega)
          obtain ⟨V38, eV38, h⟩ := mLt_some h
          have a13 : mAv (wX4_solve l1A) V V38 := by rw [eV38]; exact mAv.F a12 (by unfold wX4_solve; omega)
          obtain ⟨_, rfl, rfl⟩ := mRA3 h
          exact ⟨a13, b11⟩
        · rcases mIf_some h with ⟨_, h⟩ | ⟨_, h⟩
          · obtain ⟨v40, L41, V41, h14, h⟩ := mBA_some h
            have y14 := NX1_solve h14
            have a14 : mAv (wX4_solve l1A) V V41 := mAv.tr a1 y14.1 (fun i z => by unfold wX1_solve at z; unfold wX4_solve; omega)
            have b14 : mAl (wX4_solve l1A) Ln L41 := mAl.tr mAl.rf y14.2 (fun i z => by unfold wX1_solve at z; unfold wX4_solve; omega)
            obtain ⟨V45, eV45, h⟩ := mLt_some h
            have a15 : mAv (wX4_solve l1A) V V45 := by rw [eV45]; exact mAv.F a14 (by unfold wX4_solve; omega)
            obtain ⟨V46, eV46, h⟩ := mLt_some h
            have a16 : mAv (wX4_solve l1A) V V46 := by rw [eV46]; exact mAv.F a15 (by unfold wX4_solve; omega)
            obtain ⟨_, rfl, rfl⟩ := mRA3 h
            exact ⟨a16, b14⟩
          · rcases mIf_some h with ⟨_, h⟩ | ⟨_, h⟩
            · obtain ⟨v48, L49, V49, h17, h⟩ := mBA_some h
              have y17 := NX8_solveEquations h17
              have a17 : mAv (wX4_solve l1A) V V49 := mAv.tr a1 y17.1 (fun i z => by unfold wX8_solveEquations at z; unfold wX4_solve; omega)
              have b17 : mAl (wX4_solve l1A) Ln L49 := mAl.tr mAl.rf y17.2 (fun i z => by unfold wX8_solveEquations at z; unfold wX4_solve; omega)
              obtain ⟨V53, eV53, h⟩ := mLt_some h
              have a18 : mAv (wX4_solve l1A) V V53 := by rw [eV53]; exact mAv.F a17 (by unfold wX4_solve; omega)
              obtain ⟨V54, eV54, h⟩ := mLt_some h
              have a19 : mAv (wX4_solve l1A) V V54 := by rw [eV54]; exact mAv.F a18 (by unfold wX4_solve; omega)
              obtain ⟨_, rfl, rfl⟩ := mRA3 h
              exact ⟨a19, b17⟩
            · rcases mIf_some h with ⟨_, h⟩ | ⟨_, h⟩
              · obtain ⟨v56, L57, V57, h20, h⟩ := mBA_some h
                have y20 := NX8_solvePrimes h20
                have a20 : mAv (wX4_solve l1A) V V57 := mAv.tr a1 y20.1 (fun i z => by unfold wX8_solvePrimes at z; unfold wX4_solve; omega)
                have b20 : mAl (wX4_solve l1A) Ln L57 := mAl.tr mAl.rf y20.2 (fun i z => by unfold wX8_solvePrimes at z; unfold wX4_solve; omega)
                obtain ⟨V61, eV61, h⟩ := mLt_some h
                have a21 : mAv (wX4_solve l1A) V V61 := by rw [eV61]; exact mAv.F a20 (by unfold wX4_solve; omega)
                obtain ⟨V62, eV62, h⟩ := mLt_some h
                have a22 : mAv (wX4_solve l1A) V V62 := by rw [eV62]; exact mAv.F a21 (by unfold wX4_solve; omega)
                obtain ⟨_, rfl, rfl⟩ := mRA3 h
                exact ⟨a22, b20⟩
              · rcases mIf_some h with ⟨_, h⟩ | ⟨_, h⟩
                · obtain ⟨v64, L65, V65, h23, h⟩ := mBA_some h
                  have y23 := NX8_solveRoots h23
                  have a23 : mAv (wX4_solve l1A) V V65 := mAv.tr a1 y23.1 (fun i z => by unfold wX8_solveRoots at z; unfold wX4_solve; omega)
                  have b23 : mAl (wX4_solve l1A) Ln L65 := mAl.tr mAl.rf y23.2 (fun i z => by unfold wX8_solveRoots at z; unfold wX4_solve; omega)
                  obtain ⟨V69, eV69, h⟩ := mLt_some h
                  have a24 : mAv (wX4_solve l1A) V V69 := by rw [eV69]; exact mAv.F a23 (by unfold wX4_solve; omega)
                  obtain ⟨V70, eV70, h⟩ := mLt_some h
                  have a25 : mAv (wX4_solve l1A) V V70 := by rw [eV70]; exact mAv.F a24 (by unfold wX4_solve; omega)
                  obtain ⟨_, rfl, rfl⟩ := mRA3 h
                  exact ⟨a25, b23⟩
                · rcases mIf_some h with ⟨_, h⟩ | ⟨_, h⟩
                  · obtain ⟨v72, L73, V73, h26, h⟩ := mBA_some h
                    have y26 := NX10_solvePermutations h26
                    have a26 : mAv (wX4_solve l1A) V V73 := mAv.tr a1 y26.1 (fun i z => by unfold wX10_solvePermutations at z; unfold wX4_solve; omega)
                    have b26 : mAl (wX4_solve l1A) Ln L73 := mAl.tr mAl.rf y26.2 (fun i z => by unfold wX10_solvePermutations at z; unfold wX4_solve; omega)
                    obtain ⟨V77, eV77, h⟩ := mLt_some h
                    have a27 : mAv (wX4_solve l1A) V V77 := by rw [eV77]; exact mAv.F a26 (by unfold wX4_solve; omega)
                    obtain ⟨V78, eV78, h⟩ := mLt_some h
                    have a28 : mAv (wX4_solve l1A) V V78 := by rw [eV78]; exact mAv.F a27 (by unfold wX4_solve; omega)
                    obtain ⟨_, rfl, rfl⟩ := mRA3 h
                    exact ⟨a28, b26⟩
                  · rcases mIf_some h with ⟨_, h⟩ | ⟨_, h⟩
                    · obtain ⟨v80, L81, V81, h29, h⟩ := mBA_some h
                      have y29 := NX10_solveWords h29
                      have a29 : mAv (wX4_solve l1A) V V81 := mAv.tr a1 y29.1 (fun i z => by unfold wX10_solveWords at z; unfold wX4_solve; omega)
                      have b29 : mAl (wX4_solve l1A) Ln L81 := mAl.tr mAl.rf y29.2 (fun i z => by unfold wX10_solveWords at z; unfold wX4_solve; omega)
                      obtain ⟨V85, eV85, h⟩ := mLt_some h
                      have a30 : mAv (wX4_solve l1A) V V85 := by rw [eV85]; exact mAv.F a29 (by unfold wX4_solve; omega)
                      obtain ⟨V86, eV86, h⟩ := mLt_some h
                      have a31 : mAv (wX4_solve l1A) V V86 := by rw [eV86]; exact mAv.F a30 (by unfold wX4_solve; omega)
                      obtain ⟨_, rfl, rfl⟩ := mRA3 h
                      exact ⟨a31, b29⟩
                    · rcases mIf_some h with ⟨_, h⟩ | ⟨_, h⟩
                      · obtain ⟨v88, L89, V89, h32, h⟩ := mBA_some h
                        have y32 := NX6_solveMachines h32
                        have a32 : mAv (wX4_solve l1A) V V89 := mAv.tr a1 y32.1 (fun i z => by unfold wX6_solveMachines at z; unfold wX4_solve; omega)
                        have b32 : mAl (wX4_solve l1A) Ln L89 := mAl.tr mAl.rf y32.2 (fun i z => by unfold wX6_solveMachines at z; unfold wX4_solve; omega)
                        obtain ⟨V93, eV93, h⟩ := mLt_some h
                        have a33 : mAv (wX4_solve l1A) V V93 := by rw [eV93]; exact mAv.F a32 (by unfold wX4_solve; omega)
                        obtain ⟨V94, eV94, h⟩ := mLt_some h
                        have a34 : mAv (wX4_solve l1A) V V94 := by rw [eV94]; exact mAv.F a33 (by unfold wX4_solve; omega)
                        obtain ⟨_, rfl, rfl⟩ := mRA3 h
                        exact ⟨a34, b32⟩
                      · obtain ⟨v95, L96, V96, h35, h⟩ := mBA_some h
                        have y35 := NX6_solveGames h35
                        have a35 : mAv (wX4_solve l1A) V V96 := mAv.tr a1 y35.1 (fun i z => by unfold wX6_solveGames at z; unfold wX4_solve; omega)
                        have b35 : mAl (wX4_solve l1A) Ln L96 := mAl.tr mAl.rf y35.2 (fun i z => by unfold wX6_solveGames at z; unfold wX4_solve; omega)
                        obtain ⟨V100, eV100, h⟩ := mLt_some h
                        have a36 : mAv (wX4_solve l1A) V V100 := by rw [eV100]; exact mAv.F a35 (by unfold wX4_solve; omega)
                        obtain ⟨V101, eV101, h⟩ := mLt_some h
                        have a37 : mAv (wX4_solve l1A) V V101 := by rw [eV101]; exact mAv.F a36 (by unfold wX4_solve; omega)
                        obtain ⟨_, rfl, rfl⟩ := mRA3 h
                        exact ⟨a37, b35⟩
def wL_wipe (i : Nat) : Prop := i = 2048
set_option maxHeartbeats 4000000 in
theorem NL_wipe {G : wkG} {F : Nat} {V V1 : mV} {v : Int64} (h : mL_wipe G F V = some (v, V1)) : mAv (wL_wipe) V V1 := by
  unfold mL_wipe at h
  obtain ⟨v1, V2, h1, h⟩ := mBW_some h
  have a1 : mAv (wL_wipe) V V2 := mAv.tr mAv.rf (NX11_wipe h1) (fun i z => by unfold wX11_wipe at z; unfold wL_wipe; omega)
  obtain ⟨_, rfl⟩ := mRW h
  exact a1
end
