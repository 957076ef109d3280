/-! WHAT EACH METHOD LEAVES ALONE: X11_settleClaims, X11_isSoundEntry, X11_isUnsoundClaim, X4_solve, X11_refreshed, X11_setBound, X11_lean, X11_stand, X11_carry, X11_boundOf, X11_answer. -/
section
def wX11_settleClaims (i : Nat) : Prop := i = 0 ∨ (2 ≤ i ∧ i ≤ 3) ∨ (5 ≤ i ∧ i ≤ 9) ∨ i = 17 ∨ i = 19 ∨ (21 ≤ i ∧ i ≤ 23) ∨ (26 ≤ i ∧ i ≤ 34) ∨ (52 ≤ i ∧ i ≤ 53) ∨ (62 ≤ i ∧ i ≤ 69) ∨ (71 ≤ i ∧ i ≤ 78) ∨ (83 ≤ i ∧ i ≤ 86) ∨ (88 ≤ i ∧ i ≤ 90)
def wX11_settleClaims_0 (i : Nat) : Prop := i = 0 ∨ (2 ≤ i ∧ i ≤ 3) ∨ (5 ≤ i ∧ i ≤ 9) ∨ i = 17 ∨ i = 19 ∨ (21 ≤ i ∧ i ≤ 23) ∨ (26 ≤ i ∧ i ≤ 34) ∨ (52 ≤ i ∧ i ≤ 53) ∨ (62 ≤ i ∧ i ≤ 69) ∨ (71 ≤ i ∧ i ≤ 78) ∨ (83 ≤ i ∧ i ≤ 86) ∨ (88 ≤ i ∧ i ≤ 90)
set_option maxHeartbeats 4000000 in
theorem NX11_settleClaims_go {F : Nat} {v : Unit} {Ln1 : Nat → Nat} {V1 : mV} : ∀ k' : Nat, (∀ (l1I : Int32) (l2I : Int32) (l3I : Int32) (Ln : Nat → Nat) (V : mV), mX11_settleClaims_go F k' 0 Ln l1I l2I l3I V = some (v, Ln1, V1) → mAv (wX11_settleClaims_0) V V1 ∧ mAl (wX11_settleClaims_0) Ln Ln1) := by
  intro k'
  induction k' with
  | zero => exact (fun _ _ _ _ _ h => by cases h)
  | succ k' ih =>
    intro l1I l2I l3I Ln V h
    rw [mX11_settleClaims_go, if_pos rfl] at h
    unfold mX11_settleClaims_b0 at h
    rcases mIf_some h with ⟨_, h⟩ | ⟨_, h⟩
    · obtain ⟨_, rfl, rfl⟩ := mRA3 h
      exact ⟨mAv.rf, mAl.rf⟩
    · rcases mIf_some h with ⟨_, h⟩ | ⟨_, h⟩
      · obtain ⟨_, rfl, rfl⟩ := mRA3 h
        exact ⟨mAv.rf, mAl.rf⟩
      · obtain ⟨c1, h⟩ := mGd_some h
        rcases mIf_some h with ⟨_, h⟩ | ⟨_, h⟩
        · obtain ⟨c2, h⟩ := mGd_some h
          obtain ⟨c3, h⟩ := mGd_some h
          obtain ⟨c4, h⟩ := mGd_some h
          obtain ⟨v14, V15, h5, h⟩ := mBW_some h
          have z5_0 := (Nat.lt_of_not_le (fun z => c2 (Or.inr z)))
          have a5 : mAv (wX11_settleClaims_0) V V15 := mAv.tr mAv.rf (NX4_judge h5) (fun i z => by unfold wX4_judge at z; unfold wX11_settleClaims_0; omega)
          rcases mIf_some h with ⟨_, h⟩ | ⟨_, h⟩
          · obtain ⟨x20, _, h⟩ := mLt_some h
            obtain ⟨x21, _, h⟩ := mLt_some h
            have y := ih _ _ _ _ _ h
            exact ⟨mAv.tr a5 y.1 (fun i z => by unfold wX11_settleClaims_0 at z; unfold wX11_settleClaims_0; omega), mAl.tr mAl.rf y.2 (fun i z => by unfold wX11_settleClaims_0 at z; unfold wX11_settleClaims_0; omega)⟩
          · obtain ⟨v22, L23, V23, h6, h⟩ := mBA_some h
            have y6 := NX11_addError h6
            have a6 : mAv (wX11_settleClaims_0) V V23 := mAv.tr a5 y6.1 (fun i z => by unfold wX11_addError at z; unfold wX11_settleClaims_0; omega)
            have b6 : mAl (wX11_settleClaims_0) Ln L23 := mAl.tr mAl.rf y6.2 (fun i z => by unfold wX11_addError at z; unfold wX11_settleClaims_0; omega)
            obtain ⟨v27, V28, h7, h⟩ := mBW_some h
            have a7 : mAv (wX11_settleClaims_0) V V28 := mAv.tr a6 (NX11_removeClaim h7) (fun i z => by unfold wX11_removeClaim at z; unfold wX11_settleClaims_0; omega)
            obtain ⟨x32, _, h⟩ := mLt_some h
            have y := ih _ _ _ _ _ h
            exact ⟨mAv.tr a7 y.1 (fun i z => by unfold wX11_settleClaims_0 at z; unfold wX11_settleClaims_0; omega), mAl.tr b6 y.2 (fun i z => by unfold wX11_settleClaims_0 at z; unfold wX11_settleClaims_0; omega)⟩
        · obtain ⟨x6, _, h⟩ := mLt_some h
          obtain ⟨x7, _, h⟩ := mLt_some h
          have y := ih _ _ _ _ _ h
          exact ⟨mAv.tr mAv.rf y.1 (fun i z => by unfold wX11_settleClaims_0 at z; unfold wX11_settleClaims_0; omega), mAl.tr mAl.rf y.2 (fun i z => by unfold wX11_settleClaims_0 at z; unfold wX11_settleClaims_0; omega)⟩
set_option maxHeartbeats 4000000 in
theorem NX11_settleClaims {F : Nat} {Ln Ln1 : Nat → Nat} {V V1 : mV} {v : Unit} {l1I : Int32} (h : mX11_settleClaims F Ln l1I V = some (v, Ln1, V1)) : mAv (wX11_settleClaims) V V1 ∧ mAl (wX11_settleClaims) Ln Ln1 := by
  have ih := NX11_settleClaims_go (F := F) (v := v) (Ln1 := Ln1) (V1 := V1) F
  unfold mX11_settleClaims mX11_settleClaims_s at h
  have y := ih _ _ _ _ _ h
  exact ⟨mAv.tr mAv.rf y.1 (fun i z => by unfold wX11_settleClaims_0 at z; unfold wX11_settleClaims; omega), mAl.tr mAl.rf y.2 (fun i z => by unfold wX11_settleClaims_0 at z; unfold wX11_settleClaims; omega)⟩
def wX11_isSoundEntry (l1A : Nat) (i : Nat) : Prop := (2 ≤ i ∧ i ≤ 3) ∨ (5 ≤ i ∧ i ≤ 8) ∨ (18 ≤ i ∧ i ≤ 19) ∨ (21 ≤ i ∧ i ≤ 23) ∨ (26 ≤ i ∧ i ≤ 34) ∨ (52 ≤ i ∧ i ≤ 53) ∨ (62 ≤ i ∧ i ≤ 69) ∨ (71 ≤ i ∧ i ≤ 78) ∨ (83 ≤ i ∧ i ≤ 86) ∨ (88 ≤ i ∧ i ≤ 90) ∨ (544 ≤ i ∧ i ≤ 545)
set_option maxHeartbeats 4000000 in
theorem NX11_isSoundEntry {F : Nat} {Ln : Nat → Nat} {V V1 : mV} {v : Int32} {l1A : Nat} (h : mX11_isSoundEntry F Ln l1A V = some (v, V1)) : mAv (wX11_isSoundEntry l1A) V V1 := by
  unfold mX11_isSoundEntry at h
  rcases mIf_some h with ⟨_, h⟩ | ⟨_, h⟩
  · obtain ⟨v17, V18, h1, h⟩ := mBW_some h
    have a1 : mAv (wX11_isSoundEntry l1A) V V18 := mAv.tr mAv.rf (NX4_judge h1) (fun i z => by unfold wX4_judge at z; unfold wX11_isSoundEntry; omega)
    rcases mIf_some h with ⟨_, h⟩ | ⟨_, h⟩
    · obtain ⟨v23, V24, h2, h⟩ := mBW_some h
      have a2 : mAv (wX11_isSoundEntry l1A) V V24 := mAv.tr a1 (NX11_wouldBeCarriedSo h2) (fun i z => by unfold wX11_wouldBeCarriedSo at z; unfold wX11_isSoundEntry; omega)
      rcases mIf_some h with ⟨_, h⟩ | ⟨_, h⟩
      · obtain ⟨_, rfl⟩ := mRW h
        exact a2
      · obtain ⟨c3, h⟩ := mGd_some h
        rcases mIf_some h with ⟨_, h⟩ | ⟨_, h⟩
        · obtain ⟨_, rfl⟩ := mRW h
          exact a2
        · obtain ⟨_, rfl⟩ := mRW h
          exact a2
    · obtain ⟨_, rfl⟩ := mRW h
      exact a1
  · obtain ⟨v2, V3, h4, h⟩ := mBW_some h
    have a4 : mAv (wX11_isSoundEntry l1A) V V3 := mAv.tr mAv.rf (NX4_judge h4) (fun i z => by unfold wX4_judge at z; unfold wX11_isSoundEntry; omega)
    rcases mIf_some h with ⟨_, h⟩ | ⟨_, h⟩
    · obtain ⟨v8, V9, h5, h⟩ := mBW_some h
      have a5 : mAv (wX11_isSoundEntry l1A) V V9 := mAv.tr a4 (NX11_wouldBeCarriedSo h5) (fun i z => by unfold wX11_wouldBeCarriedSo at z; unfold wX11_isSoundEntry; omega)
      rcases mIf_some h with ⟨_, h⟩ | ⟨_, h⟩
      · obtain ⟨_, rfl⟩ := mRW h
        exact a5
      · obtain ⟨c6, h⟩ := mGd_some h
        rcases mIf_some h with ⟨_, h⟩ | ⟨_, h⟩
        · obtain ⟨_, rfl⟩ := mRW h
          exact a5
        · obtain ⟨_, rfl⟩ := mRW h
          exact a5
    · obtain ⟨_, rfl⟩ := mRW h
      exact a4
def wX11_isUnsoundClaim (l1A : Nat) (i : Nat) : Prop := (2 ≤ i ∧ i ≤ 3) ∨ (5 ≤ i ∧ i ≤ 8) ∨ i = 19 ∨ (21 ≤ i ∧ i ≤ 23) ∨ (26 ≤ i ∧ i ≤ 34) ∨ (52 ≤ i ∧ i ≤ 53) ∨ (62 ≤ i ∧ i ≤ 69) ∨ (71 ≤ i ∧ i ≤ 78) ∨ (83 ≤ i ∧ i ≤ 86) ∨ (88 ≤ i ∧ i ≤ 90)
def wX11_isUnsoundClaim_0 (l1A : Nat) (l2A : Nat) (i : Nat) : Prop := (2 ≤ i ∧ i ≤ 3) ∨ (5 ≤ i ∧ i ≤ 8) ∨ i = 19 ∨ (21 ≤ i ∧ i ≤ 23) ∨ (26 ≤ i ∧ i ≤ 34) ∨ (52 ≤ i ∧ i ≤ 53) ∨ (62 ≤ i ∧ i ≤ 69) ∨ (71 ≤ i ∧ i ≤ 78) ∨ (83 ≤ i ∧ i ≤ 86) ∨ (88 ≤ i ∧ i ≤ 90)
set_option maxHeartbeats 4000000 in
theorem NX11_isUnsoundClaim_go {F : Nat} {v : Int32} {V1 : mV} : ∀ k' : Nat, (∀ (l1A : Nat) (l2A : Nat) (s0I : Int32) (s1I : Int32) (Ln : Nat → Nat) (V : mV), mX11_isUnsoundClaim_go F k' 0 Ln l1A l2A s0I s1I V = some (v, V1) → mAv (wX11_isUnsoundClaim_0 l1A l2A) V V1) := by
  intro k'
  induction k' with
  | zero => exact (fun _ _ _ _ _ _ h => by cases h)
  | succ k' ih =>
    intro l1A l2A s0I s1I Ln V h
    rw [mX11_isUnsoundClaim_go, if_pos rfl] at h
    unfold mX11_isUnsoundClaim_b0 at h
    rcases mIf_some h with ⟨_, h⟩ | ⟨_, h⟩
    · obtain ⟨_, rfl⟩ := mRW h
      exact mAv.rf
    · obtain ⟨v2, V3, h1, h⟩ := mBW_some h
      have a1 : mAv (wX11_isUnsoundClaim_0 l1A l2A) V V3 := mAv.tr mAv.rf (NX4_judge h1) (fun i z => by unfold wX4_judge at z; unfold wX11_isUnsoundClaim_0; omega)
      rcases mIf_some h with ⟨_, h⟩ | ⟨_, h⟩
      · obtain ⟨_, rfl⟩ := mRW h
        exact a1
      · obtain ⟨_, rfl⟩ := mRW h
        exact a1
set_option maxHeartbeats 4000000 in
theorem NX11_isUnsoundClaim {F : Nat} {Ln : Nat → Nat} {V V1 : mV} {v : Int32} {l1A : Nat} (h : mX11_isUnsoundClaim F Ln l1A V = some (v, V1)) : mAv (wX11_isUnsoundClaim l1A) V V1 := by
  have ih := NX11_isUnsoundClaim_go (F := F) (v := v) (V1 := V1) F
  unfold mX11_isUnsoundClaim mX11_isUnsoundClaim_s at h
  obtain ⟨c2, h⟩ := mGd_some h
  rcases mIf_some h with ⟨_, h⟩ | ⟨_, h⟩
  · exact mAv.tr mAv.rf (ih _ _ _ _ _ _ h) (fun i z => by unfold wX11_isUnsoundClaim_0 at z; unfold wX11_isUnsoundClaim; omega)
  · exact mAv.tr mAv.rf (ih _ _ _ _ _ _ h) (fun i z => by unfold wX11_isUnsoundClaim_0 at z; unfold wX11_isUnsoundClaim; omega)
def wX4_solve (l1A : Nat) (i : Nat) : Prop := (2 ≤ i ∧ i ≤ 8) ∨ (19 ≤ i ∧ i ≤ 25) ∨ (27 ≤ i ∧ i ≤ 33) ∨ (36 ≤ i ∧ i ≤ 54) ∨ (56 ≤ i ∧ i ≤ 60) ∨ (62 ≤ i ∧ i ≤ 69) ∨ (71 ≤ i ∧ i ≤ 90) ∨ i = l1A ∨ i = l1A + 2 ∨ i = l1A + 3
set_option maxHeartbeats 4000000 in
theorem NX4_solve {F : Nat} {Ln Ln1 : Nat → Nat} {V V1 : mV} {v : Unit} {l1A : Nat} (h : mX4_solve F Ln l1A V = some (v, Ln1, V1)) : mAv (wX4_solve l1A) V V1 ∧ mAl (wX4_solve l1A) Ln Ln1 := by
  unfold mX4_solve at h
  obtain ⟨v1, V2, h1, h⟩ := mBW_some h
  have a1 : mAv (wX4_solve l1A) V V2 := mAv.tr mAv.rf (NX9_clear h1) (fun i z => by unfold wX9_clear at z; unfold wX4_solve; omega)
  rcases mIf_some h with ⟨_, h⟩ | ⟨_, h⟩
  · obtain ⟨v8, L9, V9, h2, h⟩ := mBA_some h
    have y2 := NX7_solvePairings h2
    have a2 : mAv (wX4_solve l1A) V V9 := mAv.tr a1 y2.1 (fun i z => by unfold wX7_solvePairings at z; unfold wX4_solve; omega)
    have b2 : mAl (wX4_solve l1A) Ln L9 := mAl.tr mAl.rf y2.2 (fun i z => by unfold wX7_solvePairings at z; unfold wX4_solve; omega)
    obtain ⟨V13, eV13, h⟩ := mLt_some h
    have a3 : mAv (wX4_solve l1A) V V13 := by rw [eV13]; exact mAv.F a2 (by unfold wX4_solve; omega)
    obtain ⟨V14, eV14, h⟩ := mLt_some h
    have a4 : mAv (wX4_solve l1A) V V14 := by rw [eV14]; exact mAv.F a3 (by unfold wX4_solve; omega)
    obtain ⟨_, rfl, rfl⟩ := mRA3 h
    exact ⟨a4, b2⟩
  · rcases mIf_some h with ⟨_, h⟩ | ⟨_, h⟩
    · obtain ⟨v16, L17, V17, h5, h⟩ := mBA_some h
      have y5 := NX7_solveFlows h5
      have a5 : mAv (wX4_solve l1A) V V17 := mAv.tr a1 y5.1 (fun i z => by unfold wX7_solveFlows at z; unfold wX4_solve; omega)
      have b5 : mAl (wX4_solve l1A) Ln L17 := mAl.tr mAl.rf y5.2 (fun i z => by unfold wX7_solveFlows at z; unfold wX4_solve; omega)
      obtain ⟨V21, eV21, h⟩ := mLt_some h
      have a6 : mAv (wX4_solve l1A) V V21 := by rw [eV21]; exact mAv.F a5 (by unfold wX4_solve; omega)
      obtain ⟨V22, eV22, h⟩ := mLt_some h
      have a7 : mAv (wX4_solve l1A) V V22 := by rw [eV22]; exact mAv.F a6 (by unfold wX4_solve; omega)
      obtain ⟨_, rfl, rfl⟩ := mRA3 h
      exact ⟨a7, b5⟩
    · rcases mIf_some h with ⟨_, h⟩ | ⟨_, h⟩
      · obtain ⟨v24, L25, V25, h8, h⟩ := mBA_some h
        have y8 := NX2_solve h8
        have a8 : mAv (wX4_solve l1A) V V25 := mAv.tr a1 y8.1 (fun i z => by unfold wX2_solve at z; unfold wX4_solve; omega)
        have b8 : mAl (wX4_solve l1A) Ln L25 := mAl.tr mAl.rf y8.2 (fun i z => by unfold wX2_solve at z; unfold wX4_solve; omega)
        obtain ⟨V29, eV29, h⟩ := mLt_some h
        have a9 : mAv (wX4_solve l1A) V V29 := by rw [eV29]; exact mAv.F a8 (by unfold wX4_solve; omega)
        obtain ⟨V30, eV30, h⟩ := mLt_some h
        have a10 : mAv (wX4_solve l1A) V V30 := by rw [eV30]; exact mAv.F a9 (by unfold wX4_solve; omega)
        obtain ⟨_, rfl, rfl⟩ := mRA3 h
        exact ⟨a10, b8⟩
      · rcases mIf_some h with ⟨_, h⟩ | ⟨_, h⟩
        · obtain ⟨v32, L33, V33, h11, h⟩ := mBA_some h
          have y11 := NX5_solve h11
          have a11 : mAv (wX4_solve l1A) V V33 := mAv.tr a1 y11.1 (fun i z => by unfold wX5_solve at z; unfold wX4_solve; omega)
          have b11 : mAl (wX4_solve l1A) Ln L33 := mAl.tr mAl.rf y11.2 (fun i z => by unfold wX5_solve at z; unfold wX4_solve; omega)
          obtain ⟨V37, eV37, h⟩ := mLt_some h
          have a12 : mAv (wX4_solve l1A) V V37 := by rw [eV37]; exact mAv.F a11 (by unfold wX4_solve; omega)
          obtain ⟨V38, eV38, h⟩ := mLt_some h
          have a13 : mAv (wX4_solve l1A) V V38 := by rw [eV38]; exact mAv.F a12 (by unfold wX4_solve; omega)
          obtain ⟨_, rfl, rfl⟩ := mRA3 h
          exact ⟨a13, b11⟩
        · rcases mIf_some h with ⟨_, h⟩ | ⟨_, h⟩
          · obtain ⟨v40, L41, V41, h14, h⟩ := mBA_some h
            have y14 := NX1_solve h14
            have a14 : mAv (wX4_solve l1A) V V41 := mAv.tr a1 y14.1 (fun i z => by unfold wX1_solve at z; unfold wX4_solve; omega)
            have b14 : mAl (wX4_solve l1A) Ln L41 := mAl.tr mAl.rf y14.2 (fun i z => by unfold wX1_solve at z; unfold wX4_solve; omega)
            obtain ⟨V45, eV45, h⟩ := mLt_some h
            have a15 : mAv (wX4_solve l1A) V V45 := by rw [eV45]; exact mAv.F a14 (by unfold wX4_solve; omega)
            obtain ⟨V46, eV46, h⟩ := mLt_some h
            have a16 : mAv (wX4_solve l1A) V V46 := by rw [eV46]; exact mAv.F a15 (by unfold wX4_solve; omega)
            obtain ⟨_, rfl, rfl⟩ := mRA3 h
            exact ⟨a16, b14⟩
          · rcases mIf_some h with ⟨_, h⟩ | ⟨_, h⟩
            · obtain ⟨v48, L49, V49, h17, h⟩ := mBA_some h
              have y17 := NX8_solveEquations h17
              have a17 : mAv (wX4_solve l1A) V V49 := mAv.tr a1 y17.1 (fun i z => by unfold wX8_solveEquations at z; unfold wX4_solve; omega)
              have b17 : mAl (wX4_solve l1A) Ln L49 := mAl.tr mAl.rf y17.2 (fun i z => by unfold wX8_solveEquations at z; unfold wX4_solve; omega)
              obtain ⟨V53, eV53, h⟩ := mLt_some h
              have a18 : mAv (wX4_solve l1A) V V53 := by rw [eV53]; exact mAv.F a17 (by unfold wX4_solve; omega)
              obtain ⟨V54, eV54, h⟩ := mLt_some h
              have a19 : mAv (wX4_solve l1A) V V54 := by rw [eV54]; exact mAv.F a18 (by unfold wX4_solve; omega)
              obtain ⟨_, rfl, rfl⟩ := mRA3 h
              exact ⟨a19, b17⟩
            · rcases mIf_some h with ⟨_, h⟩ | ⟨_, h⟩
              · obtain ⟨v56, L57, V57, h20, h⟩ := mBA_some h
                have y20 := NX8_solvePrimes h20
                have a20 : mAv (wX4_solve l1A) V V57 := mAv.tr a1 y20.1 (fun i z => by unfold wX8_solvePrimes at z; unfold wX4_solve; omega)
                have b20 : mAl (wX4_solve l1A) Ln L57 := mAl.tr mAl.rf y20.2 (fun i z => by unfold wX8_solvePrimes at z; unfold wX4_solve; omega)
                obtain ⟨V61, eV61, h⟩ := mLt_some h
                have a21 : mAv (wX4_solve l1A) V V61 := by rw [eV61]; exact mAv.F a20 (by unfold wX4_solve; omega)
                obtain ⟨V62, eV62, h⟩ := mLt_some h
                have a22 : mAv (wX4_solve l1A) V V62 := by rw [eV62]; exact mAv.F a21 (by unfold wX4_solve; omega)
                obtain ⟨_, rfl, rfl⟩ := mRA3 h
                exact ⟨a22, b20⟩
              · rcases mIf_some h with ⟨_, h⟩ | ⟨_, h⟩
                · obtain ⟨v64, L65, V65, h23, h⟩ := mBA_some h
                  have y23 := NX8_solveRoots h23
                  have a23 : mAv (wX4_solve l1A) V V65 := mAv.tr a1 y23.1 (fun i z => by unfold wX8_solveRoots at z; unfold wX4_solve; omega)
                  have b23 : mAl (wX4_solve l1A) Ln L65 := mAl.tr mAl.rf y23.2 (fun i z => by unfold wX8_solveRoots at z; unfold wX4_solve; omega)
                  obtain ⟨V69, eV69, h⟩ := mLt_some h
                  have a24 : mAv (wX4_solve l1A) V V69 := by rw [eV69]; exact mAv.F a23 (by unfold wX4_solve; omega)
                  obtain ⟨V70, eV70, h⟩ := mLt_some h
                  have a25 : mAv (wX4_solve l1A) V V70 := by rw [eV70]; exact mAv.F a24 (by unfold wX4_solve; omega)
                  obtain ⟨_, rfl, rfl⟩ := mRA3 h
                  exact ⟨a25, b23⟩
                · rcases mIf_some h with ⟨_, h⟩ | ⟨_, h⟩
                  · obtain ⟨v72, L73, V73, h26, h⟩ := mBA_some h
                    have y26 := NX10_solvePermutations h26
                    have a26 : mAv (wX4_solve l1A) V V73 := mAv.tr a1 y26.1 (fun i z => by unfold wX10_solvePermutations at z; unfold wX4_solve; omega)
                    have b26 : mAl (wX4_solve l1A) Ln L73 := mAl.tr mAl.rf y26.2 (fun i z => by unfold wX10_solvePermutations at z; unfold wX4_solve; omega)
                    obtain ⟨V77, eV77, h⟩ := mLt_some h
                    have a27 : mAv (wX4_solve l1A) V V77 := by rw [eV77]; exact mAv.F a26 (by unfold wX4_solve; omega)
                    obtain ⟨V78, eV78, h⟩ := mLt_some h
                    have a28 : mAv (wX4_solve l1A) V V78 := by rw [eV78]; exact mAv.F a27 (by unfold wX4_solve; omega)
                    obtain ⟨_, rfl, rfl⟩ := mRA3 h
                    exact ⟨a28, b26⟩
                  · rcases mIf_some h with ⟨_, h⟩ | ⟨_, h⟩
                    · obtain ⟨v80, L81, V81, h29, h⟩ := mBA_some h
                      have y29 := NX10_solveWords h29
                      have a29 : mAv (wX4_solve l1A) V V81 := mAv.tr a1 y29.1 (fun i z => by unfold wX10_solveWords at z; unfold wX4_solve; omega)
                      have b29 : mAl (wX4_solve l1A) Ln L81 := mAl.tr mAl.rf y29.2 (fun i z => by unfold wX10_solveWords at z; unfold wX4_solve; omega)
                      obtain ⟨V85, eV85, h⟩ := mLt_some h
                      have a30 : mAv (wX4_solve l1A) V V85 := by rw [eV85]; exact mAv.F a29 (by unfold wX4_solve; omega)
                      obtain ⟨V86, eV86, h⟩ := mLt_some h
                      have a31 : mAv (wX4_solve l1A) V V86 := by rw [eV86]; exact mAv.F a30 (by unfold wX4_solve; omega)
                      obtain ⟨_, rfl, rfl⟩ := mRA3 h
                      exact ⟨a31, b29⟩
                    · rcases mIf_some h with ⟨_, h⟩ | ⟨_, h⟩
                      · obtain ⟨v88, L89, V89, h32, h⟩ := mBA_some h
                        have y32 := NX6_solveMachines h32
                        have a32 : mAv (wX4_solve l1A) V V89 := mAv.tr a1 y32.1 (fun i z => by unfold wX6_solveMachines at z; unfold wX4_solve; omega)
                        have b32 : mAl (wX4_solve l1A) Ln L89 := mAl.tr mAl.rf y32.2 (fun i z => by unfold wX6_solveMachines at z; unfold wX4_solve; omega)
                        obtain ⟨V93, eV93, h⟩ := mLt_some h
                        have a33 : mAv (wX4_solve l1A) V V93 := by rw [eV93]; exact mAv.F a32 (by unfold wX4_solve; omega)
                        obtain ⟨V94, eV94, h⟩ := mLt_some h
                        have a34 : mAv (wX4_solve l1A) V V94 := by rw [eV94]; exact mAv.F a33 (by unfold wX4_solve; omega)
                        obtain ⟨_, rfl, rfl⟩ := mRA3 h
                        exact ⟨a34, b32⟩
                      · obtain ⟨v95, L96, V96, h35, h⟩ := mBA_some h
                        have y35 := NX6_solveGames h35
                        have a35 : mAv (wX4_solve l1A) V V96 := mAv.tr a1 y35.1 (fun i z => by unfold wX6_solveGames at z; unfold wX4_solve; omega)
                        have b35 : mAl (wX4_solve l1A) Ln L96 := mAl.tr mAl.rf y35.2 (fun i z => by unfold wX6_solveGames at z; unfold wX4_solve; omega)
                        obtain ⟨V100, eV100, h⟩ := mLt_some h
                        have a36 : mAv (wX4_solve l1A) V V100 := by rw [eV100]; exact mAv.F a35 (by unfold wX4_solve; omega)
                        obtain ⟨V101, eV101, h⟩ := mLt_some h
                        have a37 : mAv (wX4_solve l1A) V V101 := by rw [eV101]; exact mAv.F a36 (by unfold wX4_solve; omega)
                        obtain ⟨_, rfl, rfl⟩ := mRA3 h
                        exact ⟨a37, b35⟩
def wX11_refreshed (i : Nat) : Prop := (2 ≤ i ∧ i ≤ 8) ∨ i = 11 ∨ (19 ≤ i ∧ i ≤ 25) ∨ (27 ≤ i ∧ i ≤ 33) ∨ (36 ≤ i ∧ i ≤ 54) ∨ (56 ≤ i ∧ i ≤ 60) ∨ (62 ≤ i ∧ i ≤ 69) ∨ (71 ≤ i ∧ i ≤ 90) ∨ (256 ≤ i ∧ i ≤ 347) ∨ i = 3000
def wX11_refreshed_0 (l2A : Nat) (i : Nat) : Prop := (2 ≤ i ∧ i ≤ 8) ∨ i = 11 ∨ (19 ≤ i ∧ i ≤ 25) ∨ (27 ≤ i ∧ i ≤ 33) ∨ (36 ≤ i ∧ i ≤ 54) ∨ (56 ≤ i ∧ i ≤ 60) ∨ (62 ≤ i ∧ i ≤ 69) ∨ (71 ≤ i ∧ i ≤ 90) ∨ (256 ≤ i ∧ i ≤ 347)
def wX11_refreshed_1 (l2A : Nat) (i : Nat) : Prop := (2 ≤ i ∧ i ≤ 8) ∨ (19 ≤ i ∧ i ≤ 25) ∨ (27 ≤ i ∧ i ≤ 33) ∨ (36 ≤ i ∧ i ≤ 54) ∨ (56 ≤ i ∧ i ≤ 60) ∨ (62 ≤ i ∧ i ≤ 69) ∨ (71 ≤ i ∧ i ≤ 90) ∨ (256 ≤ i ∧ i ≤ 347)
set_option maxHeartbeats 4000000 in
theorem NX11_refreshed_go {F : Nat} {v : (String ⊕ Nat)} {Ln1 : Nat → Nat} {V1 : mV} : ∀ k' : Nat, (∀ (l2A : Nat) (l3I : Int32) (l4I : Int32) (Ln : Nat → Nat) (V : mV), mX11_refreshed_go F k' 0 Ln l2A l3I l4I 0 V = some (v, Ln1, V1) → mAv (wX11_refreshed_0 l2A) V V1 ∧ mAl (wX11_refreshed_0 l2A) Ln Ln1) ∧ (∀ (l2A : Nat) (l5I : Int32) (Ln : Nat → Nat) (V : mV), mX11_refreshed_go F k' 1 Ln l2A 0 0 l5I V = some (v, Ln1, V1) → mAv (wX11_refreshed_1 l2A) V V1 ∧ mAl (wX11_refreshed_1 l2A) Ln Ln1) := by
  intro k'
  induction k' with
  | zero => exact ⟨(fun _ _ _ _ _ h => by cases h), (fun _ _ _ _ h => by cases h)⟩
  | succ k' ih =>
    refine ⟨?_, ?_⟩
    · intro l2A l3I l4I Ln V h
      rw [mX11_refreshed_go, if_pos rfl] at h
      unfold mX11_refreshed_b0 at h
      rcases mIf_some h with ⟨_, h⟩ | ⟨_, h⟩
      · obtain ⟨x2, _, h⟩ := mLt_some h
        have y := ih.2 _ _ _ _ h
        exact ⟨mAv.tr mAv.rf y.1 (fun i z => by unfold wX11_refreshed_1 at z; unfold wX11_refreshed_0; omega), mAl.tr mAl.rf y.2 (fun i z => by unfold wX11_refreshed_1 at z; unfold wX11_refreshed_0; omega)⟩
      · rcases mIf_some h with ⟨_, h⟩ | ⟨_, h⟩
        · obtain ⟨x4, _, h⟩ := mLt_some h
          have y := ih.2 _ _ _ _ h
          exact ⟨mAv.tr mAv.rf y.1 (fun i z => by unfold wX11_refreshed_1 at z; unfold wX11_refreshed_0; omega), mAl.tr mAl.rf y.2 (fun i z => by unfold wX11_refreshed_1 at z; unfold wX11_refreshed_0; omega)⟩
        · obtain ⟨c1, h⟩ := mGd_some h
          obtain ⟨V6, eV6, h⟩ := mLt_some h
          have a2 : mAv (wX11_refreshed_0 l2A) V V6 := by rw [eV6]; exact mAv.I mAv.rf (by unfold wX11_refreshed_0; omega)
          obtain ⟨x7, _, h⟩ := mLt_some h
          obtain ⟨c3, h⟩ := mGd_some h
          obtain ⟨x10, _, h⟩ := mLt_some h
          have y := ih.1 _ _ _ _ _ h
          exact ⟨mAv.tr a2 y.1 (fun i z => by unfold wX11_refreshed_0 at z; unfold wX11_refreshed_0; omega), mAl.tr mAl.rf y.2 (fun i z => by unfold wX11_refreshed_0 at z; unfold wX11_refreshed_0; omega)⟩
    · intro l2A l5I Ln V h
      rw [mX11_refreshed_go, if_neg (by decide), if_pos rfl] at h
      unfold mX11_refreshed_b1 at h
      rcases mIf_some h with ⟨_, h⟩ | ⟨_, h⟩
      · obtain ⟨_, rfl, rfl⟩ := mRA3 h
        exact ⟨mAv.rf, mAl.rf⟩
      · obtain ⟨c4, h⟩ := mGd_some h
        obtain ⟨c5, h⟩ := mGd_some h
        obtain ⟨V15, eV15, h⟩ := mLt_some h
        have z6 := (Nat.lt_of_not_le (fun z => c5 (Or.inr z)))
        have a6 : mAv (wX11_refreshed_1 l2A) V V15 := by rw [eV15]; exact mAv.F mAv.rf (by unfold wX11_refreshed_1; omega)
        rcases mIf_some h with ⟨_, h⟩ | ⟨_, h⟩
        · rcases mIf_some h with ⟨_, h⟩ | ⟨_, h⟩
          · obtain ⟨v18, L19, V19, h7, h⟩ := mBA_some h
            have z7_0 := (Nat.lt_of_not_le (fun z => c5 (Or.inr z)))
            have y7 := NX4_solve h7
            have a7 : mAv (wX11_refreshed_1 l2A) V V19 := mAv.tr a6 y7.1 (fun i z => by unfold wX4_solve at z; unfold wX11_refreshed_1; omega)
            have b7 : mAl (wX11_refreshed_1 l2A) Ln L19 := mAl.tr mAl.rf y7.2 (fun i z => by unfold wX4_solve at z; unfold wX11_refreshed_1; omega)
            obtain ⟨x23, _, h⟩ := mLt_some h
            have y := ih.2 _ _ _ _ h
            exact ⟨mAv.tr a7 y.1 (fun i z => by unfold wX11_refreshed_1 at z; unfold wX11_refreshed_1; omega), mAl.tr b7 y.2 (fun i z => by unfold wX11_refreshed_1 at z; unfold wX11_refreshed_1; omega)⟩
          · rcases mIf_some h with ⟨_, h⟩ | ⟨_, h⟩
            · obtain ⟨x25, _, h⟩ := mLt_some h
              have y := ih.2 _ _ _ _ h
              exact ⟨mAv.tr a6 y.1 (fun i z => by unfold wX11_refreshed_1 at z; unfold wX11_refreshed_1; omega), mAl.tr mAl.rf y.2 (fun i z => by unfold wX11_refreshed_1 at z; unfold wX11_refreshed_1; omega)⟩
            · obtain ⟨v26, L27, V27, h8, h⟩ := mBA_some h
              have z8_0 := (Nat.lt_of_not_le (fun z => c5 (Or.inr z)))
              have y8 := NX4_solve h8
              have a8 : mAv (wX11_refreshed_1 l2A) V V27 := mAv.tr a6 y8.1 (fun i z => by unfold wX4_solve at z; unfold wX11_refreshed_1; omega)
              have b8 : mAl (wX11_refreshed_1 l2A) Ln L27 := mAl.tr mAl.rf y8.2 (fun i z => by unfold wX4_solve at z; unfold wX11_refreshed_1; omega)
              obtain ⟨x31, _, h⟩ := mLt_some h
              have y := ih.2 _ _ _ _ h
              exact ⟨mAv.tr a8 y.1 (fun i z => by unfold wX11_refreshed_1 at z; unfold wX11_refreshed_1; omega), mAl.tr b8 y.2 (fun i z => by unfold wX11_refreshed_1 at z; unfold wX11_refreshed_1; omega)⟩
        · obtain ⟨c9, h⟩ := mGd_some h
          obtain ⟨x34, _, h⟩ := mLt_some h
          obtain ⟨c10, h⟩ := mGd_some h
          obtain ⟨c11, h⟩ := mGd_some h
          obtain ⟨V37, eV37, h⟩ := mLt_some h
          have z12 := (Nat.lt_of_not_le (fun z => c5 (Or.inr z)))
          have a12 : mAv (wX11_refreshed_1 l2A) V V37 := by rw [eV37]; exact mAv.F a6 (by unfold wX11_refreshed_1; omega)
          rcases mIf_some h with ⟨_, h⟩ | ⟨_, h⟩
          · obtain ⟨v39, L40, V40, h13, h⟩ := mBA_some h
            have z13_0 := (Nat.lt_of_not_le (fun z => c5 (Or.inr z)))
            have y13 := NX4_solve h13
            have a13 : mAv (wX11_refreshed_1 l2A) V V40 := mAv.tr a12 y13.1 (fun i z => by unfold wX4_solve at z; unfold wX11_refreshed_1; omega)
            have b13 : mAl (wX11_refreshed_1 l2A) Ln L40 := mAl.tr mAl.rf y13.2 (fun i z => by unfold wX4_solve at z; unfold wX11_refreshed_1; omega)
            obtain ⟨x44, _, h⟩ := mLt_some h
            have y := ih.2 _ _ _ _ h
            exact ⟨mAv.tr a13 y.1 (fun i z => by unfold wX11_refreshed_1 at z; unfold wX11_refreshed_1; omega), mAl.tr b13 y.2 (fun i z => by unfold wX11_refreshed_1 at z; unfold wX11_refreshed_1; omega)⟩
          · rcases mIf_some h with ⟨_, h⟩ | ⟨_, h⟩
            · obtain ⟨x46, _, h⟩ := mLt_some h
              have y := ih.2 _ _ _ _ h
              exact ⟨mAv.tr a12 y.1 (fun i z => by unfold wX11_refreshed_1 at z; unfold wX11_refreshed_1; omega), mAl.tr mAl.rf y.2 (fun i z => by unfold wX11_refreshed_1 at z; unfold wX11_refreshed_1; omega)⟩
            · obtain ⟨v47, L48, V48, h14, h⟩ := mBA_some h
              have z14_0 := (Nat.lt_of_not_le (fun z => c5 (Or.inr z)))
              have y14 := NX4_solve h14
              have a14 : mAv (wX11_refreshed_1 l2A) V V48 := mAv.tr a12 y14.1 (fun i z => by unfold wX4_solve at z; unfold wX11_refreshed_1; omega)
              have b14 : mAl (wX11_refreshed_1 l2A) Ln L48 := mAl.tr mAl.rf y14.2 (fun i z => by unfold wX4_solve at z; unfold wX11_refreshed_1; omega)
              obtain ⟨x52, _, h⟩ := mLt_some h
              have y := ih.2 _ _ _ _ h
              exact ⟨mAv.tr a14 y.1 (fun i z => by unfold wX11_refreshed_1 at z; unfold wX11_refreshed_1; omega), mAl.tr b14 y.2 (fun i z => by unfold wX11_refreshed_1 at z; unfold wX11_refreshed_1; omega)⟩
set_option maxHeartbeats 4000000 in
theorem NX11_refreshed {F : Nat} {Ln Ln1 : Nat → Nat} {V V1 : mV} {v : (String ⊕ Nat)} {l1I : Int32} (h : mX11_refreshed F Ln l1I V = some (v, Ln1, V1)) : mAv (wX11_refreshed) V V1 ∧ mAl (wX11_refreshed) Ln Ln1 := by
  have ih := NX11_refreshed_go (F := F) (v := v) (Ln1 := Ln1) (V1 := V1) F
  unfold mX11_refreshed mX11_refreshed_s at h
  rcases mBT_some h with ⟨E0, L0, V0, h15, h⟩ | ⟨v53, L54, V54, h15, h⟩
  · have y15 := NX11_entryAt h15
    obtain ⟨_, rfl, rfl⟩ := mRA3 h
    exact ⟨mAv.tr mAv.rf y15.1 (fun i z => by unfold wX11_entryAt at z; unfold wX11_refreshed; omega), mAl.tr mAl.rf y15.2 (fun i z => by unfold wX11_entryAt at z; unfold wX11_refreshed; omega)⟩
  · have k15 := KX11_entryAt h15
    have y15 := NX11_entryAt h15
    have a15 : mAv (wX11_refreshed) V V54 := mAv.tr mAv.rf y15.1 (fun i z => by unfold wX11_entryAt at z; unfold wX11_refreshed; omega)
    have b15 : mAl (wX11_refreshed) Ln L54 := mAl.tr mAl.rf y15.2 (fun i z => by unfold wX11_entryAt at z; unfold wX11_refreshed; omega)
    have y := ih.1 _ _ _ _ _ h
    exact ⟨mAv.tr a15 y.1 (fun i z => by unfold wX11_refreshed_0 at z; unfold wX11_refreshed; omega), mAl.tr b15 y.2 (fun i z => by unfold wX11_refreshed_0 at z; unfold wX11_refreshed; omega)⟩
theorem KX11_refreshed_go {F : Nat} {r : Nat} {Ln1 : Nat → Nat} {V1 : mV} : ∀ k' : Nat, (∀ (l2A : Nat) (l3I : Int32) (l4I : Int32) (Ln : Nat → Nat) (V : mV), 256 ≤ l2A ∧ l2A ≤ 344 → mX11_refreshed_go F k' 0 Ln l2A l3I l4I 0 V = some (.inr r, Ln1, V1) → 256 ≤ r ∧ r ≤ 344) ∧ (∀ (l2A : Nat) (l5I : Int32) (Ln : Nat → Nat) (V : mV), 256 ≤ l2A ∧ l2A ≤ 344 → mX11_refreshed_go F k' 1 Ln l2A 0 0 l5I V = some (.inr r, Ln1, V1) → 256 ≤ r ∧ r ≤ 344) := by
  intro k'
  induction k' with
  | zero => exact ⟨(fun _ _ _ _ _ _ h => by cases h), (fun _ _ _ _ _ h => by cases h)⟩
  | succ k' ih =>
    refine ⟨?_, ?_⟩
    · intro l2A l3I l4I Ln V sl2A h
      rw [mX11_refreshed_go, if_pos rfl] at h
      unfold mX11_refreshed_b0 at h
      rcases mIf_some h with ⟨_, h⟩ | ⟨_, h⟩
      · obtain ⟨x2, _, h⟩ := mLt_some h
        exact ih.2 _ _ _ _ (by omega) h
      · rcases mIf_some h with ⟨_, h⟩ | ⟨_, h⟩
        · obtain ⟨x4, _, h⟩ := mLt_some h
          exact ih.2 _ _ _ _ (by omega) h
        · obtain ⟨c1, h⟩ := mGd_some h
          obtain ⟨V6, _, h⟩ := mLt_some h
          obtain ⟨x7, _, h⟩ := mLt_some h
          obtain ⟨c2, h⟩ := mGd_some h
          obtain ⟨x10, _, h⟩ := mLt_some h
          exact ih.1 _ _ _ _ _ (by omega) h
    · intro l2A l5I Ln V sl2A h
      rw [mX11_refreshed_go, if_neg (by decide), if_pos rfl] at h
      unfold mX11_refreshed_b1 at h
      rcases mIf_some h with ⟨_, h⟩ | ⟨_, h⟩
      · obtain ⟨h, _, _⟩ := mRA3 h
        cases h
        omega
      · obtain ⟨c3, h⟩ := mGd_some h
        obtain ⟨c4, h⟩ := mGd_some h
        obtain ⟨V15, _, h⟩ := mLt_some h
        rcases mIf_some h with ⟨_, h⟩ | ⟨_, h⟩
        · rcases mIf_some h with ⟨_, h⟩ | ⟨_, h⟩
          · obtain ⟨v18, L19, V19, _, h⟩ := mBA_some h
            obtain ⟨x23, _, h⟩ := mLt_some h
            exact ih.2 _ _ _ _ (by omega) h
          · rcases mIf_some h with ⟨_, h⟩ | ⟨_, h⟩
            · obtain ⟨x25, _, h⟩ := mLt_some h
              exact ih.2 _ _ _ _ (by omega) h
            · obtain ⟨v26, L27, V27, _, h⟩ := mBA_some h
              obtain ⟨x31, _, h⟩ := mLt_some h
              exact ih.2 _ _ _ _ (by omega) h
        · obtain ⟨c7, h⟩ := mGd_some h
          obtain ⟨x34, _, h⟩ := mLt_some h
          obtain ⟨c8, h⟩ := mGd_some h
          obtain ⟨c9, h⟩ := mGd_some h
          obtain ⟨V37, _, h⟩ := mLt_some h
          rcases mIf_some h with ⟨_, h⟩ | ⟨_, h⟩
          · obtain ⟨v39, L40, V40, _, h⟩ := mBA_some h
            obtain ⟨x44, _, h⟩ := mLt_some h
            exact ih.2 _ _ _ _ (by omega) h
          · rcases mIf_some h with ⟨_, h⟩ | ⟨_, h⟩
            · obtain ⟨x46, _, h⟩ := mLt_some h
              exact ih.2 _ _ _ _ (by omega) h
            · obtain ⟨v47, L48, V48, _, h⟩ := mBA_some h
              obtain ⟨x52, _, h⟩ := mLt_some h
              exact ih.2 _ _ _ _ (by omega) h
theorem KX11_refreshed {F r : Nat} {Ln Ln1 : Nat → Nat} {V V1 : mV} {l1I : Int32} (h : mX11_refreshed F Ln l1I V = some (.inr r, Ln1, V1)) : 256 ≤ r ∧ r ≤ 344 := by
  have ih := KX11_refreshed_go (F := F) (r := r) (Ln1 := Ln1) (V1 := V1) F
  unfold mX11_refreshed mX11_refreshed_s at h
  rcases mBT_some h with ⟨_, _, _, _, h⟩ | ⟨v53, L54, V54, h12, h⟩
  · obtain ⟨h, _, _⟩ := mRA3 h
    cases h
  · have k12 := KX11_entryAt h12
    exact ih.1 _ _ _ _ _ (by omega) h
def wX11_setBound (i : Nat) : Prop := i = 0 ∨ (2 ≤ i ∧ i ≤ 8) ∨ i = 11 ∨ (14 ≤ i ∧ i ≤ 15) ∨ (19 ≤ i ∧ i ≤ 25) ∨ (27 ≤ i ∧ i ≤ 33) ∨ (36 ≤ i ∧ i ≤ 54) ∨ (56 ≤ i ∧ i ≤ 60) ∨ (62 ≤ i ∧ i ≤ 69) ∨ (71 ≤ i ∧ i ≤ 90) ∨ (256 ≤ i ∧ i ≤ 347) ∨ (352 ≤ i ∧ i ≤ 537) ∨ i = 3000
set_option maxHeartbeats 4000000 in
theorem NX11_setBound {F : Nat} {Ln Ln1 : Nat → Nat} {V V1 : mV} {v : (String ⊕ Int32)} {l1I : Int32} {l2I : Int32} (h : mX11_setBound F Ln l1I l2I V = some (v, Ln1, V1)) : mAv (wX11_setBound) V V1 ∧ mAl (wX11_setBound) Ln Ln1 := by
  unfold mX11_setBound at h
  rcases mBT_some h with ⟨E0, L0, V0, h1, h⟩ | ⟨v1, L2, V2, h1, h⟩
  · have y1 := NX11_refreshed h1
    obtain ⟨_, rfl, rfl⟩ := mRA3 h
    exact ⟨mAv.tr mAv.rf y1.1 (fun i z => by unfold wX11_refreshed at z; unfold wX11_setBound; omega), mAl.tr mAl.rf y1.2 (fun i z => by unfold wX11_refreshed at z; unfold wX11_setBound; omega)⟩
  · have k1 := KX11_refreshed h1
    have y1 := NX11_refreshed h1
    have a1 : mAv (wX11_setBound) V V2 := mAv.tr mAv.rf y1.1 (fun i z => by unfold wX11_refreshed at z; unfold wX11_setBound; omega)
    have b1 : mAl (wX11_setBound) Ln L2 := mAl.tr mAl.rf y1.2 (fun i z => by unfold wX11_refreshed at z; unfold wX11_setBound; omega)
    obtain ⟨v6, _, h⟩ := mBN_some h
    rcases mIf_some h with ⟨_, h⟩ | ⟨_, h⟩
    · obtain ⟨_, rfl, rfl, _⟩ := mTh_some h
      exact ⟨a1, mAl.up b1 (by unfold wX11_setBound; omega)⟩
    · obtain ⟨v12, V13, h2, h⟩ := mBW_some h
      have a2 : mAv (wX11_setBound) V V13 := mAv.tr a1 (NX11_remember h2) (fun i z => by unfold wX11_remember at z; unfold wX11_setBound; omega)
      obtain ⟨x17, _, h⟩ := mLt_some h
      obtain ⟨V18, eV18, h⟩ := mLt_some h
      have a3 : mAv (wX11_setBound) V V18 := by rw [eV18]; exact mAv.F a2 (by unfold wX11_setBound; omega)
      obtain ⟨V19, eV19, h⟩ := mLt_some h
      have a4 : mAv (wX11_setBound) V V19 := by rw [eV19]; exact mAv.F a3 (by unfold wX11_setBound; omega)
      obtain ⟨_, rfl, rfl⟩ := mRA3 h
      exact ⟨a4, b1⟩
def wX11_lean (i : Nat) : Prop := i = 0 ∨ (2 ≤ i ∧ i ≤ 8) ∨ i = 11 ∨ (14 ≤ i ∧ i ≤ 15) ∨ (19 ≤ i ∧ i ≤ 25) ∨ (27 ≤ i ∧ i ≤ 33) ∨ (36 ≤ i ∧ i ≤ 54) ∨ (56 ≤ i ∧ i ≤ 60) ∨ (62 ≤ i ∧ i ≤ 69) ∨ (71 ≤ i ∧ i ≤ 90) ∨ (256 ≤ i ∧ i ≤ 347) ∨ (352 ≤ i ∧ i ≤ 537) ∨ i = 3000
set_option maxHeartbeats 4000000 in
theorem NX11_lean {F : Nat} {Ln Ln1 : Nat → Nat} {V V1 : mV} {v : (String ⊕ Int32)} {l1I : Int32} {l2I : Int32} {l3I : Int32} (h : mX11_lean F Ln l1I l2I l3I V = some (v, Ln1, V1)) : mAv (wX11_lean) V V1 ∧ mAl (wX11_lean) Ln Ln1 := by
  unfold mX11_lean at h
  rcases mBT_some h with ⟨E0, L0, V0, h1, h⟩ | ⟨v1, L2, V2, h1, h⟩
  · have y1 := NX11_entryAt h1
    obtain ⟨_, rfl, rfl⟩ := mRA3 h
    exact ⟨mAv.tr mAv.rf y1.1 (fun i z => by unfold wX11_entryAt at z; unfold wX11_lean; omega), mAl.tr mAl.rf y1.2 (fun i z => by unfold wX11_entryAt at z; unfold wX11_lean; omega)⟩
  · have k1 := KX11_entryAt h1
    have y1 := NX11_entryAt h1
    have a1 : mAv (wX11_lean) V V2 := mAv.tr mAv.rf y1.1 (fun i z => by unfold wX11_entryAt at z; unfold wX11_lean; omega)
    have b1 : mAl (wX11_lean) Ln L2 := mAl.tr mAl.rf y1.2 (fun i z => by unfold wX11_entryAt at z; unfold wX11_lean; omega)
    rcases mBT_some h with ⟨E0, L0, V0, h2, h⟩ | ⟨v6, L7, V7, h2, h⟩
    · have y2 := NX11_entryAt h2
      obtain ⟨_, rfl, rfl⟩ := mRA3 h
      exact ⟨mAv.tr a1 y2.1 (fun i z => by unfold wX11_entryAt at z; unfold wX11_lean; omega), mAl.tr b1 y2.2 (fun i z => by unfold wX11_entryAt at z; unfold wX11_lean; omega)⟩
    · have k2 := KX11_entryAt h2
      have y2 := NX11_entryAt h2
      have a2 : mAv (wX11_lean) V V7 := mAv.tr a1 y2.1 (fun i z => by unfold wX11_entryAt at z; unfold wX11_lean; omega)
      have b2 : mAl (wX11_lean) Ln L7 := mAl.tr b1 y2.2 (fun i z => by unfold wX11_entryAt at z; unfold wX11_lean; omega)
      rcases mIf_some h with ⟨_, h⟩ | ⟨_, h⟩
      · obtain ⟨_, rfl, rfl, _⟩ := mTh_some h
        exact ⟨a2, mAl.up b2 (by unfold wX11_lean; omega)⟩
      · rcases mIf_some h with ⟨_, h⟩ | ⟨_, h⟩
        · obtain ⟨v14, _, h⟩ := mBN_some h
          rcases mIf_some h with ⟨_, h⟩ | ⟨_, h⟩
          · obtain ⟨v20, V21, h3, h⟩ := mBW_some h
            have a3 : mAv (wX11_lean) V V21 := mAv.tr a2 (NX11_remember h3) (fun i z => by unfold wX11_remember at z; unfold wX11_lean; omega)
            obtain ⟨V25, eV25, h⟩ := mLt_some h
            have a4 : mAv (wX11_lean) V V25 := by rw [eV25]; exact mAv.F a3 (by unfold wX11_lean; omega)
            obtain ⟨V26, eV26, h⟩ := mLt_some h
            have a5 : mAv (wX11_lean) V V26 := by rw [eV26]; exact mAv.F a4 (by unfold wX11_lean; omega)
            rcases mBT_some h with ⟨E0, L0, V0, h6, h⟩ | ⟨v27, L28, V28, h6, h⟩
            · have y6 := NX11_refreshed h6
              obtain ⟨_, rfl, rfl⟩ := mRA3 h
              exact ⟨mAv.tr a5 y6.1 (fun i z => by unfold wX11_refreshed at z; unfold wX11_lean; omega), mAl.tr b2 y6.2 (fun i z => by unfold wX11_refreshed at z; unfold wX11_lean; omega)⟩
            · have k6 := KX11_refreshed h6
              have y6 := NX11_refreshed h6
              have a6 : mAv (wX11_lean) V V28 := mAv.tr a5 y6.1 (fun i z => by unfold wX11_refreshed at z; unfold wX11_lean; omega)
              have b6 : mAl (wX11_lean) Ln L28 := mAl.tr b2 y6.2 (fun i z => by unfold wX11_refreshed at z; unfold wX11_lean; omega)
              obtain ⟨_, rfl, rfl⟩ := mRA3 h
              exact ⟨a6, b6⟩
          · obtain ⟨_, rfl, rfl, _⟩ := mTh_some h
            exact ⟨a2, mAl.up b2 (by unfold wX11_lean; omega)⟩
        · obtain ⟨_, rfl, rfl, _⟩ := mTh_some h
          exact ⟨a2, mAl.up b2 (by unfold wX11_lean; omega)⟩
def wX11_stand (i : Nat) : Prop := i = 0 ∨ (2 ≤ i ∧ i ≤ 8) ∨ i = 11 ∨ (14 ≤ i ∧ i ≤ 15) ∨ (19 ≤ i ∧ i ≤ 25) ∨ (27 ≤ i ∧ i ≤ 33) ∨ (36 ≤ i ∧ i ≤ 54) ∨ (56 ≤ i ∧ i ≤ 60) ∨ (62 ≤ i ∧ i ≤ 69) ∨ (71 ≤ i ∧ i ≤ 90) ∨ (256 ≤ i ∧ i ≤ 347) ∨ (352 ≤ i ∧ i ≤ 537) ∨ i = 3000
set_option maxHeartbeats 4000000 in
theorem NX11_stand {F : Nat} {Ln Ln1 : Nat → Nat} {V V1 : mV} {v : (String ⊕ Int32)} {l1I : Int32} (h : mX11_stand F Ln l1I V = some (v, Ln1, V1)) : mAv (wX11_stand) V V1 ∧ mAl (wX11_stand) Ln Ln1 := by
  unfold mX11_stand at h
  rcases mBT_some h with ⟨E0, L0, V0, h1, h⟩ | ⟨v1, L2, V2, h1, h⟩
  · have y1 := NX11_refreshed h1
    obtain ⟨_, rfl, rfl⟩ := mRA3 h
    exact ⟨mAv.tr mAv.rf y1.1 (fun i z => by unfold wX11_refreshed at z; unfold wX11_stand; omega), mAl.tr mAl.rf y1.2 (fun i z => by unfold wX11_refreshed at z; unfold wX11_stand; omega)⟩
  · have k1 := KX11_refreshed h1
    have y1 := NX11_refreshed h1
    have a1 : mAv (wX11_stand) V V2 := mAv.tr mAv.rf y1.1 (fun i z => by unfold wX11_refreshed at z; unfold wX11_stand; omega)
    have b1 : mAl (wX11_stand) Ln L2 := mAl.tr mAl.rf y1.2 (fun i z => by unfold wX11_refreshed at z; unfold wX11_stand; omega)
    rcases mIf_some h with ⟨_, h⟩ | ⟨_, h⟩
    · obtain ⟨v7, V8, h2, h⟩ := mBW_some h
      have a2 : mAv (wX11_stand) V V8 := mAv.tr a1 (NX11_remember h2) (fun i z => by unfold wX11_remember at z; unfold wX11_stand; omega)
      obtain ⟨V12, eV12, h⟩ := mLt_some h
      have a3 : mAv (wX11_stand) V V12 := by rw [eV12]; exact mAv.F a2 (by unfold wX11_stand; omega)
      obtain ⟨V13, eV13, h⟩ := mLt_some h
      have a4 : mAv (wX11_stand) V V13 := by rw [eV13]; exact mAv.F a3 (by unfold wX11_stand; omega)
      obtain ⟨_, rfl, rfl⟩ := mRA3 h
      exact ⟨a4, b1⟩
    · obtain ⟨_, rfl, rfl, _⟩ := mTh_some h
      exact ⟨a1, mAl.up b1 (by unfold wX11_stand; omega)⟩
def wX11_carry (i : Nat) : Prop := i = 0 ∨ (2 ≤ i ∧ i ≤ 8) ∨ i = 11 ∨ (14 ≤ i ∧ i ≤ 15) ∨ (18 ≤ i ∧ i ≤ 25) ∨ (27 ≤ i ∧ i ≤ 33) ∨ (36 ≤ i ∧ i ≤ 54) ∨ (56 ≤ i ∧ i ≤ 60) ∨ (62 ≤ i ∧ i ≤ 69) ∨ (71 ≤ i ∧ i ≤ 90) ∨ (256 ≤ i ∧ i ≤ 347) ∨ (352 ≤ i ∧ i ≤ 537) ∨ (544 ≤ i ∧ i ≤ 545) ∨ i = 3000
set_option maxHeartbeats 4000000 in
theorem NX11_carry {F : Nat} {Ln Ln1 : Nat → Nat} {V V1 : mV} {v : (String ⊕ Int32)} {l1I : Int32} {l2I : Int32} (h : mX11_carry F Ln l1I l2I V = some (v, Ln1, V1)) : mAv (wX11_carry) V V1 ∧ mAl (wX11_carry) Ln Ln1 := by
  unfold mX11_carry at h
  rcases mBT_some h with ⟨E0, L0, V0, h1, h⟩ | ⟨v1, L2, V2, h1, h⟩
  · have y1 := NX11_refreshed h1
    obtain ⟨_, rfl, rfl⟩ := mRA3 h
    exact ⟨mAv.tr mAv.rf y1.1 (fun i z => by unfold wX11_refreshed at z; unfold wX11_carry; omega), mAl.tr mAl.rf y1.2 (fun i z => by unfold wX11_refreshed at z; unfold wX11_carry; omega)⟩
  · have k1 := KX11_refreshed h1
    have y1 := NX11_refreshed h1
    have a1 : mAv (wX11_carry) V V2 := mAv.tr mAv.rf y1.1 (fun i z => by unfold wX11_refreshed at z; unfold wX11_carry; omega)
    have b1 : mAl (wX11_carry) Ln L2 := mAl.tr mAl.rf y1.2 (fun i z => by unfold wX11_refreshed at z; unfold wX11_carry; omega)
    obtain ⟨v6, _, h⟩ := mBN_some h
    rcases mIf_some h with ⟨_, h⟩ | ⟨_, h⟩
    · obtain ⟨v12, V13, h2, h⟩ := mBW_some h
      have a2 : mAv (wX11_carry) V V13 := mAv.tr a1 (NX4_carriesOver h2) (fun i z => by unfold wX4_carriesOver at z; unfold wX11_carry; omega)
      rcases mIf_some h with ⟨_, h⟩ | ⟨_, h⟩
      · obtain ⟨_, rfl, rfl, _⟩ := mTh_some h
        exact ⟨a2, mAl.up b1 (by unfold wX11_carry; omega)⟩
      · rcases mIf_some h with ⟨_, h⟩ | ⟨_, h⟩
        · obtain ⟨c3, h⟩ := mGd_some h
          obtain ⟨v21, V22, h4, h⟩ := mBW_some h
          have z4_0 := (Nat.lt_of_not_le (fun z => c3 (Or.inr z)))
          have a4 : mAv (wX11_carry) V V22 := mAv.tr a2 (NX3_begin h4) (fun i z => by unfold wX3_begin at z; unfold wX11_carry; omega)
          obtain ⟨v26, V27, h5, h⟩ := mBW_some h
          have z5_0 := (Nat.lt_of_not_le (fun z => c3 (Or.inr z)))
          have a5 : mAv (wX11_carry) V V27 := mAv.tr a4 (NX3_copyQuestion h5) (fun i z => by unfold wX3_copyQuestion at z; unfold wX11_carry; omega)
          obtain ⟨V31, eV31, h⟩ := mLt_some h
          have z6 := (Nat.lt_of_not_le (fun z => c3 (Or.inr z)))
          have a6 : mAv (wX11_carry) V V31 := by rw [eV31]; exact mAv.F a5 (by unfold wX11_carry; omega)
          obtain ⟨v32, V33, h7, h⟩ := mBW_some h
          have a7 : mAv (wX11_carry) V V33 := mAv.tr a6 (NX11_remember h7) (fun i z => by unfold wX11_remember at z; unfold wX11_carry; omega)
          obtain ⟨V37, eV37, h⟩ := mLt_some h
          have a8 : mAv (wX11_carry) V V37 := by rw [eV37]; exact mAv.F a7 (by unfold wX11_carry; omega)
          obtain ⟨_, rfl, rfl⟩ := mRA3 h
          exact ⟨a8, b1⟩
        · obtain ⟨_, rfl, rfl, _⟩ := mTh_some h
          exact ⟨a2, mAl.up b1 (by unfold wX11_carry; omega)⟩
    · obtain ⟨_, rfl, rfl, _⟩ := mTh_some h
      exact ⟨a1, mAl.up b1 (by unfold wX11_carry; omega)⟩
def wX11_boundOf (i : Nat) : Prop := (2 ≤ i ∧ i ≤ 8) ∨ i = 11 ∨ (19 ≤ i ∧ i ≤ 25) ∨ (27 ≤ i ∧ i ≤ 33) ∨ (36 ≤ i ∧ i ≤ 54) ∨ (56 ≤ i ∧ i ≤ 60) ∨ (62 ≤ i ∧ i ≤ 69) ∨ (71 ≤ i ∧ i ≤ 90) ∨ (256 ≤ i ∧ i ≤ 347) ∨ i = 3000
set_option maxHeartbeats 4000000 in
theorem NX11_boundOf {F : Nat} {Ln Ln1 : Nat → Nat} {V V1 : mV} {v : (String ⊕ Int32)} {l1I : Int32} (h : mX11_boundOf F Ln l1I V = some (v, Ln1, V1)) : mAv (wX11_boundOf) V V1 ∧ mAl (wX11_boundOf) Ln Ln1 := by
  unfold mX11_boundOf at h
  rcases mBT_some h with ⟨E0, L0, V0, h1, h⟩ | ⟨v1, L2, V2, h1, h⟩
  · have y1 := NX11_refreshed h1
    obtain ⟨_, rfl, rfl⟩ := mRA3 h
    exact ⟨mAv.tr mAv.rf y1.1 (fun i z => by unfold wX11_refreshed at z; unfold wX11_boundOf; omega), mAl.tr mAl.rf y1.2 (fun i z => by unfold wX11_refreshed at z; unfold wX11_boundOf; omega)⟩
  · have k1 := KX11_refreshed h1
    have y1 := NX11_refreshed h1
    have a1 : mAv (wX11_boundOf) V V2 := mAv.tr mAv.rf y1.1 (fun i z => by unfold wX11_refreshed at z; unfold wX11_boundOf; omega)
    have b1 : mAl (wX11_boundOf) Ln L2 := mAl.tr mAl.rf y1.2 (fun i z => by unfold wX11_refreshed at z; unfold wX11_boundOf; omega)
    obtain ⟨_, rfl, rfl⟩ := mRA3 h
    exact ⟨a1, b1⟩
def wX11_answer (i : Nat) : Prop := (2 ≤ i ∧ i ≤ 8) ∨ i = 11 ∨ (19 ≤ i ∧ i ≤ 25) ∨ (27 ≤ i ∧ i ≤ 33) ∨ (36 ≤ i ∧ i ≤ 54) ∨ (56 ≤ i ∧ i ≤ 60) ∨ (62 ≤ i ∧ i ≤ 69) ∨ (71 ≤ i ∧ i ≤ 90) ∨ (256 ≤ i ∧ i ≤ 347) ∨ i = 3000
set_option maxHeartbeats 4000000 in
theorem NX11_answer {F : Nat} {Ln Ln1 : Nat → Nat} {V V1 : mV} {v : (String ⊕ Int32)} {l1I : Int32} (h : mX11_answer F Ln l1I V = some (v, Ln1, V1)) : mAv (wX11_answer) V V1 ∧ mAl (wX11_answer) Ln Ln1 := by
  unfold mX11_answer at h
  rcases mBT_some h with ⟨E0, L0, V0, h1, h⟩ | ⟨v1, L2, V2, h1, h⟩
  · have y1 := NX11_refreshed h1
    obtain ⟨_, rfl, rfl⟩ := mRA3 h
    exact ⟨mAv.tr mAv.rf y1.1 (fun i z => by unfold wX11_refreshed at z; unfold wX11_answer; omega), mAl.tr mAl.rf y1.2 (fun i z => by unfold wX11_refreshed at z; unfold wX11_answer; omega)⟩
  · have k1 := KX11_refreshed h1
    have y1 := NX11_refreshed h1
    have a1 : mAv (wX11_answer) V V2 := mAv.tr mAv.rf y1.1 (fun i z => by unfold wX11_refreshed at z; unfold wX11_answer; omega)
    have b1 : mAl (wX11_answer) Ln L2 := mAl.tr mAl.rf y1.2 (fun i z => by unfold wX11_refreshed at z; unfold wX11_answer; omega)
    obtain ⟨c2, h⟩ := mGd_some h
    obtain ⟨_, rfl, rfl⟩ := mRA3 h
    exact ⟨a1, b1⟩
end
