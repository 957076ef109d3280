/-! WHAT EACH METHOD LEAVES ALONE: X8_continueChain, X10_reachAll, X10_judgeRows, X10_stepFrom, X10_judgeSteps, X11_put, X11_change, X11_kindOf, X1_solve, X2_solve, X4_carriesOver, X6_solveGames. -/
section
def wX8_continueChain (i : Nat) : Prop := i = 6 ∨ (62 ≤ i ∧ i ≤ 69)
def wX8_continueChain_0 (i : Nat) : Prop := i = 6 ∨ (62 ≤ i ∧ i ≤ 69)
def wX8_continueChain_1 (i : Nat) : Prop := i = 6 ∨ (62 ≤ i ∧ i ≤ 69)
set_option maxHeartbeats 4000000 in
theorem NX8_continueChain_go {F : Nat} {v : Unit} {V1 : mV} : ∀ k' : Nat, (∀ (l1I : Int32) (V : mV), mX8_continueChain_go F k' 0 l1I V = some (v, V1) → mAv (wX8_continueChain_0) V V1) ∧ (∀ (V : mV), mX8_continueChain_go F k' 1 0 V = some (v, V1) → mAv (wX8_continueChain_1) V V1) := by
  intro k'
  induction k' with
  | zero => exact ⟨(fun _ _ h => by cases h), (fun _ h => by cases h)⟩
  | succ k' ih =>
    refine ⟨?_, ?_⟩
    · intro l1I V h
      rw [mX8_continueChain_go, if_pos rfl] at h
      unfold mX8_continueChain_b0 at h
      rcases mIf_some h with ⟨_, h⟩ | ⟨_, h⟩
      · obtain ⟨c1, h⟩ := mGd_some h
        obtain ⟨v4, V5, h2, h⟩ := mBW_some h
        have z2_0 := (Nat.lt_of_not_le (fun z => c1 (Or.inr z)))
        have a2 : mAv (wX8_continueChain_0) V V5 := mAv.tr mAv.rf (NX8_makeFree h2) (fun i z => by unfold wX8_makeFree at z; unfold wX8_continueChain_0; omega)
        obtain ⟨c3, h⟩ := mGd_some h
        obtain ⟨c4, h⟩ := mGd_some h
        obtain ⟨V11, eV11, h⟩ := mLt_some h
        have a5 : mAv (wX8_continueChain_0) V V11 := by rw [eV11]; exact mAv.I a2 (by unfold wX8_continueChain_0; omega)
        obtain ⟨V12, eV12, h⟩ := mLt_some h
        have a6 : mAv (wX8_continueChain_0) V V12 := by rw [eV12]; exact mAv.F a5 (by unfold wX8_continueChain_0; omega)
        exact mAv.tr a6 (ih.2 _ h) (fun i z => by unfold wX8_continueChain_1 at z; unfold wX8_continueChain_0; omega)
      · obtain ⟨c7, h⟩ := mGd_some h
        obtain ⟨c8, h⟩ := mGd_some h
        obtain ⟨c9, h⟩ := mGd_some h
        obtain ⟨c10, h⟩ := mGd_some h
        obtain ⟨V19, eV19, h⟩ := mLt_some h
        have z11 := (Nat.lt_of_not_le (fun z => c7 (Or.inr z)))
        have a11 : mAv (wX8_continueChain_0) V V19 := by rw [eV19]; exact mAv.J mAv.rf (by unfold wX8_continueChain_0; omega)
        obtain ⟨x20, _, h⟩ := mLt_some h
        exact mAv.tr a11 (ih.1 _ _ h) (fun i z => by unfold wX8_continueChain_0 at z; unfold wX8_continueChain_0; omega)
    · intro V h
      rw [mX8_continueChain_go, if_neg (by decide), if_pos rfl] at h
      unfold mX8_continueChain_b1 at h
      rcases mIf_some h with ⟨_, h⟩ | ⟨_, h⟩
      · obtain ⟨_, rfl⟩ := mRW h
        exact mAv.rf
      · obtain ⟨c12, h⟩ := mGd_some h
        rcases mIf_some h with ⟨_, h⟩ | ⟨_, h⟩
        · obtain ⟨_, rfl⟩ := mRW h
          exact mAv.rf
        · obtain ⟨v24, V25, h13, h⟩ := mBW_some h
          have a13 : mAv (wX8_continueChain_1) V V25 := mAv.tr mAv.rf (NX8_addRest h13) (fun i z => by unfold wX8_addRest at z; unfold wX8_continueChain_1; omega)
          rcases mIf_some h with ⟨_, h⟩ | ⟨_, h⟩
          · obtain ⟨_, rfl⟩ := mRW h
            exact a13
          · obtain ⟨c14, h⟩ := mGd_some h
            obtain ⟨v32, V33, h15, h⟩ := mBW_some h
            have z15_0 := (Nat.lt_of_not_le (fun z => c14 (Or.inr z)))
            have a15 : mAv (wX8_continueChain_1) V V33 := mAv.tr a13 (NX8_makeFree h15) (fun i z => by unfold wX8_makeFree at z; unfold wX8_continueChain_1; omega)
            obtain ⟨V37, eV37, h⟩ := mLt_some h
            have a16 : mAv (wX8_continueChain_1) V V37 := by rw [eV37]; exact mAv.F a15 (by unfold wX8_continueChain_1; omega)
            exact mAv.tr a16 (ih.2 _ h) (fun i z => by unfold wX8_continueChain_1 at z; unfold wX8_continueChain_1; omega)
set_option maxHeartbeats 4000000 in
theorem NX8_continueChain {F : Nat} {V V1 : mV} {v : Unit} (h : mX8_continueChain F V = some (v, V1)) : mAv (wX8_continueChain) V V1 := by
  have ih := NX8_continueChain_go (F := F) (v := v) (V1 := V1) F
  unfold mX8_continueChain mX8_continueChain_s at h
  obtain ⟨V38, eV38, h⟩ := mLt_some h
  have a17 : mAv (wX8_continueChain) V V38 := by rw [eV38]; exact mAv.F mAv.rf (by unfold wX8_continueChain; omega)
  obtain ⟨c18, h⟩ := mGd_some h
  rcases mIf_some h with ⟨_, h⟩ | ⟨_, h⟩
  · obtain ⟨_, rfl⟩ := mRW h
    exact a17
  · obtain ⟨c19, h⟩ := mGd_some h
    obtain ⟨v43, V44, h20, h⟩ := mBW_some h
    have z20_0 := (Nat.lt_of_not_le (fun z => c19 (Or.inr z)))
    have a20 : mAv (wX8_continueChain) V V44 := mAv.tr a17 (NJ7_fill_d0a16 h20) (fun i z => by unfold wJ7_fill_d0a16 at z; unfold wX8_continueChain; omega)
    exact mAv.tr a20 (ih.1 _ _ h) (fun i z => by unfold wX8_continueChain_0 at z; unfold wX8_continueChain; omega)
def wX10_reachAll (l1A : Nat) (i : Nat) : Prop := i = 7 ∨ (71 ≤ i ∧ i ≤ 81)
def wX10_reachAll_0 (i : Nat) : Prop := (77 ≤ i ∧ i ≤ 81)
def wX10_reachAll_1 (i : Nat) : Prop := (77 ≤ i ∧ i ≤ 81)
def wX10_reachAll_2 (i : Nat) : Prop := (77 ≤ i ∧ i ≤ 81)
set_option maxHeartbeats 4000000 in
theorem NX10_reachAll_go {F : Nat} {v : Int32} {V1 : mV} : ∀ k' : Nat, (∀ (l2I : Int32) (l3I : Int32) (V : mV), mX10_reachAll_go F k' 0 l2I l3I 0 0 V = some (v, V1) → mAv (wX10_reachAll_0) V V1) ∧ (∀ (l2I : Int32) (l3I : Int32) (l4I : Int32) (V : mV), mX10_reachAll_go F k' 1 l2I l3I l4I 0 V = some (v, V1) → mAv (wX10_reachAll_1) V V1) ∧ (∀ (l2I : Int32) (l3I : Int32) (l4I : Int32) (l5I : Int32) (V : mV), mX10_reachAll_go F k' 2 l2I l3I l4I l5I V = some (v, V1) → mAv (wX10_reachAll_2) V V1) := by
  intro k'
  induction k' with
  | zero => exact ⟨(fun _ _ _ h => by cases h), (fun _ _ _ _ h => by cases h), (fun _ _ _ _ _ h => by cases h)⟩
  | succ k' ih =>
    refine ⟨?_, ?_, ?_⟩
    · intro l2I l3I V h
      rw [mX10_reachAll_go, if_pos rfl] at h
      unfold mX10_reachAll_b0 at h
      rcases mIf_some h with ⟨_, h⟩ | ⟨_, h⟩
      · obtain ⟨_, rfl⟩ := mRW h
        exact mAv.rf
      · obtain ⟨c1, h⟩ := mGd_some h
        obtain ⟨v3, V4, h2, h⟩ := mBW_some h
        have a2 : mAv (wX10_reachAll_0) V V4 := mAv.tr mAv.rf (NX10_writePoints h2) (fun i z => by unfold wX10_writePoints at z; unfold wX10_reachAll_0; omega)
        exact mAv.tr a2 (ih.2.1 _ _ _ _ h) (fun i z => by unfold wX10_reachAll_1 at z; unfold wX10_reachAll_0; omega)
    · intro l2I l3I l4I V h
      rw [mX10_reachAll_go, if_neg (by decide), if_pos rfl] at h
      unfold mX10_reachAll_b1 at h
      rcases mIf_some h with ⟨_, h⟩ | ⟨_, h⟩
      · obtain ⟨x9, _, h⟩ := mLt_some h
        exact mAv.tr mAv.rf (ih.1 _ _ _ h) (fun i z => by unfold wX10_reachAll_0 at z; unfold wX10_reachAll_1; omega)
      · exact mAv.tr mAv.rf (ih.2.2 _ _ _ _ _ h) (fun i z => by unfold wX10_reachAll_2 at z; unfold wX10_reachAll_1; omega)
    · intro l2I l3I l4I l5I V h
      rw [mX10_reachAll_go, if_neg (by decide), if_neg (by decide), if_pos rfl] at h
      unfold mX10_reachAll_b2 at h
      rcases mIf_some h with ⟨_, h⟩ | ⟨_, h⟩
      · obtain ⟨v11, _, h⟩ := mBN_some h
        obtain ⟨c3, h⟩ := mGd_some h
        rcases mIf_some h with ⟨_, h⟩ | ⟨_, h⟩
        · obtain ⟨x18, _, h⟩ := mLt_some h
          exact mAv.tr mAv.rf (ih.2.1 _ _ _ _ h) (fun i z => by unfold wX10_reachAll_1 at z; unfold wX10_reachAll_2; omega)
        · rcases mIf_some h with ⟨_, h⟩ | ⟨_, h⟩
          · obtain ⟨x20, _, h⟩ := mLt_some h
            exact mAv.tr mAv.rf (ih.2.1 _ _ _ _ h) (fun i z => by unfold wX10_reachAll_1 at z; unfold wX10_reachAll_2; omega)
          · obtain ⟨c4, h⟩ := mGd_some h
            obtain ⟨V22, eV22, h⟩ := mLt_some h
            have a5 : mAv (wX10_reachAll_2) V V22 := by rw [eV22]; exact mAv.I mAv.rf (by unfold wX10_reachAll_2; omega)
            obtain ⟨c6, h⟩ := mGd_some h
            obtain ⟨c7, h⟩ := mGd_some h
            obtain ⟨V25, eV25, h⟩ := mLt_some h
            have a8 : mAv (wX10_reachAll_2) V V25 := by rw [eV25]; exact mAv.I a5 (by unfold wX10_reachAll_2; omega)
            obtain ⟨c9, h⟩ := mGd_some h
            obtain ⟨V27, eV27, h⟩ := mLt_some h
            have a10 : mAv (wX10_reachAll_2) V V27 := by rw [eV27]; exact mAv.I a8 (by unfold wX10_reachAll_2; omega)
            obtain ⟨x28, _, h⟩ := mLt_some h
            obtain ⟨x29, _, h⟩ := mLt_some h
            exact mAv.tr a10 (ih.2.1 _ _ _ _ h) (fun i z => by unfold wX10_reachAll_1 at z; unfold wX10_reachAll_2; omega)
      · obtain ⟨c11, h⟩ := mGd_some h
        obtain ⟨c12, h⟩ := mGd_some h
        obtain ⟨c13, h⟩ := mGd_some h
        obtain ⟨c14, h⟩ := mGd_some h
        obtain ⟨V35, eV35, h⟩ := mLt_some h
        have a15 : mAv (wX10_reachAll_2) V V35 := by rw [eV35]; exact mAv.I mAv.rf (by unfold wX10_reachAll_2; omega)
        obtain ⟨x36, _, h⟩ := mLt_some h
        exact mAv.tr a15 (ih.2.2 _ _ _ _ _ h) (fun i z => by unfold wX10_reachAll_2 at z; unfold wX10_reachAll_2; omega)
set_option maxHeartbeats 4000000 in
theorem NX10_reachAll {F : Nat} {V V1 : mV} {v : Int32} {l1A : Nat} (h : mX10_reachAll F l1A V = some (v, V1)) : mAv (wX10_reachAll l1A) V V1 := by
  have ih := NX10_reachAll_go (F := F) (v := v) (V1 := V1) F
  unfold mX10_reachAll mX10_reachAll_s at h
  obtain ⟨v37, V38, h16, h⟩ := mBW_some h
  have a16 : mAv (wX10_reachAll l1A) V V38 := mAv.tr mAv.rf (NX10_loadItems h16) (fun i z => by unfold wX10_loadItems at z; unfold wX10_reachAll; omega)
  obtain ⟨v42, V43, h17, h⟩ := mBW_some h
  have a17 : mAv (wX10_reachAll l1A) V V43 := mAv.tr a16 (NJ7_fill_53178 h17) (fun i z => by unfold wJ7_fill_53178 at z; unfold wX10_reachAll; omega)
  obtain ⟨c18, h⟩ := mGd_some h
  obtain ⟨V48, eV48, h⟩ := mLt_some h
  have a19 : mAv (wX10_reachAll l1A) V V48 := by rw [eV48]; exact mAv.I a17 (by unfold wX10_reachAll; omega)
  obtain ⟨c20, h⟩ := mGd_some h
  obtain ⟨V50, eV50, h⟩ := mLt_some h
  have a21 : mAv (wX10_reachAll l1A) V V50 := by rw [eV50]; exact mAv.I a19 (by unfold wX10_reachAll; omega)
  exact mAv.tr a21 (ih.1 _ _ _ h) (fun i z => by unfold wX10_reachAll_0 at z; unfold wX10_reachAll; omega)
def wX10_judgeRows (l1A : Nat) (l2A : Nat) (i : Nat) : Prop := i = 7 ∨ (71 ≤ i ∧ i ≤ 78)
def wX10_judgeRows_0 (l2A : Nat) (i : Nat) : Prop := (77 ≤ i ∧ i ≤ 78)
def wX10_judgeRows_1 (l2A : Nat) (i : Nat) : Prop := (77 ≤ i ∧ i ≤ 78)
set_option maxHeartbeats 4000000 in
theorem NX10_judgeRows_go {F : Nat} {v : Int32} {V1 : mV} : ∀ k' : Nat, (∀ (l2A : Nat) (l3I : Int32) (l4I : Int32) (Ln : Nat → Nat) (V : mV), mX10_judgeRows_go F k' 0 Ln l2A l3I l4I V = some (v, V1) → mAv (wX10_judgeRows_0 l2A) V V1) ∧ (∀ (l2A : Nat) (l3I : Int32) (l4I : Int32) (Ln : Nat → Nat) (V : mV), mX10_judgeRows_go F k' 1 Ln l2A l3I l4I V = some (v, V1) → mAv (wX10_judgeRows_1 l2A) V V1) := by
  intro k'
  induction k' with
  | zero => exact ⟨(fun _ _ _ _ _ h => by cases h), (fun _ _ _ _ _ h => by cases h)⟩
  | succ k' ih =>
    refine ⟨?_, ?_⟩
    · intro l2A l3I l4I Ln V h
      rw [mX10_judgeRows_go, if_pos rfl] at h
      unfold mX10_judgeRows_b0 at h
      rcases mIf_some h with ⟨_, h⟩ | ⟨_, h⟩
      · obtain ⟨v2, _, h⟩ := mBN_some h
        obtain ⟨v7, _, h⟩ := mBN_some h
        rcases mIf_some h with ⟨_, h⟩ | ⟨_, h⟩
        · obtain ⟨_, rfl⟩ := mRW h
          exact mAv.rf
        · exact mAv.tr mAv.rf (ih.2 _ _ _ _ _ h) (fun i z => by unfold wX10_judgeRows_1 at z; unfold wX10_judgeRows_0; omega)
      · obtain ⟨c1, h⟩ := mGd_some h
        obtain ⟨V14, eV14, h⟩ := mLt_some h
        have a2 : mAv (wX10_judgeRows_0 l2A) V V14 := by rw [eV14]; exact mAv.I mAv.rf (by unfold wX10_judgeRows_0; omega)
        obtain ⟨x15, _, h⟩ := mLt_some h
        exact mAv.tr a2 (ih.1 _ _ _ _ _ h) (fun i z => by unfold wX10_judgeRows_0 at z; unfold wX10_judgeRows_0; omega)
    · intro l2A l3I l4I Ln V h
      rw [mX10_judgeRows_go, if_neg (by decide), if_pos rfl] at h
      unfold mX10_judgeRows_b1 at h
      rcases mIf_some h with ⟨_, h⟩ | ⟨_, h⟩
      · obtain ⟨v17, _, h⟩ := mBN_some h
        obtain ⟨v22, _, h⟩ := mBN_some h
        rcases mIf_some h with ⟨_, h⟩ | ⟨_, h⟩
        · obtain ⟨_, rfl⟩ := mRW h
          exact mAv.rf
        · obtain ⟨_, rfl⟩ := mRW h
          exact mAv.rf
      · obtain ⟨v28, V29, h3, h⟩ := mBW_some h
        have a3 : mAv (wX10_judgeRows_1 l2A) V V29 := mAv.tr mAv.rf (NX10_isLedWithin h3) (fun i z => by unfold wX10_isLedWithin at z; unfold wX10_judgeRows_1; omega)
        rcases mIf_some h with ⟨_, h⟩ | ⟨_, h⟩
        · obtain ⟨_, rfl⟩ := mRW h
          exact a3
        · obtain ⟨x34, _, h⟩ := mLt_some h
          exact mAv.tr a3 (ih.2 _ _ _ _ _ h) (fun i z => by unfold wX10_judgeRows_1 at z; unfold wX10_judgeRows_1; omega)
set_option maxHeartbeats 4000000 in
theorem NX10_judgeRows {F : Nat} {Ln : Nat → Nat} {V V1 : mV} {v : Int32} {l1A : Nat} {l2A : Nat} (h : mX10_judgeRows F Ln l1A l2A V = some (v, V1)) : mAv (wX10_judgeRows l1A l2A) V V1 := by
  have ih := NX10_judgeRows_go (F := F) (v := v) (V1 := V1) F
  unfold mX10_judgeRows mX10_judgeRows_s at h
  obtain ⟨v35, V36, h4, h⟩ := mBW_some h
  have a4 : mAv (wX10_judgeRows l1A l2A) V V36 := mAv.tr mAv.rf (NX10_loadItems h4) (fun i z => by unfold wX10_loadItems at z; unfold wX10_judgeRows; omega)
  obtain ⟨v40, _, h⟩ := mBN_some h
  rcases mIf_some h with ⟨_, h⟩ | ⟨_, h⟩
  · obtain ⟨_, rfl⟩ := mRW h
    exact a4
  · rcases mIf_some h with ⟨_, h⟩ | ⟨_, h⟩
    · obtain ⟨_, rfl⟩ := mRW h
      exact a4
    · rcases mIf_some h with ⟨_, h⟩ | ⟨_, h⟩
      · obtain ⟨_, rfl⟩ := mRW h
        exact a4
      · obtain ⟨v48, _, h⟩ := mBN_some h
        rcases mIf_some h with ⟨_, h⟩ | ⟨_, h⟩
        · obtain ⟨_, rfl⟩ := mRW h
          exact a4
        · obtain ⟨v54, V55, h5, h⟩ := mBW_some h
          have a5 : mAv (wX10_judgeRows l1A l2A) V V55 := mAv.tr a4 (NX10_areRowsOf h5) (fun i z => by unfold wX10_areRowsOf at z; unfold wX10_judgeRows; omega)
          rcases mIf_some h with ⟨_, h⟩ | ⟨_, h⟩
          · obtain ⟨_, rfl⟩ := mRW h
            exact a5
          · exact mAv.tr a5 (ih.1 _ _ _ _ _ h) (fun i z => by unfold wX10_judgeRows_0 at z; unfold wX10_judgeRows; omega)
def wX10_stepFrom (l1A : Nat) (i : Nat) : Prop := i = 7 ∨ i = 79 ∨ (82 ≤ i ∧ i ≤ 83)
def wX10_stepFrom_0 (l1A : Nat) (i : Nat) : Prop := i = 7 ∨ i = 79 ∨ (82 ≤ i ∧ i ≤ 83)
def wX10_stepFrom_1 (l1A : Nat) (i : Nat) : Prop := i = 7 ∨ i = 79 ∨ (82 ≤ i ∧ i ≤ 83)
set_option maxHeartbeats 4000000 in
theorem NX10_stepFrom_go {F : Nat} {v : Int32} {V1 : mV} : ∀ k' : Nat, (∀ (l1A : Nat) (l3I : Int32) (l4I : Int32) (V : mV), mX10_stepFrom_go F k' 0 l1A l3I l4I 0 V = some (v, V1) → mAv (wX10_stepFrom_0 l1A) V V1) ∧ (∀ (l1A : Nat) (l3I : Int32) (l4I : Int32) (l5I : Int32) (V : mV), mX10_stepFrom_go F k' 1 l1A l3I l4I l5I V = some (v, V1) → mAv (wX10_stepFrom_1 l1A) V V1) := by
  intro k'
  induction k' with
  | zero => exact ⟨(fun _ _ _ _ h => by cases h), (fun _ _ _ _ _ h => by cases h)⟩
  | succ k' ih =>
    refine ⟨?_, ?_⟩
    · intro l1A l3I l4I V h
      rw [mX10_stepFrom_go, if_pos rfl] at h
      unfold mX10_stepFrom_b0 at h
      rcases mIf_some h with ⟨_, h⟩ | ⟨_, h⟩
      · obtain ⟨_, rfl⟩ := mRW h
        exact mAv.rf
      · obtain ⟨c1, h⟩ := mGd_some h
        obtain ⟨v3, V4, h2, h⟩ := mBW_some h
        have a2 : mAv (wX10_stepFrom_0 l1A) V V4 := mAv.tr mAv.rf (NX10_findNext h2) (fun i z => by unfold wX10_findNext at z; unfold wX10_stepFrom_0; omega)
        exact mAv.tr a2 (ih.2 _ _ _ _ _ h) (fun i z => by unfold wX10_stepFrom_1 at z; unfold wX10_stepFrom_0; omega)
    · intro l1A l3I l4I l5I V h
      rw [mX10_stepFrom_go, if_neg (by decide), if_pos rfl] at h
      unfold mX10_stepFrom_b1 at h
      rcases mIf_some h with ⟨_, h⟩ | ⟨_, h⟩
      · obtain ⟨x9, _, h⟩ := mLt_some h
        exact mAv.tr mAv.rf (ih.1 _ _ _ _ h) (fun i z => by unfold wX10_stepFrom_0 at z; unfold wX10_stepFrom_1; omega)
      · obtain ⟨c3, h⟩ := mGd_some h
        obtain ⟨c4, h⟩ := mGd_some h
        rcases mIf_some h with ⟨_, h⟩ | ⟨_, h⟩
        · obtain ⟨x13, _, h⟩ := mLt_some h
          exact mAv.tr mAv.rf (ih.2 _ _ _ _ _ h) (fun i z => by unfold wX10_stepFrom_1 at z; unfold wX10_stepFrom_1; omega)
        · rcases mIf_some h with ⟨_, h⟩ | ⟨_, h⟩
          · obtain ⟨x15, _, h⟩ := mLt_some h
            exact mAv.tr mAv.rf (ih.2 _ _ _ _ _ h) (fun i z => by unfold wX10_stepFrom_1 at z; unfold wX10_stepFrom_1; omega)
          · obtain ⟨c5, h⟩ := mGd_some h
            obtain ⟨c6, h⟩ := mGd_some h
            obtain ⟨c7, h⟩ := mGd_some h
            obtain ⟨c8, h⟩ := mGd_some h
            obtain ⟨V20, eV20, h⟩ := mLt_some h
            have a9 : mAv (wX10_stepFrom_1 l1A) V V20 := by rw [eV20]; exact mAv.I mAv.rf (by unfold wX10_stepFrom_1; omega)
            obtain ⟨c10, h⟩ := mGd_some h
            obtain ⟨c11, h⟩ := mGd_some h
            obtain ⟨V23, eV23, h⟩ := mLt_some h
            have a12 : mAv (wX10_stepFrom_1 l1A) V V23 := by rw [eV23]; exact mAv.I a9 (by unfold wX10_stepFrom_1; omega)
            obtain ⟨x24, _, h⟩ := mLt_some h
            obtain ⟨x25, _, h⟩ := mLt_some h
            exact mAv.tr a12 (ih.2 _ _ _ _ _ h) (fun i z => by unfold wX10_stepFrom_1 at z; unfold wX10_stepFrom_1; omega)
set_option maxHeartbeats 4000000 in
theorem NX10_stepFrom {F : Nat} {V V1 : mV} {v : Int32} {l1A : Nat} {l2I : Int32} (h : mX10_stepFrom F l1A l2I V = some (v, V1)) : mAv (wX10_stepFrom l1A) V V1 := by
  have ih := NX10_stepFrom_go (F := F) (v := v) (V1 := V1) F
  unfold mX10_stepFrom mX10_stepFrom_s at h
  obtain ⟨v26, V27, h13, h⟩ := mBW_some h
  have a13 : mAv (wX10_stepFrom l1A) V V27 := mAv.tr mAv.rf (NJ7_fill_53178 h13) (fun i z => by unfold wJ7_fill_53178 at z; unfold wX10_stepFrom; omega)
  obtain ⟨c14, h⟩ := mGd_some h
  obtain ⟨V32, eV32, h⟩ := mLt_some h
  have a15 : mAv (wX10_stepFrom l1A) V V32 := by rw [eV32]; exact mAv.I a13 (by unfold wX10_stepFrom; omega)
  obtain ⟨c16, h⟩ := mGd_some h
  obtain ⟨V34, eV34, h⟩ := mLt_some h
  have a17 : mAv (wX10_stepFrom l1A) V V34 := by rw [eV34]; exact mAv.I a15 (by unfold wX10_stepFrom; omega)
  exact mAv.tr a17 (ih.1 _ _ _ _ h) (fun i z => by unfold wX10_stepFrom_0 at z; unfold wX10_stepFrom; omega)
def wX10_judgeSteps (l1A : Nat) (l2A : Nat) (i : Nat) : Prop := i = 7 ∨ i = 83
def wX10_judgeSteps_0 (l1A : Nat) (l2A : Nat) (i : Nat) : Prop := i = 7 ∨ i = 83
set_option maxHeartbeats 4000000 in
theorem NX10_judgeSteps_go {F : Nat} {v : Int32} {V1 : mV} : ∀ k' : Nat, (∀ (l1A : Nat) (l2A : Nat) (l3I : Int32) (l4I : Int32) (Ln : Nat → Nat) (V : mV), mX10_judgeSteps_go F k' 0 Ln l1A l2A l3I l4I V = some (v, V1) → mAv (wX10_judgeSteps_0 l1A l2A) V V1) := by
  intro k'
  induction k' with
  | zero => exact (fun _ _ _ _ _ _ h => by cases h)
  | succ k' ih =>
    intro l1A l2A l3I l4I Ln V h
    rw [mX10_judgeSteps_go, if_pos rfl] at h
    unfold mX10_judgeSteps_b0 at h
    rcases mIf_some h with ⟨_, h⟩ | ⟨_, h⟩
    · obtain ⟨_, rfl⟩ := mRW h
      exact mAv.rf
    · obtain ⟨v2, _, h⟩ := mBN_some h
      obtain ⟨v7, _, h⟩ := mBN_some h
      obtain ⟨v12, V13, h1, h⟩ := mBW_some h
      have a1 : mAv (wX10_judgeSteps_0 l1A l2A) V V13 := mAv.tr mAv.rf (NX10_isNext h1) (fun i z => by unfold wX10_isNext at z; unfold wX10_judgeSteps_0; omega)
      rcases mIf_some h with ⟨_, h⟩ | ⟨_, h⟩
      · obtain ⟨_, rfl⟩ := mRW h
        exact a1
      · obtain ⟨x18, _, h⟩ := mLt_some h
        exact mAv.tr a1 (ih _ _ _ _ _ _ h) (fun i z => by unfold wX10_judgeSteps_0 at z; unfold wX10_judgeSteps_0; omega)
set_option maxHeartbeats 4000000 in
theorem NX10_judgeSteps {F : Nat} {Ln : Nat → Nat} {V V1 : mV} {v : Int32} {l1A : Nat} {l2A : Nat} (h : mX10_judgeSteps F Ln l1A l2A V = some (v, V1)) : mAv (wX10_judgeSteps l1A l2A) V V1 := by
  have ih := NX10_judgeSteps_go (F := F) (v := v) (V1 := V1) F
  unfold mX10_judgeSteps mX10_judgeSteps_s at h
  obtain ⟨x19, _, h⟩ := mLt_some h
  rcases mIf_some h with ⟨_, h⟩ | ⟨_, h⟩
  · obtain ⟨_, rfl⟩ := mRW h
    exact mAv.rf
  · obtain ⟨v21, _, h⟩ := mBN_some h
    obtain ⟨v26, _, h⟩ := mBN_some h
    rcases mIf_some h with ⟨_, h⟩ | ⟨_, h⟩
    · obtain ⟨_, rfl⟩ := mRW h
      exact mAv.rf
    · obtain ⟨v32, _, h⟩ := mBN_some h
      obtain ⟨v37, _, h⟩ := mBN_some h
      rcases mIf_some h with ⟨_, h⟩ | ⟨_, h⟩
      · obtain ⟨v43, _, h⟩ := mBN_some h
        obtain ⟨v48, _, h⟩ := mBN_some h
        rcases mIf_some h with ⟨_, h⟩ | ⟨_, h⟩
        · exact mAv.tr mAv.rf (ih _ _ _ _ _ _ h) (fun i z => by unfold wX10_judgeSteps_0 at z; unfold wX10_judgeSteps; omega)
        · obtain ⟨_, rfl⟩ := mRW h
          exact mAv.rf
      · obtain ⟨_, rfl⟩ := mRW h
        exact mAv.rf
def wX11_put (i : Nat) : Prop := i = 0 ∨ i = 12 ∨ (14 ≤ i ∧ i ≤ 15) ∨ (256 ≤ i ∧ i ≤ 345) ∨ (352 ≤ i ∧ i ≤ 537) ∨ i = 3000
set_option maxHeartbeats 4000000 in
theorem NX11_put {F : Nat} {Ln Ln1 : Nat → Nat} {V V1 : mV} {v : (String ⊕ Int32)} {l1I : Int32} {l2I : Int32} {l3I : Int32} {l4I : Int32} {l5I : Int32} {l6I : Int32} (h : mX11_put F Ln l1I l2I l3I l4I l5I l6I V = some (v, Ln1, V1)) : mAv (wX11_put) V V1 ∧ mAl (wX11_put) Ln Ln1 := by
  unfold mX11_put at h
  rcases mBT_some h with ⟨E0, L0, V0, h1, h⟩ | ⟨v1, L2, V2, h1, h⟩
  · have y1 := NX11_entryAt h1
    obtain ⟨_, rfl, rfl⟩ := mRA3 h
    exact ⟨mAv.tr mAv.rf y1.1 (fun i z => by unfold wX11_entryAt at z; unfold wX11_put; omega), mAl.tr mAl.rf y1.2 (fun i z => by unfold wX11_entryAt at z; unfold wX11_put; omega)⟩
  · have k1 := KX11_entryAt h1
    have y1 := NX11_entryAt h1
    have a1 : mAv (wX11_put) V V2 := mAv.tr mAv.rf y1.1 (fun i z => by unfold wX11_entryAt at z; unfold wX11_put; omega)
    have b1 : mAl (wX11_put) Ln L2 := mAl.tr mAl.rf y1.2 (fun i z => by unfold wX11_entryAt at z; unfold wX11_put; omega)
    obtain ⟨v6, V7, h2, h⟩ := mBW_some h
    have a2 : mAv (wX11_put) V V7 := mAv.tr a1 (NX11_tellNumbers h2) (fun i z => by unfold wX11_tellNumbers at z; unfold wX11_put; omega)
    rcases mBT_some h with ⟨E0, L0, V0, h3, h⟩ | ⟨v11, L12, V12, h3, h⟩
    · have y3 := NX11_testItem h3
      obtain ⟨_, rfl, rfl⟩ := mRA3 h
      exact ⟨mAv.tr a2 y3.1 (fun i z => by unfold wX11_testItem at z; unfold wX11_put; omega), mAl.tr b1 y3.2 (fun i z => by unfold wX11_testItem at z; unfold wX11_put; omega)⟩
    · have y3 := NX11_testItem h3
      have a3 : mAv (wX11_put) V V12 := mAv.tr a2 y3.1 (fun i z => by unfold wX11_testItem at z; unfold wX11_put; omega)
      have b3 : mAl (wX11_put) Ln L12 := mAl.tr b1 y3.2 (fun i z => by unfold wX11_testItem at z; unfold wX11_put; omega)
      obtain ⟨v16, _, h⟩ := mBN_some h
      rcases mIf_some h with ⟨_, h⟩ | ⟨_, h⟩
      · obtain ⟨v22, V23, h4, h⟩ := mBW_some h
        have a4 : mAv (wX11_put) V V23 := mAv.tr a3 (NX11_remember h4) (fun i z => by unfold wX11_remember at z; unfold wX11_put; omega)
        obtain ⟨v27, V28, h5, h⟩ := mBW_some h
        have a5 : mAv (wX11_put) V V28 := mAv.tr a4 (NX3_setItem h5) (fun i z => by unfold wX3_setItem at z; unfold wX11_put; omega)
        obtain ⟨V32, eV32, h⟩ := mLt_some h
        have a6 : mAv (wX11_put) V V32 := by rw [eV32]; exact mAv.F a5 (by unfold wX11_put; omega)
        obtain ⟨V33, eV33, h⟩ := mLt_some h
        have a7 : mAv (wX11_put) V V33 := by rw [eV33]; exact mAv.F a6 (by unfold wX11_put; omega)
        obtain ⟨_, rfl, rfl⟩ := mRA3 h
        exact ⟨a7, b3⟩
      · obtain ⟨_, rfl, rfl, _⟩ := mTh_some h
        exact ⟨a3, mAl.up b3 (by unfold wX11_put; omega)⟩
def wX11_change (i : Nat) : Prop := i = 0 ∨ i = 12 ∨ (14 ≤ i ∧ i ≤ 15) ∨ (256 ≤ i ∧ i ≤ 345) ∨ (352 ≤ i ∧ i ≤ 537) ∨ i = 3000
set_option maxHeartbeats 4000000 in
theorem NX11_change {F : Nat} {Ln Ln1 : Nat → Nat} {V V1 : mV} {v : (String ⊕ Int32)} {l1I : Int32} {l2I : Int32} {l3I : Int32} {l4I : Int32} {l5I : Int32} {l6I : Int32} {l7I : Int32} (h : mX11_change F Ln l1I l2I l3I l4I l5I l6I l7I V = some (v, Ln1, V1)) : mAv (wX11_change) V V1 ∧ mAl (wX11_change) Ln Ln1 := by
  unfold mX11_change at h
  rcases mBT_some h with ⟨E0, L0, V0, h1, h⟩ | ⟨v1, L2, V2, h1, h⟩
  · have y1 := NX11_entryAt h1
    obtain ⟨_, rfl, rfl⟩ := mRA3 h
    exact ⟨mAv.tr mAv.rf y1.1 (fun i z => by unfold wX11_entryAt at z; unfold wX11_change; omega), mAl.tr mAl.rf y1.2 (fun i z => by unfold wX11_entryAt at z; unfold wX11_change; omega)⟩
  · have k1 := KX11_entryAt h1
    have y1 := NX11_entryAt h1
    have a1 : mAv (wX11_change) V V2 := mAv.tr mAv.rf y1.1 (fun i z => by unfold wX11_entryAt at z; unfold wX11_change; omega)
    have b1 : mAl (wX11_change) Ln L2 := mAl.tr mAl.rf y1.2 (fun i z => by unfold wX11_entryAt at z; unfold wX11_change; omega)
    rcases mBT_some h with ⟨E0, L0, V0, h2, h⟩ | ⟨v6, L7, V7, h2, h⟩
    · have y2 := NX11_testPlace h2
      obtain ⟨_, rfl, rfl⟩ := mRA3 h
      exact ⟨mAv.tr a1 y2.1 (fun i z => by unfold wX11_testPlace at z; unfold wX11_change; omega), mAl.tr b1 y2.2 (fun i z => by unfold wX11_testPlace at z; unfold wX11_change; omega)⟩
    · have y2 := NX11_testPlace h2
      have a2 : mAv (wX11_change) V V7 := mAv.tr a1 y2.1 (fun i z => by unfold wX11_testPlace at z; unfold wX11_change; omega)
      have b2 : mAl (wX11_change) Ln L7 := mAl.tr b1 y2.2 (fun i z => by unfold wX11_testPlace at z; unfold wX11_change; omega)
      obtain ⟨v11, V12, h3, h⟩ := mBW_some h
      have a3 : mAv (wX11_change) V V12 := mAv.tr a2 (NX11_tellNumbers h3) (fun i z => by unfold wX11_tellNumbers at z; unfold wX11_change; omega)
      rcases mBT_some h with ⟨E0, L0, V0, h4, h⟩ | ⟨v16, L17, V17, h4, h⟩
      · have y4 := NX11_testItem h4
        obtain ⟨_, rfl, rfl⟩ := mRA3 h
        exact ⟨mAv.tr a3 y4.1 (fun i z => by unfold wX11_testItem at z; unfold wX11_change; omega), mAl.tr b2 y4.2 (fun i z => by unfold wX11_testItem at z; unfold wX11_change; omega)⟩
      · have y4 := NX11_testItem h4
        have a4 : mAv (wX11_change) V V17 := mAv.tr a3 y4.1 (fun i z => by unfold wX11_testItem at z; unfold wX11_change; omega)
        have b4 : mAl (wX11_change) Ln L17 := mAl.tr b2 y4.2 (fun i z => by unfold wX11_testItem at z; unfold wX11_change; omega)
        obtain ⟨v21, V22, h5, h⟩ := mBW_some h
        have a5 : mAv (wX11_change) V V22 := mAv.tr a4 (NX11_remember h5) (fun i z => by unfold wX11_remember at z; unfold wX11_change; omega)
        obtain ⟨v26, _, h⟩ := mBN_some h
        obtain ⟨v31, V32, h6, h⟩ := mBW_some h
        have a6 : mAv (wX11_change) V V32 := mAv.tr a5 (NX3_setItem h6) (fun i z => by unfold wX3_setItem at z; unfold wX11_change; omega)
        obtain ⟨V36, eV36, h⟩ := mLt_some h
        have a7 : mAv (wX11_change) V V36 := by rw [eV36]; exact mAv.F a6 (by unfold wX11_change; omega)
        obtain ⟨_, rfl, rfl⟩ := mRA3 h
        exact ⟨a7, b4⟩
def wX11_kindOf (i : Nat) : Prop := i = 3000
set_option maxHeartbeats 4000000 in
theorem NX11_kindOf {F : Nat} {Ln Ln1 : Nat → Nat} {V V1 : mV} {v : (String ⊕ Int32)} {l1I : Int32} (h : mX11_kindOf F Ln l1I V = some (v, Ln1, V1)) : mAv (wX11_kindOf) V V1 ∧ mAl (wX11_kindOf) Ln Ln1 := by
  unfold mX11_kindOf at h
  rcases mBT_some h with ⟨E0, L0, V0, h1, h⟩ | ⟨v1, L2, V2, h1, h⟩
  · have y1 := NX11_entryAt h1
    obtain ⟨_, rfl, rfl⟩ := mRA3 h
    exact ⟨mAv.tr mAv.rf y1.1 (fun i z => by unfold wX11_entryAt at z; unfold wX11_kindOf; omega), mAl.tr mAl.rf y1.2 (fun i z => by unfold wX11_entryAt at z; unfold wX11_kindOf; omega)⟩
  · have k1 := KX11_entryAt h1
    have y1 := NX11_entryAt h1
    have a1 : mAv (wX11_kindOf) V V2 := mAv.tr mAv.rf y1.1 (fun i z => by unfold wX11_entryAt at z; unfold wX11_kindOf; omega)
    have b1 : mAl (wX11_kindOf) Ln L2 := mAl.tr mAl.rf y1.2 (fun i z => by unfold wX11_entryAt at z; unfold wX11_kindOf; omega)
    obtain ⟨v6, _, h⟩ := mBN_some h
    obtain ⟨c2, h⟩ := mGd_some h
    obtain ⟨_, rfl, rfl⟩ := mRA3 h
    exact ⟨a1, b1⟩
def wX1_solve (l1A : Nat) (i : Nat) : Prop := i = 5 ∨ (52 ≤ i ∧ i ≤ 53) ∨ i = l1A ∨ i = l1A + 2 ∨ i = l1A + 3
def wX1_solve_0 (l1A : Nat) (i : Nat) : Prop := i = 5 ∨ (52 ≤ i ∧ i ≤ 53) ∨ i = l1A ∨ i = l1A + 2 ∨ i = l1A + 3
set_option maxHeartbeats 4000000 in
theorem NX1_solve_go {F : Nat} {v : Unit} {Ln1 : Nat → Nat} {V1 : mV} : ∀ k' : Nat, (∀ (l1A : Nat) (l2I : Int32) (l3I : Int32) (l4I : Int32) (Ln : Nat → Nat) (V : mV), mX1_solve_go F k' 0 Ln l1A l2I l3I l4I V = some (v, Ln1, V1) → mAv (wX1_solve_0 l1A) V V1 ∧ mAl (wX1_solve_0 l1A) Ln Ln1) := by
  intro k'
  induction k' with
  | zero => exact (fun _ _ _ _ _ _ h => by cases h)
  | succ k' ih =>
    intro l1A l2I l3I l4I Ln V h
    rw [mX1_solve_go, if_pos rfl] at h
    unfold mX1_solve_b0 at h
    rcases mIf_some h with ⟨_, h⟩ | ⟨_, h⟩
    · rcases mIf_some h with ⟨_, h⟩ | ⟨_, h⟩
      · obtain ⟨v3, V4, h1, h⟩ := mBW_some h
        have a1 : mAv (wX1_solve_0 l1A) V V4 := mAv.tr mAv.rf (NX3_tell h1) (fun i z => by unfold wX3_tell at z; unfold wX1_solve_0; omega)
        rcases mIf_some h with ⟨_, h⟩ | ⟨_, h⟩
        · obtain ⟨v9, L10, V10, h2, h⟩ := mBA_some h
          have y2 := NX1_goThrough h2
          have a2 : mAv (wX1_solve_0 l1A) V V10 := mAv.tr a1 y2.1 (fun i z => by unfold wX1_goThrough at z; unfold wX1_solve_0; omega)
          have b2 : mAl (wX1_solve_0 l1A) Ln L10 := mAl.tr mAl.rf y2.2 (fun i z => by unfold wX1_goThrough at z; unfold wX1_solve_0; omega)
          obtain ⟨_, rfl, rfl⟩ := mRA3 h
          exact ⟨a2, b2⟩
        · obtain ⟨_, rfl, rfl⟩ := mRA3 h
          exact ⟨a1, mAl.rf⟩
      · obtain ⟨v14, V15, h3, h⟩ := mBW_some h
        have a3 : mAv (wX1_solve_0 l1A) V V15 := mAv.tr mAv.rf (NX3_tell h3) (fun i z => by unfold wX3_tell at z; unfold wX1_solve_0; omega)
        rcases mIf_some h with ⟨_, h⟩ | ⟨_, h⟩
        · obtain ⟨v20, L21, V21, h4, h⟩ := mBA_some h
          have y4 := NX1_goThrough h4
          have a4 : mAv (wX1_solve_0 l1A) V V21 := mAv.tr a3 y4.1 (fun i z => by unfold wX1_goThrough at z; unfold wX1_solve_0; omega)
          have b4 : mAl (wX1_solve_0 l1A) Ln L21 := mAl.tr mAl.rf y4.2 (fun i z => by unfold wX1_goThrough at z; unfold wX1_solve_0; omega)
          obtain ⟨_, rfl, rfl⟩ := mRA3 h
          exact ⟨a4, b4⟩
        · obtain ⟨_, rfl, rfl⟩ := mRA3 h
          exact ⟨a3, mAl.rf⟩
    · obtain ⟨v25, V26, h5, h⟩ := mBW_some h
      have a5 : mAv (wX1_solve_0 l1A) V V26 := mAv.tr mAv.rf (NX1_isFulfilled h5) (fun i z => by unfold wX1_isFulfilled at z; unfold wX1_solve_0; omega)
      rcases mIf_some h with ⟨_, h⟩ | ⟨_, h⟩
      · obtain ⟨x31, _, h⟩ := mLt_some h
        have y := ih _ _ _ _ _ _ h
        exact ⟨mAv.tr a5 y.1 (fun i z => by unfold wX1_solve_0 at z; unfold wX1_solve_0; omega), mAl.tr mAl.rf y.2 (fun i z => by unfold wX1_solve_0 at z; unfold wX1_solve_0; omega)⟩
      · rcases mIf_some h with ⟨_, h⟩ | ⟨_, h⟩
        · obtain ⟨v35, L36, V36, h6, h⟩ := mBA_some h
          have y6 := NX1_writeTruths h6
          have a6 : mAv (wX1_solve_0 l1A) V V36 := mAv.tr a5 y6.1 (fun i z => by unfold wX1_writeTruths at z; unfold wX1_solve_0; omega)
          have b6 : mAl (wX1_solve_0 l1A) Ln L36 := mAl.tr mAl.rf y6.2 (fun i z => by unfold wX1_writeTruths at z; unfold wX1_solve_0; omega)
          obtain ⟨x40, _, h⟩ := mLt_some h
          obtain ⟨x41, _, h⟩ := mLt_some h
          have y := ih _ _ _ _ _ _ h
          exact ⟨mAv.tr a6 y.1 (fun i z => by unfold wX1_solve_0 at z; unfold wX1_solve_0; omega), mAl.tr b6 y.2 (fun i z => by unfold wX1_solve_0 at z; unfold wX1_solve_0; omega)⟩
        · obtain ⟨x33, _, h⟩ := mLt_some h
          obtain ⟨x34, _, h⟩ := mLt_some h
          have y := ih _ _ _ _ _ _ h
          exact ⟨mAv.tr a5 y.1 (fun i z => by unfold wX1_solve_0 at z; unfold wX1_solve_0; omega), mAl.tr mAl.rf y.2 (fun i z => by unfold wX1_solve_0 at z; unfold wX1_solve_0; omega)⟩
set_option maxHeartbeats 4000000 in
theorem NX1_solve {F : Nat} {Ln Ln1 : Nat → Nat} {V V1 : mV} {v : Unit} {l1A : Nat} (h : mX1_solve F Ln l1A V = some (v, Ln1, V1)) : mAv (wX1_solve l1A) V V1 ∧ mAl (wX1_solve l1A) Ln Ln1 := by
  have ih := NX1_solve_go (F := F) (v := v) (Ln1 := Ln1) (V1 := V1) F
  unfold mX1_solve mX1_solve_s at h
  obtain ⟨x42, _, h⟩ := mLt_some h
  have y := ih _ _ _ _ _ _ h
  exact ⟨mAv.tr mAv.rf y.1 (fun i z => by unfold wX1_solve_0 at z; unfold wX1_solve; omega), mAl.tr mAl.rf y.2 (fun i z => by unfold wX1_solve_0 at z; unfold wX1_solve; omega)⟩
def wX2_solve (l1A : Nat) (i : Nat) : Prop := i = 3 ∨ (27 ≤ i ∧ i ≤ 33) ∨ i = l1A ∨ i = l1A + 2 ∨ i = l1A + 3
def wX2_solve_0 (l1A : Nat) (i : Nat) : Prop := i = l1A ∨ i = l1A + 2 ∨ i = l1A + 3
set_option maxHeartbeats 4000000 in
theorem NX2_solve_go {F : Nat} {v : Unit} {Ln1 : Nat → Nat} {V1 : mV} : ∀ k' : Nat, (∀ (l1A : Nat) (l3I : Int32) (Ln : Nat → Nat) (V : mV), mX2_solve_go F k' 0 Ln l1A l3I V = some (v, Ln1, V1) → mAv (wX2_solve_0 l1A) V V1 ∧ mAl (wX2_solve_0 l1A) Ln Ln1) := by
  intro k'
  induction k' with
  | zero => exact (fun _ _ _ _ h => by cases h)
  | succ k' ih =>
    intro l1A l3I Ln V h
    rw [mX2_solve_go, if_pos rfl] at h
    unfold mX2_solve_b0 at h
    rcases mIf_some h with ⟨_, h⟩ | ⟨_, h⟩
    · obtain ⟨v2, _, h⟩ := mBN_some h
      obtain ⟨v7, V8, h1, h⟩ := mBW_some h
      have a1 : mAv (wX2_solve_0 l1A) V V8 := mAv.tr mAv.rf (NX3_tell h1) (fun i z => by unfold wX3_tell at z; unfold wX2_solve_0; omega)
      obtain ⟨_, rfl, rfl⟩ := mRA3 h
      exact ⟨a1, mAl.rf⟩
    · obtain ⟨c2, h⟩ := mGd_some h
      obtain ⟨v13, L14, V14, h3, h⟩ := mBA_some h
      have y3 := NX9_add h3
      have a3 : mAv (wX2_solve_0 l1A) V V14 := mAv.tr mAv.rf y3.1 (fun i z => by unfold wX9_add at z; unfold wX2_solve_0; omega)
      have b3 : mAl (wX2_solve_0 l1A) Ln L14 := mAl.tr mAl.rf y3.2 (fun i z => by unfold wX9_add at z; unfold wX2_solve_0; omega)
      obtain ⟨x18, _, h⟩ := mLt_some h
      have y := ih _ _ _ _ h
      exact ⟨mAv.tr a3 y.1 (fun i z => by unfold wX2_solve_0 at z; unfold wX2_solve_0; omega), mAl.tr b3 y.2 (fun i z => by unfold wX2_solve_0 at z; unfold wX2_solve_0; omega)⟩
set_option maxHeartbeats 4000000 in
theorem NX2_solve {F : Nat} {Ln Ln1 : Nat → Nat} {V V1 : mV} {v : Unit} {l1A : Nat} (h : mX2_solve F Ln l1A V = some (v, Ln1, V1)) : mAv (wX2_solve l1A) V V1 ∧ mAl (wX2_solve l1A) Ln Ln1 := by
  have ih := NX2_solve_go (F := F) (v := v) (Ln1 := Ln1) (V1 := V1) F
  unfold mX2_solve mX2_solve_s at h
  obtain ⟨v19, _, h⟩ := mBN_some h
  obtain ⟨v24, V25, h4, h⟩ := mBW_some h
  have a4 : mAv (wX2_solve l1A) V V25 := mAv.tr mAv.rf (NX2_loadEdges h4) (fun i z => by unfold wX2_loadEdges at z; unfold wX2_solve; omega)
  obtain ⟨v29, V30, h5, h⟩ := mBW_some h
  have a5 : mAv (wX2_solve l1A) V V30 := mAv.tr a4 (NX2_fillsFrom h5) (fun i z => by unfold wX2_fillsFrom at z; unfold wX2_solve; omega)
  rcases mIf_some h with ⟨_, h⟩ | ⟨_, h⟩
  · obtain ⟨v35, L36, V36, h6, h⟩ := mBA_some h
    have y6 := NX2_writeCore h6
    have a6 : mAv (wX2_solve l1A) V V36 := mAv.tr a5 y6.1 (fun i z => by unfold wX2_writeCore at z; unfold wX2_solve; omega)
    have b6 : mAl (wX2_solve l1A) Ln L36 := mAl.tr mAl.rf y6.2 (fun i z => by unfold wX2_writeCore at z; unfold wX2_solve; omega)
    obtain ⟨v40, V41, h7, h⟩ := mBW_some h
    have a7 : mAv (wX2_solve l1A) V V41 := mAv.tr a6 (NX3_tell h7) (fun i z => by unfold wX3_tell at z; unfold wX2_solve; omega)
    obtain ⟨_, rfl, rfl⟩ := mRA3 h
    exact ⟨a7, b6⟩
  · have y := ih _ _ _ _ h
    exact ⟨mAv.tr a5 y.1 (fun i z => by unfold wX2_solve_0 at z; unfold wX2_solve; omega), mAl.tr mAl.rf y.2 (fun i z => by unfold wX2_solve_0 at z; unfold wX2_solve; omega)⟩
def wX4_carriesOver (l1A : Nat) (l3A : Nat) (i : Nat) : Prop := i = 18 ∨ i = l3A ∨ i = l3A + 1
def wX4_carriesOver_0 (l1A : Nat) (l3A : Nat) (i : Nat) : Prop := i = l3A ∨ i = l3A + 1
set_option maxHeartbeats 4000000 in
theorem NX4_carriesOver_go {F : Nat} {v : Int32} {V1 : mV} : ∀ k' : Nat, (∀ (l1A : Nat) (l2I : Int32) (l3A : Nat) (V : mV), mX4_carriesOver_go F k' 0 l1A l2I l3A V = some (v, V1) → mAv (wX4_carriesOver_0 l1A l3A) V V1) := by
  intro k'
  induction k' with
  | zero => exact (fun _ _ _ _ h => by cases h)
  | succ k' ih =>
    intro l1A l2I l3A V h
    rw [mX4_carriesOver_go, if_pos rfl] at h
    unfold mX4_carriesOver_b0 at h
    rcases mIf_some h with ⟨_, h⟩ | ⟨_, h⟩
    · rcases mIf_some h with ⟨_, h⟩ | ⟨_, h⟩
      · obtain ⟨v19, V20, h1, h⟩ := mBW_some h
        have a1 : mAv (wX4_carriesOver_0 l1A l3A) V V20 := mAv.tr mAv.rf (NX4_carriesFlows h1) (fun i z => by unfold wX4_carriesFlows at z; unfold wX4_carriesOver_0; omega)
        obtain ⟨c2, h⟩ := mGd_some h
        obtain ⟨_, rfl⟩ := mRW h
        exact a1
      · rcases mIf_some h with ⟨_, h⟩ | ⟨_, h⟩
        · rcases mIf_some h with ⟨_, h⟩ | ⟨_, h⟩
          · obtain ⟨v13, V14, h3, h⟩ := mBW_some h
            have a3 : mAv (wX4_carriesOver_0 l1A l3A) V V14 := mAv.tr mAv.rf (NX4_carriesEdges h3) (fun i z => by unfold wX4_carriesEdges at z; unfold wX4_carriesOver_0; omega)
            obtain ⟨c4, h⟩ := mGd_some h
            obtain ⟨_, rfl⟩ := mRW h
            exact a3
          · obtain ⟨_, rfl⟩ := mRW h
            exact mAv.rf
        · obtain ⟨_, rfl⟩ := mRW h
          exact mAv.rf
    · rcases mIf_some h with ⟨_, h⟩ | ⟨_, h⟩
      · rcases mIf_some h with ⟨_, h⟩ | ⟨_, h⟩
        · obtain ⟨v4, V5, h5, h⟩ := mBW_some h
          have a5 : mAv (wX4_carriesOver_0 l1A l3A) V V5 := mAv.tr mAv.rf (NX4_carriesEdges h5) (fun i z => by unfold wX4_carriesEdges at z; unfold wX4_carriesOver_0; omega)
          obtain ⟨c6, h⟩ := mGd_some h
          obtain ⟨_, rfl⟩ := mRW h
          exact a5
        · obtain ⟨_, rfl⟩ := mRW h
          exact mAv.rf
      · obtain ⟨_, rfl⟩ := mRW h
        exact mAv.rf
set_option maxHeartbeats 4000000 in
theorem NX4_carriesOver {F : Nat} {V V1 : mV} {v : Int32} {l1A : Nat} {l2I : Int32} {l3A : Nat} (h : mX4_carriesOver F l1A l2I l3A V = some (v, V1)) : mAv (wX4_carriesOver l1A l3A) V V1 := by
  have ih := NX4_carriesOver_go (F := F) (v := v) (V1 := V1) F
  unfold mX4_carriesOver mX4_carriesOver_s at h
  rcases mIf_some h with ⟨_, h⟩ | ⟨_, h⟩
  · rcases mIf_some h with ⟨_, h⟩ | ⟨_, h⟩
    · obtain ⟨v27, V28, h7, h⟩ := mBW_some h
      have a7 : mAv (wX4_carriesOver l1A l3A) V V28 := mAv.tr mAv.rf (NX4_carriesPairings h7) (fun i z => by unfold wX4_carriesPairings at z; unfold wX4_carriesOver; omega)
      obtain ⟨c8, h⟩ := mGd_some h
      obtain ⟨_, rfl⟩ := mRW h
      exact a7
    · exact mAv.tr mAv.rf (ih _ _ _ _ h) (fun i z => by unfold wX4_carriesOver_0 at z; unfold wX4_carriesOver; omega)
  · exact mAv.tr mAv.rf (ih _ _ _ _ h) (fun i z => by unfold wX4_carriesOver_0 at z; unfold wX4_carriesOver; omega)
def wX6_solveGames (l1A : Nat) (i : Nat) : Prop := i = 8 ∨ (88 ≤ i ∧ i ≤ 90) ∨ i = l1A ∨ i = l1A + 2 ∨ i = l1A + 3
def wX6_solveGames_0 (l1A : Nat) (i : Nat) : Prop := i = 90 ∨ i = l1A + 2 ∨ i = l1A + 3
set_option maxHeartbeats 4000000 in
theorem NX6_solveGames_go {F : Nat} {v : Unit} {Ln1 : Nat → Nat} {V1 : mV} : ∀ k' : Nat, (∀ (l1A : Nat) (l4I : Int32) (l5I : Int32) (l6I : Int32) (Ln : Nat → Nat) (V : mV), mX6_solveGames_go F k' 0 Ln l1A l4I l5I l6I V = some (v, Ln1, V1) → mAv (wX6_solveGames_0 l1A) V V1 ∧ mAl (wX6_solveGames_0 l1A) Ln Ln1) := by
  intro k'
  induction k' with
  | zero => exact (fun _ _ _ _ _ _ h => by cases h)
  | succ k' ih =>
    intro l1A l4I l5I l6I Ln V h
    rw [mX6_solveGames_go, if_pos rfl] at h
    unfold mX6_solveGames_b0 at h
    rcases mIf_some h with ⟨_, h⟩ | ⟨_, h⟩
    · obtain ⟨_, rfl, rfl⟩ := mRA3 h
      exact ⟨mAv.rf, mAl.rf⟩
    · obtain ⟨c1, h⟩ := mGd_some h
      rcases mIf_some h with ⟨_, h⟩ | ⟨_, h⟩
      · obtain ⟨v10, V11, h2, h⟩ := mBW_some h
        have a2 : mAv (wX6_solveGames_0 l1A) V V11 := mAv.tr mAv.rf (NX6_leastWay h2) (fun i z => by unfold wX6_leastWay at z; unfold wX6_solveGames_0; omega)
        obtain ⟨v15, L16, V16, h3, h⟩ := mBA_some h
        have y3 := NX9_add h3
        have a3 : mAv (wX6_solveGames_0 l1A) V V16 := mAv.tr a2 y3.1 (fun i z => by unfold wX9_add at z; unfold wX6_solveGames_0; omega)
        have b3 : mAl (wX6_solveGames_0 l1A) Ln L16 := mAl.tr mAl.rf y3.2 (fun i z => by unfold wX9_add at z; unfold wX6_solveGames_0; omega)
        obtain ⟨x20, _, h⟩ := mLt_some h
        have y := ih _ _ _ _ _ _ h
        exact ⟨mAv.tr a3 y.1 (fun i z => by unfold wX6_solveGames_0 at z; unfold wX6_solveGames_0; omega), mAl.tr b3 y.2 (fun i z => by unfold wX6_solveGames_0 at z; unfold wX6_solveGames_0; omega)⟩
      · obtain ⟨v4, L5, V5, h4, h⟩ := mBA_some h
        have y4 := NX9_add h4
        have a4 : mAv (wX6_solveGames_0 l1A) V V5 := mAv.tr mAv.rf y4.1 (fun i z => by unfold wX9_add at z; unfold wX6_solveGames_0; omega)
        have b4 : mAl (wX6_solveGames_0 l1A) Ln L5 := mAl.tr mAl.rf y4.2 (fun i z => by unfold wX9_add at z; unfold wX6_solveGames_0; omega)
        obtain ⟨x9, _, h⟩ := mLt_some h
        have y := ih _ _ _ _ _ _ h
        exact ⟨mAv.tr a4 y.1 (fun i z => by unfold wX6_solveGames_0 at z; unfold wX6_solveGames_0; omega), mAl.tr b4 y.2 (fun i z => by unfold wX6_solveGames_0 at z; unfold wX6_solveGames_0; omega)⟩
set_option maxHeartbeats 4000000 in
theorem NX6_solveGames {F : Nat} {Ln Ln1 : Nat → Nat} {V V1 : mV} {v : Unit} {l1A : Nat} (h : mX6_solveGames F Ln l1A V = some (v, Ln1, V1)) : mAv (wX6_solveGames l1A) V V1 ∧ mAl (wX6_solveGames l1A) Ln Ln1 := by
  have ih := NX6_solveGames_go (F := F) (v := v) (Ln1 := Ln1) (V1 := V1) F
  unfold mX6_solveGames mX6_solveGames_s at h
  obtain ⟨v21, V22, h5, h⟩ := mBW_some h
  have a5 : mAv (wX6_solveGames l1A) V V22 := mAv.tr mAv.rf (NX6_loadNodes h5) (fun i z => by unfold wX6_loadNodes at z; unfold wX6_solveGames; omega)
  obtain ⟨x26, _, h⟩ := mLt_some h
  obtain ⟨v27, _, h⟩ := mBN_some h
  obtain ⟨v32, _, h⟩ := mBN_some h
  obtain ⟨v37, _, h⟩ := mBN_some h
  rcases mIf_some h with ⟨_, h⟩ | ⟨_, h⟩
  · obtain ⟨v43, _, h⟩ := mBN_some h
    obtain ⟨v48, V49, h6, h⟩ := mBW_some h
    have a6 : mAv (wX6_solveGames l1A) V V49 := mAv.tr a5 (NX3_tell h6) (fun i z => by unfold wX3_tell at z; unfold wX6_solveGames; omega)
    have y := ih _ _ _ _ _ _ h
    exact ⟨mAv.tr a6 y.1 (fun i z => by unfold wX6_solveGames_0 at z; unfold wX6_solveGames; omega), mAl.tr mAl.rf y.2 (fun i z => by unfold wX6_solveGames_0 at z; unfold wX6_solveGames; omega)⟩
  · obtain ⟨v53, _, h⟩ := mBN_some h
    obtain ⟨v58, V59, h7, h⟩ := mBW_some h
    have a7 : mAv (wX6_solveGames l1A) V V59 := mAv.tr a5 (NX3_tell h7) (fun i z => by unfold wX3_tell at z; unfold wX6_solveGames; omega)
    have y := ih _ _ _ _ _ _ h
    exact ⟨mAv.tr a7 y.1 (fun i z => by unfold wX6_solveGames_0 at z; unfold wX6_solveGames; omega), mAl.tr mAl.rf y.2 (fun i z => by unfold wX6_solveGames_0 at z; unfold wX6_solveGames; omega)⟩
end
