/-! WHAT EACH METHOD LEAVES ALONE: X10_writeRows, X10_areRowsOf, X10_findNext, X10_writeSteps, X10_isNext, X10_judgeClosure, X11_undo, X11_testItem, X11_settleEntry, X1_isFulfilled, X2_fillsFrom, X2_writeCore. -/
section
def wX10_writeRows (l1A : Nat) (i : Nat) : Prop := i = 77 ∨ i = l1A ∨ i = l1A + 1
def wX10_writeRows_0 (l1A : Nat) (i : Nat) : Prop := i = 77 ∨ i = l1A ∨ i = l1A + 1
def wX10_writeRows_1 (l1A : Nat) (i : Nat) : Prop := i = 77 ∨ i = l1A ∨ i = l1A + 1
set_option maxHeartbeats 4000000 in
theorem NX10_writeRows_go {F : Nat} {v : Unit} {Ln1 : Nat → Nat} {V1 : mV} : ∀ k' : Nat, (∀ (l1A : Nat) (l2I : Int32) (Ln : Nat → Nat) (V : mV), mX10_writeRows_go F k' 0 Ln l1A l2I 0 V = some (v, Ln1, V1) → mAv (wX10_writeRows_0 l1A) V V1 ∧ mAl (wX10_writeRows_0 l1A) Ln Ln1) ∧ (∀ (l1A : Nat) (l2I : Int32) (l3I : Int32) (Ln : Nat → Nat) (V : mV), mX10_writeRows_go F k' 1 Ln l1A l2I l3I V = some (v, Ln1, V1) → mAv (wX10_writeRows_1 l1A) V V1 ∧ mAl (wX10_writeRows_1 l1A) Ln Ln1) := by
  intro k'
  induction k' with
  | zero => exact ⟨(fun _ _ _ _ h => by cases h), (fun _ _ _ _ _ h => by cases h)⟩
  | succ k' ih =>
    refine ⟨?_, ?_⟩
    · intro l1A l2I Ln V h
      rw [mX10_writeRows_go, if_pos rfl] at h
      unfold mX10_writeRows_b0 at h
      rcases mIf_some h with ⟨_, h⟩ | ⟨_, h⟩
      · obtain ⟨_, rfl, rfl⟩ := mRA3 h
        exact ⟨mAv.rf, mAl.rf⟩
      · obtain ⟨v2, V3, h1, h⟩ := mBW_some h
        have a1 : mAv (wX10_writeRows_0 l1A) V V3 := mAv.tr mAv.rf (NX9_clear h1) (fun i z => by unfold wX9_clear at z; unfold wX10_writeRows_0; omega)
        obtain ⟨v7, L8, V8, h2, h⟩ := mBA_some h
        have y2 := NX9_add h2
        have a2 : mAv (wX10_writeRows_0 l1A) V V8 := mAv.tr a1 y2.1 (fun i z => by unfold wX9_add at z; unfold wX10_writeRows_0; omega)
        have b2 : mAl (wX10_writeRows_0 l1A) Ln L8 := mAl.tr mAl.rf y2.2 (fun i z => by unfold wX9_add at z; unfold wX10_writeRows_0; omega)
        have y := ih.2 _ _ _ _ _ h
        exact ⟨mAv.tr a2 y.1 (fun i z => by unfold wX10_writeRows_1 at z; unfold wX10_writeRows_0; omega), mAl.tr b2 y.2 (fun i z => by unfold wX10_writeRows_1 at z; unfold wX10_writeRows_0; omega)⟩
    · intro l1A l2I l3I Ln V h
      rw [mX10_writeRows_go, if_neg (by decide), if_pos rfl] at h
      unfold mX10_writeRows_b1 at h
      rcases mIf_some h with ⟨_, h⟩ | ⟨_, h⟩
      · obtain ⟨v13, _, h⟩ := mBN_some h
        obtain ⟨v18, _, h⟩ := mBN_some h
        rcases mIf_some h with ⟨_, h⟩ | ⟨_, h⟩
        · obtain ⟨_, rfl, rfl⟩ := mRA3 h
          exact ⟨mAv.rf, mAl.rf⟩
        · obtain ⟨x24, _, h⟩ := mLt_some h
          have y := ih.1 _ _ _ _ h
          exact ⟨mAv.tr mAv.rf y.1 (fun i z => by unfold wX10_writeRows_0 at z; unfold wX10_writeRows_1; omega), mAl.tr mAl.rf y.2 (fun i z => by unfold wX10_writeRows_0 at z; unfold wX10_writeRows_1; omega)⟩
      · obtain ⟨c3, h⟩ := mGd_some h
        rcases mIf_some h with ⟨_, h⟩ | ⟨_, h⟩
        · obtain ⟨x27, _, h⟩ := mLt_some h
          have y := ih.2 _ _ _ _ _ h
          exact ⟨mAv.tr mAv.rf y.1 (fun i z => by unfold wX10_writeRows_1 at z; unfold wX10_writeRows_1; omega), mAl.tr mAl.rf y.2 (fun i z => by unfold wX10_writeRows_1 at z; unfold wX10_writeRows_1; omega)⟩
        · obtain ⟨v28, V29, h4, h⟩ := mBW_some h
          have a4 : mAv (wX10_writeRows_1 l1A) V V29 := mAv.tr mAv.rf (NX10_writePoints h4) (fun i z => by unfold wX10_writePoints at z; unfold wX10_writeRows_1; omega)
          obtain ⟨v33, _, h⟩ := mBN_some h
          rcases mIf_some h with ⟨_, h⟩ | ⟨_, h⟩
          · obtain ⟨v39, L40, V40, h5, h⟩ := mBA_some h
            have y5 := NX9_add h5
            have a5 : mAv (wX10_writeRows_1 l1A) V V40 := mAv.tr a4 y5.1 (fun i z => by unfold wX9_add at z; unfold wX10_writeRows_1; omega)
            have b5 : mAl (wX10_writeRows_1 l1A) Ln L40 := mAl.tr mAl.rf y5.2 (fun i z => by unfold wX9_add at z; unfold wX10_writeRows_1; omega)
            obtain ⟨x44, _, h⟩ := mLt_some h
            have y := ih.2 _ _ _ _ _ h
            exact ⟨mAv.tr a5 y.1 (fun i z => by unfold wX10_writeRows_1 at z; unfold wX10_writeRows_1; omega), mAl.tr b5 y.2 (fun i z => by unfold wX10_writeRows_1 at z; unfold wX10_writeRows_1; omega)⟩
          · obtain ⟨v45, _, h⟩ := mBN_some h
            rcases mIf_some h with ⟨_, h⟩ | ⟨_, h⟩
            · obtain ⟨x51, _, h⟩ := mLt_some h
              have y := ih.2 _ _ _ _ _ h
              exact ⟨mAv.tr a4 y.1 (fun i z => by unfold wX10_writeRows_1 at z; unfold wX10_writeRows_1; omega), mAl.tr mAl.rf y.2 (fun i z => by unfold wX10_writeRows_1 at z; unfold wX10_writeRows_1; omega)⟩
            · obtain ⟨v52, L53, V53, h6, h⟩ := mBA_some h
              have y6 := NX9_add h6
              have a6 : mAv (wX10_writeRows_1 l1A) V V53 := mAv.tr a4 y6.1 (fun i z => by unfold wX9_add at z; unfold wX10_writeRows_1; omega)
              have b6 : mAl (wX10_writeRows_1 l1A) Ln L53 := mAl.tr mAl.rf y6.2 (fun i z => by unfold wX9_add at z; unfold wX10_writeRows_1; omega)
              obtain ⟨x57, _, h⟩ := mLt_some h
              have y := ih.2 _ _ _ _ _ h
              exact ⟨mAv.tr a6 y.1 (fun i z => by unfold wX10_writeRows_1 at z; unfold wX10_writeRows_1; omega), mAl.tr b6 y.2 (fun i z => by unfold wX10_writeRows_1 at z; unfold wX10_writeRows_1; omega)⟩
set_option maxHeartbeats 4000000 in
theorem NX10_writeRows {F : Nat} {Ln Ln1 : Nat → Nat} {V V1 : mV} {v : Unit} {l1A : Nat} (h : mX10_writeRows F Ln l1A V = some (v, Ln1, V1)) : mAv (wX10_writeRows l1A) V V1 ∧ mAl (wX10_writeRows l1A) Ln Ln1 := by
  have ih := NX10_writeRows_go (F := F) (v := v) (Ln1 := Ln1) (V1 := V1) F
  unfold mX10_writeRows mX10_writeRows_s at h
  have y := ih.1 _ _ _ _ h
  exact ⟨mAv.tr mAv.rf y.1 (fun i z => by unfold wX10_writeRows_0 at z; unfold wX10_writeRows; omega), mAl.tr mAl.rf y.2 (fun i z => by unfold wX10_writeRows_0 at z; unfold wX10_writeRows; omega)⟩
def wX10_areRowsOf (l1A : Nat) (i : Nat) : Prop := i = 77
def wX10_areRowsOf_0 (l1A : Nat) (i : Nat) : Prop := i = 77
def wX10_areRowsOf_1 (l1A : Nat) (i : Nat) : Prop := i = 77
set_option maxHeartbeats 4000000 in
theorem NX10_areRowsOf_go {F : Nat} {v : Int32} {V1 : mV} : ∀ k' : Nat, (∀ (l1A : Nat) (l2I : Int32) (l3I : Int32) (Ln : Nat → Nat) (V : mV), mX10_areRowsOf_go F k' 0 Ln l1A l2I l3I 0 0 0 V = some (v, V1) → mAv (wX10_areRowsOf_0 l1A) V V1) ∧ (∀ (l1A : Nat) (l2I : Int32) (l3I : Int32) (l4I : Int32) (l5I : Int32) (l6I : Int32) (Ln : Nat → Nat) (V : mV), mX10_areRowsOf_go F k' 1 Ln l1A l2I l3I l4I l5I l6I V = some (v, V1) → mAv (wX10_areRowsOf_1 l1A) V V1) := by
  intro k'
  induction k' with
  | zero => exact ⟨(fun _ _ _ _ _ h => by cases h), (fun _ _ _ _ _ _ _ _ h => by cases h)⟩
  | succ k' ih =>
    refine ⟨?_, ?_⟩
    · intro l1A l2I l3I Ln V h
      rw [mX10_areRowsOf_go, if_pos rfl] at h
      unfold mX10_areRowsOf_b0 at h
      rcases mIf_some h with ⟨_, h⟩ | ⟨_, h⟩
      · obtain ⟨_, rfl⟩ := mRW h
        exact mAv.rf
      · obtain ⟨v2, _, h⟩ := mBN_some h
        obtain ⟨v7, V8, h1, h⟩ := mBW_some h
        have a1 : mAv (wX10_areRowsOf_0 l1A) V V8 := mAv.tr mAv.rf (NX10_readCode h1) (fun i z => by unfold wX10_readCode at z; unfold wX10_areRowsOf_0; omega)
        exact mAv.tr a1 (ih.2 _ _ _ _ _ _ _ _ h) (fun i z => by unfold wX10_areRowsOf_1 at z; unfold wX10_areRowsOf_0; omega)
    · intro l1A l2I l3I l4I l5I l6I Ln V h
      rw [mX10_areRowsOf_go, if_neg (by decide), if_pos rfl] at h
      unfold mX10_areRowsOf_b1 at h
      rcases mIf_some h with ⟨_, h⟩ | ⟨_, h⟩
      · rcases mIf_some h with ⟨_, h⟩ | ⟨_, h⟩
        · obtain ⟨v14, _, h⟩ := mBN_some h
          rcases mIf_some h with ⟨_, h⟩ | ⟨_, h⟩
          · rcases mIf_some h with ⟨_, h⟩ | ⟨_, h⟩
            · obtain ⟨x21, _, h⟩ := mLt_some h
              exact mAv.tr mAv.rf (ih.1 _ _ _ _ _ h) (fun i z => by unfold wX10_areRowsOf_0 at z; unfold wX10_areRowsOf_1; omega)
            · obtain ⟨_, rfl⟩ := mRW h
              exact mAv.rf
          · obtain ⟨_, rfl⟩ := mRW h
            exact mAv.rf
        · obtain ⟨_, rfl⟩ := mRW h
          exact mAv.rf
      · obtain ⟨c2, h⟩ := mGd_some h
        obtain ⟨x23, _, h⟩ := mLt_some h
        obtain ⟨x24, _, h⟩ := mLt_some h
        exact mAv.tr mAv.rf (ih.2 _ _ _ _ _ _ _ _ h) (fun i z => by unfold wX10_areRowsOf_1 at z; unfold wX10_areRowsOf_1; omega)
set_option maxHeartbeats 4000000 in
theorem NX10_areRowsOf {F : Nat} {Ln : Nat → Nat} {V V1 : mV} {v : Int32} {l1A : Nat} {l2I : Int32} (h : mX10_areRowsOf F Ln l1A l2I V = some (v, V1)) : mAv (wX10_areRowsOf l1A) V V1 := by
  have ih := NX10_areRowsOf_go (F := F) (v := v) (V1 := V1) F
  unfold mX10_areRowsOf mX10_areRowsOf_s at h
  exact mAv.tr mAv.rf (ih.1 _ _ _ _ _ h) (fun i z => by unfold wX10_areRowsOf_0 at z; unfold wX10_areRowsOf; omega)
def wX10_findNext (l1A : Nat) (i : Nat) : Prop := i = 7 ∨ i = 83
def wX10_findNext_0 (l1A : Nat) (i : Nat) : Prop := i = 7 ∨ i = 83
set_option maxHeartbeats 4000000 in
theorem NX10_findNext_go {F : Nat} {v : Unit} {V1 : mV} : ∀ k' : Nat, (∀ (l1A : Nat) (l2I : Int32) (l3I : Int32) (V : mV), mX10_findNext_go F k' 0 l1A l2I l3I V = some (v, V1) → mAv (wX10_findNext_0 l1A) V V1) := by
  intro k'
  induction k' with
  | zero => exact (fun _ _ _ _ h => by cases h)
  | succ k' ih =>
    intro l1A l2I l3I V h
    rw [mX10_findNext_go, if_pos rfl] at h
    unfold mX10_findNext_b0 at h
    rcases mIf_some h with ⟨_, h⟩ | ⟨_, h⟩
    · obtain ⟨_, rfl⟩ := mRW h
      exact mAv.rf
    · obtain ⟨v2, _, h⟩ := mBN_some h
      obtain ⟨v7, _, h⟩ := mBN_some h
      obtain ⟨v12, V13, h1, h⟩ := mBW_some h
      have a1 : mAv (wX10_findNext_0 l1A) V V13 := mAv.tr mAv.rf (NX10_replaceAll h1) (fun i z => by unfold wX10_replaceAll at z; unfold wX10_findNext_0; omega)
      obtain ⟨v17, _, h⟩ := mBN_some h
      obtain ⟨v22, _, h⟩ := mBN_some h
      obtain ⟨v27, V28, h2, h⟩ := mBW_some h
      have a2 : mAv (wX10_findNext_0 l1A) V V28 := mAv.tr a1 (NX10_replaceAll h2) (fun i z => by unfold wX10_replaceAll at z; unfold wX10_findNext_0; omega)
      obtain ⟨x32, _, h⟩ := mLt_some h
      exact mAv.tr a2 (ih _ _ _ _ h) (fun i z => by unfold wX10_findNext_0 at z; unfold wX10_findNext_0; omega)
set_option maxHeartbeats 4000000 in
theorem NX10_findNext {F : Nat} {V V1 : mV} {v : Unit} {l1A : Nat} {l2I : Int32} (h : mX10_findNext F l1A l2I V = some (v, V1)) : mAv (wX10_findNext l1A) V V1 := by
  have ih := NX10_findNext_go (F := F) (v := v) (V1 := V1) F
  unfold mX10_findNext mX10_findNext_s at h
  obtain ⟨V33, eV33, h⟩ := mLt_some h
  have a3 : mAv (wX10_findNext l1A) V V33 := by rw [eV33]; exact mAv.F mAv.rf (by unfold wX10_findNext; omega)
  exact mAv.tr a3 (ih _ _ _ _ h) (fun i z => by unfold wX10_findNext_0 at z; unfold wX10_findNext; omega)
def wX10_writeSteps (l1A : Nat) (i : Nat) : Prop := i = 7 ∨ i = 83 ∨ i = l1A + 2 ∨ i = l1A + 3
def wX10_writeSteps_0 (l1A : Nat) (i : Nat) : Prop := i = 7 ∨ i = 83 ∨ i = l1A + 2 ∨ i = l1A + 3
def wX10_writeSteps_1 (l1A : Nat) (i : Nat) : Prop := i = 7 ∨ i = 83 ∨ i = l1A + 2 ∨ i = l1A + 3
set_option maxHeartbeats 4000000 in
theorem NX10_writeSteps_go {F : Nat} {v : Unit} {Ln1 : Nat → Nat} {V1 : mV} : ∀ k' : Nat, (∀ (l1A : Nat) (l3I : Int32) (l4I : Int32) (Ln : Nat → Nat) (V : mV), mX10_writeSteps_go F k' 0 Ln l1A l3I l4I 0 0 V = some (v, Ln1, V1) → mAv (wX10_writeSteps_0 l1A) V V1 ∧ mAl (wX10_writeSteps_0 l1A) Ln Ln1) ∧ (∀ (l1A : Nat) (l4I : Int32) (l5I : Int32) (l6I : Int32) (Ln : Nat → Nat) (V : mV), mX10_writeSteps_go F k' 1 Ln l1A 0 l4I l5I l6I V = some (v, Ln1, V1) → mAv (wX10_writeSteps_1 l1A) V V1 ∧ mAl (wX10_writeSteps_1 l1A) Ln Ln1) := by
  intro k'
  induction k' with
  | zero => exact ⟨(fun _ _ _ _ _ h => by cases h), (fun _ _ _ _ _ _ h => by cases h)⟩
  | succ k' ih =>
    refine ⟨?_, ?_⟩
    · intro l1A l3I l4I Ln V h
      rw [mX10_writeSteps_go, if_pos rfl] at h
      unfold mX10_writeSteps_b0 at h
      rcases mIf_some h with ⟨_, h⟩ | ⟨_, h⟩
      · obtain ⟨_, rfl, rfl⟩ := mRA3 h
        exact ⟨mAv.rf, mAl.rf⟩
      · obtain ⟨v2, V3, h1, h⟩ := mBW_some h
        have a1 : mAv (wX10_writeSteps_0 l1A) V V3 := mAv.tr mAv.rf (NX10_findNext h1) (fun i z => by unfold wX10_findNext at z; unfold wX10_writeSteps_0; omega)
        have y := ih.2 _ _ _ _ _ _ h
        exact ⟨mAv.tr a1 y.1 (fun i z => by unfold wX10_writeSteps_1 at z; unfold wX10_writeSteps_0; omega), mAl.tr mAl.rf y.2 (fun i z => by unfold wX10_writeSteps_1 at z; unfold wX10_writeSteps_0; omega)⟩
    · intro l1A l4I l5I l6I Ln V h
      rw [mX10_writeSteps_go, if_neg (by decide), if_pos rfl] at h
      unfold mX10_writeSteps_b1 at h
      rcases mIf_some h with ⟨_, h⟩ | ⟨_, h⟩
      · obtain ⟨v8, L9, V9, h2, h⟩ := mBA_some h
        have y2 := NX9_add h2
        have a2 : mAv (wX10_writeSteps_1 l1A) V V9 := mAv.tr mAv.rf y2.1 (fun i z => by unfold wX9_add at z; unfold wX10_writeSteps_1; omega)
        have b2 : mAl (wX10_writeSteps_1 l1A) Ln L9 := mAl.tr mAl.rf y2.2 (fun i z => by unfold wX9_add at z; unfold wX10_writeSteps_1; omega)
        obtain ⟨x13, _, h⟩ := mLt_some h
        have y := ih.1 _ _ _ _ _ h
        exact ⟨mAv.tr a2 y.1 (fun i z => by unfold wX10_writeSteps_0 at z; unfold wX10_writeSteps_1; omega), mAl.tr b2 y.2 (fun i z => by unfold wX10_writeSteps_0 at z; unfold wX10_writeSteps_1; omega)⟩
      · obtain ⟨c3, h⟩ := mGd_some h
        obtain ⟨c4, h⟩ := mGd_some h
        rcases mIf_some h with ⟨_, h⟩ | ⟨_, h⟩
        · obtain ⟨c5, h⟩ := mGd_some h
          obtain ⟨x19, _, h⟩ := mLt_some h
          obtain ⟨x20, _, h⟩ := mLt_some h
          have y := ih.2 _ _ _ _ _ _ h
          exact ⟨mAv.tr mAv.rf y.1 (fun i z => by unfold wX10_writeSteps_1 at z; unfold wX10_writeSteps_1; omega), mAl.tr mAl.rf y.2 (fun i z => by unfold wX10_writeSteps_1 at z; unfold wX10_writeSteps_1; omega)⟩
        · obtain ⟨x17, _, h⟩ := mLt_some h
          have y := ih.2 _ _ _ _ _ _ h
          exact ⟨mAv.tr mAv.rf y.1 (fun i z => by unfold wX10_writeSteps_1 at z; unfold wX10_writeSteps_1; omega), mAl.tr mAl.rf y.2 (fun i z => by unfold wX10_writeSteps_1 at z; unfold wX10_writeSteps_1; omega)⟩
set_option maxHeartbeats 4000000 in
theorem NX10_writeSteps {F : Nat} {Ln Ln1 : Nat → Nat} {V V1 : mV} {v : Unit} {l1A : Nat} {l2I : Int32} (h : mX10_writeSteps F Ln l1A l2I V = some (v, Ln1, V1)) : mAv (wX10_writeSteps l1A) V V1 ∧ mAl (wX10_writeSteps l1A) Ln Ln1 := by
  have ih := NX10_writeSteps_go (F := F) (v := v) (Ln1 := Ln1) (V1 := V1) F
  unfold mX10_writeSteps mX10_writeSteps_s at h
  obtain ⟨v21, L22, V22, h6, h⟩ := mBA_some h
  have y6 := NX9_add h6
  have a6 : mAv (wX10_writeSteps l1A) V V22 := mAv.tr mAv.rf y6.1 (fun i z => by unfold wX9_add at z; unfold wX10_writeSteps; omega)
  have b6 : mAl (wX10_writeSteps l1A) Ln L22 := mAl.tr mAl.rf y6.2 (fun i z => by unfold wX9_add at z; unfold wX10_writeSteps; omega)
  obtain ⟨c7, h⟩ := mGd_some h
  obtain ⟨x27, _, h⟩ := mLt_some h
  have y := ih.1 _ _ _ _ _ h
  exact ⟨mAv.tr a6 y.1 (fun i z => by unfold wX10_writeSteps_0 at z; unfold wX10_writeSteps; omega), mAl.tr b6 y.2 (fun i z => by unfold wX10_writeSteps_0 at z; unfold wX10_writeSteps; omega)⟩
def wX10_isNext (l1A : Nat) (i : Nat) : Prop := i = 7 ∨ i = 83
def wX10_isNext_0 (i : Nat) : Prop := i < 0
set_option maxHeartbeats 4000000 in
theorem NX10_isNext_go {F : Nat} {v : Int32} {V1 : mV} : ∀ k' : Nat, (∀ (l3I : Int32) (l4I : Int32) (V : mV), mX10_isNext_go F k' 0 l3I l4I V = some (v, V1) → mAv (wX10_isNext_0) V V1) := by
  intro k'
  induction k' with
  | zero => exact (fun _ _ _ h => by cases h)
  | succ k' ih =>
    intro l3I l4I V h
    rw [mX10_isNext_go, if_pos rfl] at h
    unfold mX10_isNext_b0 at h
    rcases mIf_some h with ⟨_, h⟩ | ⟨_, h⟩
    · obtain ⟨_, rfl⟩ := mRW h
      exact mAv.rf
    · obtain ⟨c1, h⟩ := mGd_some h
      rcases mIf_some h with ⟨_, h⟩ | ⟨_, h⟩
      · obtain ⟨_, rfl⟩ := mRW h
        exact mAv.rf
      · obtain ⟨x4, _, h⟩ := mLt_some h
        exact mAv.tr mAv.rf (ih _ _ _ h) (fun i z => by unfold wX10_isNext_0 at z; unfold wX10_isNext_0; omega)
set_option maxHeartbeats 4000000 in
theorem NX10_isNext {F : Nat} {V V1 : mV} {v : Int32} {l1A : Nat} {l2I : Int32} {l3I : Int32} (h : mX10_isNext F l1A l2I l3I V = some (v, V1)) : mAv (wX10_isNext l1A) V V1 := by
  have ih := NX10_isNext_go (F := F) (v := v) (V1 := V1) F
  unfold mX10_isNext mX10_isNext_s at h
  obtain ⟨v5, V6, h2, h⟩ := mBW_some h
  have a2 : mAv (wX10_isNext l1A) V V6 := mAv.tr mAv.rf (NX10_findNext h2) (fun i z => by unfold wX10_findNext at z; unfold wX10_isNext; omega)
  exact mAv.tr a2 (ih _ _ _ h) (fun i z => by unfold wX10_isNext_0 at z; unfold wX10_isNext; omega)
def wX10_judgeClosure (l1A : Nat) (l2A : Nat) (i : Nat) : Prop := i = 7 ∨ i = 83
def wX10_judgeClosure_0 (l1A : Nat) (l2A : Nat) (i : Nat) : Prop := i = 7 ∨ i = 83
def wX10_judgeClosure_1 (l1A : Nat) (l2A : Nat) (i : Nat) : Prop := i = 7 ∨ i = 83
set_option maxHeartbeats 4000000 in
theorem NX10_judgeClosure_go {F : Nat} {v : Int32} {V1 : mV} : ∀ k' : Nat, (∀ (l1A : Nat) (l2A : Nat) (l5I : Int32) (Ln : Nat → Nat) (V : mV), mX10_judgeClosure_go F k' 0 Ln l1A l2A l5I 0 V = some (v, V1) → mAv (wX10_judgeClosure_0 l1A l2A) V V1) ∧ (∀ (l1A : Nat) (l2A : Nat) (l5I : Int32) (l6I : Int32) (Ln : Nat → Nat) (V : mV), mX10_judgeClosure_go F k' 1 Ln l1A l2A l5I l6I V = some (v, V1) → mAv (wX10_judgeClosure_1 l1A l2A) V V1) := by
  intro k'
  induction k' with
  | zero => exact ⟨(fun _ _ _ _ _ h => by cases h), (fun _ _ _ _ _ _ h => by cases h)⟩
  | succ k' ih =>
    refine ⟨?_, ?_⟩
    · intro l1A l2A l5I Ln V h
      rw [mX10_judgeClosure_go, if_pos rfl] at h
      unfold mX10_judgeClosure_b0 at h
      rcases mIf_some h with ⟨_, h⟩ | ⟨_, h⟩
      · obtain ⟨_, rfl⟩ := mRW h
        exact mAv.rf
      · obtain ⟨v2, _, h⟩ := mBN_some h
        obtain ⟨v7, V8, h1, h⟩ := mBW_some h
        have a1 : mAv (wX10_judgeClosure_0 l1A l2A) V V8 := mAv.tr mAv.rf (NX10_findNext h1) (fun i z => by unfold wX10_findNext at z; unfold wX10_judgeClosure_0; omega)
        exact mAv.tr a1 (ih.2 _ _ _ _ _ _ h) (fun i z => by unfold wX10_judgeClosure_1 at z; unfold wX10_judgeClosure_0; omega)
    · intro l1A l2A l5I l6I Ln V h
      rw [mX10_judgeClosure_go, if_neg (by decide), if_pos rfl] at h
      unfold mX10_judgeClosure_b1 at h
      rcases mIf_some h with ⟨_, h⟩ | ⟨_, h⟩
      · obtain ⟨x13, _, h⟩ := mLt_some h
        exact mAv.tr mAv.rf (ih.1 _ _ _ _ _ h) (fun i z => by unfold wX10_judgeClosure_0 at z; unfold wX10_judgeClosure_1; omega)
      · obtain ⟨c2, h⟩ := mGd_some h
        obtain ⟨v15, _, h⟩ := mBN_some h
        rcases mIf_some h with ⟨_, h⟩ | ⟨_, h⟩
        · obtain ⟨_, rfl⟩ := mRW h
          exact mAv.rf
        · obtain ⟨x21, _, h⟩ := mLt_some h
          exact mAv.tr mAv.rf (ih.2 _ _ _ _ _ _ h) (fun i z => by unfold wX10_judgeClosure_1 at z; unfold wX10_judgeClosure_1; omega)
set_option maxHeartbeats 4000000 in
theorem NX10_judgeClosure {F : Nat} {Ln : Nat → Nat} {V V1 : mV} {v : Int32} {l1A : Nat} {l2A : Nat} (h : mX10_judgeClosure F Ln l1A l2A V = some (v, V1)) : mAv (wX10_judgeClosure l1A l2A) V V1 := by
  have ih := NX10_judgeClosure_go (F := F) (v := v) (V1 := V1) F
  unfold mX10_judgeClosure mX10_judgeClosure_s at h
  obtain ⟨v22, _, h⟩ := mBN_some h
  obtain ⟨v27, _, h⟩ := mBN_some h
  rcases mIf_some h with ⟨_, h⟩ | ⟨_, h⟩
  · obtain ⟨_, rfl⟩ := mRW h
    exact mAv.rf
  · obtain ⟨v33, _, h⟩ := mBN_some h
    rcases mIf_some h with ⟨_, h⟩ | ⟨_, h⟩
    · obtain ⟨_, rfl⟩ := mRW h
      exact mAv.rf
    · obtain ⟨v39, _, h⟩ := mBN_some h
      rcases mIf_some h with ⟨_, h⟩ | ⟨_, h⟩
      · obtain ⟨v45, _, h⟩ := mBN_some h
        obtain ⟨v50, _, h⟩ := mBN_some h
        rcases mIf_some h with ⟨_, h⟩ | ⟨_, h⟩
        · exact mAv.tr mAv.rf (ih.1 _ _ _ _ _ h) (fun i z => by unfold wX10_judgeClosure_0 at z; unfold wX10_judgeClosure; omega)
        · obtain ⟨_, rfl⟩ := mRW h
          exact mAv.rf
      · obtain ⟨v56, _, h⟩ := mBN_some h
        rcases mIf_some h with ⟨_, h⟩ | ⟨_, h⟩
        · obtain ⟨_, rfl⟩ := mRW h
          exact mAv.rf
        · obtain ⟨v62, _, h⟩ := mBN_some h
          obtain ⟨v67, _, h⟩ := mBN_some h
          rcases mIf_some h with ⟨_, h⟩ | ⟨_, h⟩
          · exact mAv.tr mAv.rf (ih.1 _ _ _ _ _ h) (fun i z => by unfold wX10_judgeClosure_0 at z; unfold wX10_judgeClosure; omega)
          · obtain ⟨_, rfl⟩ := mRW h
            exact mAv.rf
def wX11_undo (i : Nat) : Prop := i = 0 ∨ i = 17 ∨ (256 ≤ i ∧ i ≤ 345) ∨ i = 3000
set_option maxHeartbeats 4000000 in
theorem NX11_undo {F : Nat} {Ln Ln1 : Nat → Nat} {V V1 : mV} {v : (String ⊕ Int32)} (h : mX11_undo F Ln V = some (v, Ln1, V1)) : mAv (wX11_undo) V V1 ∧ mAl (wX11_undo) Ln Ln1 := by
  unfold mX11_undo at h
  rcases mIf_some h with ⟨_, h⟩ | ⟨_, h⟩
  · obtain ⟨_, rfl, rfl, _⟩ := mTh_some h
    exact ⟨mAv.rf, mAl.up mAl.rf (by unfold wX11_undo; omega)⟩
  · obtain ⟨V2, eV2, h⟩ := mLt_some h
    have a1 : mAv (wX11_undo) V V2 := by rw [eV2]; exact mAv.F mAv.rf (by unfold wX11_undo; omega)
    obtain ⟨x3, _, h⟩ := mLt_some h
    obtain ⟨c2, h⟩ := mGd_some h
    obtain ⟨x5, _, h⟩ := mLt_some h
    obtain ⟨c3, h⟩ := mGd_some h
    obtain ⟨x7, _, h⟩ := mLt_some h
    rcases mIf_some h with ⟨_, h⟩ | ⟨_, h⟩
    · obtain ⟨v9, V10, h4, h⟩ := mBW_some h
      have a4 : mAv (wX11_undo) V V10 := mAv.tr a1 (NX11_forgetEntry h4) (fun i z => by unfold wX11_forgetEntry at z; unfold wX11_undo; omega)
      obtain ⟨c5, h⟩ := mGd_some h
      obtain ⟨_, rfl, rfl⟩ := mRA3 h
      exact ⟨a4, mAl.rf⟩
    · rcases mIf_some h with ⟨_, h⟩ | ⟨_, h⟩
      · obtain ⟨v29, V30, h6, h⟩ := mBW_some h
        have a6 : mAv (wX11_undo) V V30 := mAv.tr a1 (NX11_forgetEntry h6) (fun i z => by unfold wX11_forgetEntry at z; unfold wX11_undo; omega)
        obtain ⟨c7, h⟩ := mGd_some h
        obtain ⟨_, rfl, rfl⟩ := mRA3 h
        exact ⟨a6, mAl.rf⟩
      · obtain ⟨c8, h⟩ := mGd_some h
        obtain ⟨c9, h⟩ := mGd_some h
        obtain ⟨v20, V21, h10, h⟩ := mBW_some h
        have z10_0 := (Nat.lt_of_not_le (fun z => c8 (Or.inr z)))
        have z10_1 := (Nat.lt_of_not_le (fun z => c9 (Or.inr z)))
        have a10 : mAv (wX11_undo) V V21 := mAv.tr a1 (NX3_copyQuestion h10) (fun i z => by unfold wX3_copyQuestion at z; unfold wX11_undo; omega)
        obtain ⟨c11, h⟩ := mGd_some h
        obtain ⟨V27, eV27, h⟩ := mLt_some h
        have z12 := (Nat.lt_of_not_le (fun z => c11 (Or.inr z)))
        have a12 : mAv (wX11_undo) V V27 := by rw [eV27]; exact mAv.F a10 (by unfold wX11_undo; omega)
        obtain ⟨c13, h⟩ := mGd_some h
        obtain ⟨_, rfl, rfl⟩ := mRA3 h
        exact ⟨a12, mAl.rf⟩
def wX11_testItem (l1A : Nat) (i : Nat) : Prop := i = 3000
set_option maxHeartbeats 4000000 in
theorem NX11_testItem {F : Nat} {Ln Ln1 : Nat → Nat} {V V1 : mV} {v : (String ⊕ Unit)} {l1A : Nat} {l2I : Int32} (h : mX11_testItem F Ln l1A l2I V = some (v, Ln1, V1)) : mAv (wX11_testItem l1A) V V1 ∧ mAl (wX11_testItem l1A) Ln Ln1 := by
  unfold mX11_testItem at h
  obtain ⟨v1, _, h⟩ := mBN_some h
  rcases mIf_some h with ⟨_, h⟩ | ⟨_, h⟩
  · obtain ⟨_, rfl, rfl, _⟩ := mTh_some h
    exact ⟨mAv.rf, mAl.up mAl.rf (by unfold wX11_testItem; omega)⟩
  · obtain ⟨v7, _, h⟩ := mBN_some h
    rcases mIf_some h with ⟨_, h⟩ | ⟨_, h⟩
    · obtain ⟨_, rfl, rfl⟩ := mRA3 h
      exact ⟨mAv.rf, mAl.rf⟩
    · obtain ⟨_, rfl, rfl, _⟩ := mTh_some h
      exact ⟨mAv.rf, mAl.up mAl.rf (by unfold wX11_testItem; omega)⟩
def wX11_settleEntry (l2A : Nat) (i : Nat) : Prop := i = 0 ∨ i = 9 ∨ i = l2A ∨ i = l2A + 4 ∨ i = l2A + 5
def wX11_settleEntry_0 (l2A : Nat) (i : Nat) : Prop := i = 0 ∨ i = 9 ∨ i = l2A ∨ i = l2A + 4 ∨ i = l2A + 5
set_option maxHeartbeats 4000000 in
theorem NX11_settleEntry_go {F : Nat} {v : Unit} {Ln1 : Nat → Nat} {V1 : mV} : ∀ k' : Nat, (∀ (l1I : Int32) (l2A : Nat) (Ln : Nat → Nat) (V : mV), mX11_settleEntry_go F k' 0 Ln l1I l2A V = some (v, Ln1, V1) → mAv (wX11_settleEntry_0 l2A) V V1 ∧ mAl (wX11_settleEntry_0 l2A) Ln Ln1) := by
  intro k'
  induction k' with
  | zero => exact (fun _ _ _ _ h => by cases h)
  | succ k' ih =>
    intro l1I l2A Ln V h
    rw [mX11_settleEntry_go, if_pos rfl] at h
    unfold mX11_settleEntry_b0 at h
    rcases mIf_some h with ⟨_, h⟩ | ⟨_, h⟩
    · obtain ⟨V2, eV2, h⟩ := mLt_some h
      have a1 : mAv (wX11_settleEntry_0 l2A) V V2 := by rw [eV2]; exact mAv.F mAv.rf (by unfold wX11_settleEntry_0; omega)
      obtain ⟨c2, h⟩ := mGd_some h
      obtain ⟨V4, eV4, h⟩ := mLt_some h
      have a3 : mAv (wX11_settleEntry_0 l2A) V V4 := by rw [eV4]; exact mAv.F a1 (by unfold wX11_settleEntry_0; omega)
      obtain ⟨v5, L6, V6, h4, h⟩ := mBA_some h
      have y4 := NX9_copy h4
      have a4 : mAv (wX11_settleEntry_0 l2A) V V6 := mAv.tr a3 y4.1 (fun i z => by unfold wX9_copy at z; unfold wX11_settleEntry_0; omega)
      have b4 : mAl (wX11_settleEntry_0 l2A) Ln L6 := mAl.tr mAl.rf y4.2 (fun i z => by unfold wX9_copy at z; unfold wX11_settleEntry_0; omega)
      obtain ⟨_, rfl, rfl⟩ := mRA3 h
      exact ⟨a4, b4⟩
    · obtain ⟨v10, _, h⟩ := mBN_some h
      rcases mIf_some h with ⟨_, h⟩ | ⟨_, h⟩
      · obtain ⟨v24, _, h⟩ := mBN_some h
        obtain ⟨v29, L30, V30, h5, h⟩ := mBA_some h
        have y5 := NX11_addError h5
        have a5 : mAv (wX11_settleEntry_0 l2A) V V30 := mAv.tr mAv.rf y5.1 (fun i z => by unfold wX11_addError at z; unfold wX11_settleEntry_0; omega)
        have b5 : mAl (wX11_settleEntry_0 l2A) Ln L30 := mAl.tr mAl.rf y5.2 (fun i z => by unfold wX11_addError at z; unfold wX11_settleEntry_0; omega)
        obtain ⟨V34, eV34, h⟩ := mLt_some h
        have a6 : mAv (wX11_settleEntry_0 l2A) V V34 := by rw [eV34]; exact mAv.F a5 (by unfold wX11_settleEntry_0; omega)
        obtain ⟨c7, h⟩ := mGd_some h
        obtain ⟨V36, eV36, h⟩ := mLt_some h
        have a8 : mAv (wX11_settleEntry_0 l2A) V V36 := by rw [eV36]; exact mAv.F a6 (by unfold wX11_settleEntry_0; omega)
        obtain ⟨v37, L38, V38, h9, h⟩ := mBA_some h
        have y9 := NX9_copy h9
        have a9 : mAv (wX11_settleEntry_0 l2A) V V38 := mAv.tr a8 y9.1 (fun i z => by unfold wX9_copy at z; unfold wX11_settleEntry_0; omega)
        have b9 : mAl (wX11_settleEntry_0 l2A) Ln L38 := mAl.tr b5 y9.2 (fun i z => by unfold wX9_copy at z; unfold wX11_settleEntry_0; omega)
        obtain ⟨_, rfl, rfl⟩ := mRA3 h
        exact ⟨a9, b9⟩
      · obtain ⟨V16, eV16, h⟩ := mLt_some h
        have a10 : mAv (wX11_settleEntry_0 l2A) V V16 := by rw [eV16]; exact mAv.F mAv.rf (by unfold wX11_settleEntry_0; omega)
        obtain ⟨c11, h⟩ := mGd_some h
        obtain ⟨V18, eV18, h⟩ := mLt_some h
        have a12 : mAv (wX11_settleEntry_0 l2A) V V18 := by rw [eV18]; exact mAv.F a10 (by unfold wX11_settleEntry_0; omega)
        obtain ⟨v19, L20, V20, h13, h⟩ := mBA_some h
        have y13 := NX9_copy h13
        have a13 : mAv (wX11_settleEntry_0 l2A) V V20 := mAv.tr a12 y13.1 (fun i z => by unfold wX9_copy at z; unfold wX11_settleEntry_0; omega)
        have b13 : mAl (wX11_settleEntry_0 l2A) Ln L20 := mAl.tr mAl.rf y13.2 (fun i z => by unfold wX9_copy at z; unfold wX11_settleEntry_0; omega)
        obtain ⟨_, rfl, rfl⟩ := mRA3 h
        exact ⟨a13, b13⟩
set_option maxHeartbeats 4000000 in
theorem NX11_settleEntry {F : Nat} {Ln Ln1 : Nat → Nat} {V V1 : mV} {v : Unit} {l1I : Int32} {l2A : Nat} (h : mX11_settleEntry F Ln l1I l2A V = some (v, Ln1, V1)) : mAv (wX11_settleEntry l2A) V V1 ∧ mAl (wX11_settleEntry l2A) Ln Ln1 := by
  have ih := NX11_settleEntry_go (F := F) (v := v) (Ln1 := Ln1) (V1 := V1) F
  unfold mX11_settleEntry mX11_settleEntry_s at h
  rcases mIf_some h with ⟨_, h⟩ | ⟨_, h⟩
  · have y := ih _ _ _ _ h
    exact ⟨mAv.tr mAv.rf y.1 (fun i z => by unfold wX11_settleEntry_0 at z; unfold wX11_settleEntry; omega), mAl.tr mAl.rf y.2 (fun i z => by unfold wX11_settleEntry_0 at z; unfold wX11_settleEntry; omega)⟩
  · rcases mIf_some h with ⟨_, h⟩ | ⟨_, h⟩
    · have y := ih _ _ _ _ h
      exact ⟨mAv.tr mAv.rf y.1 (fun i z => by unfold wX11_settleEntry_0 at z; unfold wX11_settleEntry; omega), mAl.tr mAl.rf y.2 (fun i z => by unfold wX11_settleEntry_0 at z; unfold wX11_settleEntry; omega)⟩
    · obtain ⟨v44, L45, V45, h14, h⟩ := mBA_some h
      have y14 := NX11_addError h14
      have a14 : mAv (wX11_settleEntry l2A) V V45 := mAv.tr mAv.rf y14.1 (fun i z => by unfold wX11_addError at z; unfold wX11_settleEntry; omega)
      have b14 : mAl (wX11_settleEntry l2A) Ln L45 := mAl.tr mAl.rf y14.2 (fun i z => by unfold wX11_addError at z; unfold wX11_settleEntry; omega)
      obtain ⟨V49, eV49, h⟩ := mLt_some h
      have a15 : mAv (wX11_settleEntry l2A) V V49 := by rw [eV49]; exact mAv.F a14 (by unfold wX11_settleEntry; omega)
      obtain ⟨c16, h⟩ := mGd_some h
      obtain ⟨V51, eV51, h⟩ := mLt_some h
      have a17 : mAv (wX11_settleEntry l2A) V V51 := by rw [eV51]; exact mAv.F a15 (by unfold wX11_settleEntry; omega)
      obtain ⟨v52, L53, V53, h18, h⟩ := mBA_some h
      have y18 := NX9_copy h18
      have a18 : mAv (wX11_settleEntry l2A) V V53 := mAv.tr a17 y18.1 (fun i z => by unfold wX9_copy at z; unfold wX11_settleEntry; omega)
      have b18 : mAl (wX11_settleEntry l2A) Ln L53 := mAl.tr b14 y18.2 (fun i z => by unfold wX9_copy at z; unfold wX11_settleEntry; omega)
      obtain ⟨_, rfl, rfl⟩ := mRA3 h
      exact ⟨a18, b18⟩
def wX1_isFulfilled (l1A : Nat) (i : Nat) : Prop := i = 5
def wX1_isFulfilled_0 (l1A : Nat) (i : Nat) : Prop := i = 5
set_option maxHeartbeats 4000000 in
theorem NX1_isFulfilled_go {F : Nat} {v : Int32} {V1 : mV} : ∀ k' : Nat, (∀ (l1A : Nat) (l2I : Int32) (l3I : Int32) (V : mV), mX1_isFulfilled_go F k' 0 l1A l2I l3I V = some (v, V1) → mAv (wX1_isFulfilled_0 l1A) V V1) := by
  intro k'
  induction k' with
  | zero => exact (fun _ _ _ _ h => by cases h)
  | succ k' ih =>
    intro l1A l2I l3I V h
    rw [mX1_isFulfilled_go, if_pos rfl] at h
    unfold mX1_isFulfilled_b0 at h
    rcases mIf_some h with ⟨_, h⟩ | ⟨_, h⟩
    · obtain ⟨v2, _, h⟩ := mBN_some h
      rcases mIf_some h with ⟨_, h⟩ | ⟨_, h⟩
      · obtain ⟨_, rfl⟩ := mRW h
        exact mAv.rf
      · obtain ⟨v8, _, h⟩ := mBN_some h
        rcases mIf_some h with ⟨_, h⟩ | ⟨_, h⟩
        · obtain ⟨_, rfl⟩ := mRW h
          exact mAv.rf
        · obtain ⟨_, rfl⟩ := mRW h
          exact mAv.rf
    · obtain ⟨v14, _, h⟩ := mBN_some h
      rcases mIf_some h with ⟨_, h⟩ | ⟨_, h⟩
      · obtain ⟨x20, _, h⟩ := mLt_some h
        exact mAv.tr mAv.rf (ih _ _ _ _ h) (fun i z => by unfold wX1_isFulfilled_0 at z; unfold wX1_isFulfilled_0; omega)
      · obtain ⟨V21, eV21, h⟩ := mLt_some h
        have a1 : mAv (wX1_isFulfilled_0 l1A) V V21 := by rw [eV21]; exact mAv.F mAv.rf (by unfold wX1_isFulfilled_0; omega)
        obtain ⟨x22, _, h⟩ := mLt_some h
        exact mAv.tr a1 (ih _ _ _ _ h) (fun i z => by unfold wX1_isFulfilled_0 at z; unfold wX1_isFulfilled_0; omega)
set_option maxHeartbeats 4000000 in
theorem NX1_isFulfilled {F : Nat} {V V1 : mV} {v : Int32} {l1A : Nat} {l2I : Int32} (h : mX1_isFulfilled F l1A l2I V = some (v, V1)) : mAv (wX1_isFulfilled l1A) V V1 := by
  have ih := NX1_isFulfilled_go (F := F) (v := v) (V1 := V1) F
  unfold mX1_isFulfilled mX1_isFulfilled_s at h
  obtain ⟨V23, eV23, h⟩ := mLt_some h
  have a2 : mAv (wX1_isFulfilled l1A) V V23 := by rw [eV23]; exact mAv.F mAv.rf (by unfold wX1_isFulfilled; omega)
  obtain ⟨V24, eV24, h⟩ := mLt_some h
  have a3 : mAv (wX1_isFulfilled l1A) V V24 := by rw [eV24]; exact mAv.F a2 (by unfold wX1_isFulfilled; omega)
  exact mAv.tr a3 (ih _ _ _ _ h) (fun i z => by unfold wX1_isFulfilled_0 at z; unfold wX1_isFulfilled; omega)
def wX2_fillsFrom (i : Nat) : Prop := i = 28 ∨ (31 ≤ i ∧ i ≤ 32)
def wX2_fillsFrom_0 (i : Nat) : Prop := i = 28 ∨ (31 ≤ i ∧ i ≤ 32)
def wX2_fillsFrom_1 (i : Nat) : Prop := i = 28 ∨ (31 ≤ i ∧ i ≤ 32)
set_option maxHeartbeats 4000000 in
theorem NX2_fillsFrom_go {rc : Int32 → mV → Option (Int32 × mV)} (hrc : ∀ {V V1 : mV} {v : Int32} {l1I : Int32}, rc l1I V = some (v, V1) → mAv (wX2_fillsFrom) V V1) {F : Nat} {v : Int32} {V1 : mV} : ∀ k' : Nat, (∀ (l1I : Int32) (s0I : Int32) (V : mV), mX2_fillsFrom_go F rc k' 0 l1I 0 0 s0I V = some (v, V1) → mAv (wX2_fillsFrom_0) V V1) ∧ (∀ (l1I : Int32) (l3I : Int32) (l4I : Int32) (V : mV), mX2_fillsFrom_go F rc k' 1 l1I l3I l4I 0 V = some (v, V1) → mAv (wX2_fillsFrom_1) V V1) := by
  intro k'
  induction k' with
  | zero => exact ⟨(fun _ _ _ h => by cases h), (fun _ _ _ _ h => by cases h)⟩
  | succ k' ih =>
    refine ⟨?_, ?_⟩
    · intro l1I s0I V h
      rw [mX2_fillsFrom_go, if_pos rfl] at h
      unfold mX2_fillsFrom_b0 at h
      rcases mIf_some h with ⟨_, h⟩ | ⟨_, h⟩
      · rcases mIf_some h with ⟨_, h⟩ | ⟨_, h⟩
        · obtain ⟨c1, h⟩ := mGd_some h
          obtain ⟨x4, _, h⟩ := mLt_some h
          exact mAv.tr mAv.rf (ih.2 _ _ _ _ h) (fun i z => by unfold wX2_fillsFrom_1 at z; unfold wX2_fillsFrom_0; omega)
        · obtain ⟨_, rfl⟩ := mRW h
          exact mAv.rf
      · obtain ⟨c2, h⟩ := mGd_some h
        obtain ⟨v6, _, h⟩ := mBN_some h
        obtain ⟨c3, h⟩ := mGd_some h
        obtain ⟨c4, h⟩ := mGd_some h
        rcases mIf_some h with ⟨_, h⟩ | ⟨_, h⟩
        · rcases mIf_some h with ⟨_, h⟩ | ⟨_, h⟩
          · obtain ⟨c5, h⟩ := mGd_some h
            obtain ⟨x16, _, h⟩ := mLt_some h
            exact mAv.tr mAv.rf (ih.2 _ _ _ _ h) (fun i z => by unfold wX2_fillsFrom_1 at z; unfold wX2_fillsFrom_0; omega)
          · obtain ⟨_, rfl⟩ := mRW h
            exact mAv.rf
        · obtain ⟨_, rfl⟩ := mRW h
          exact mAv.rf
    · intro l1I l3I l4I V h
      rw [mX2_fillsFrom_go, if_neg (by decide), if_pos rfl] at h
      unfold mX2_fillsFrom_b1 at h
      rcases mIf_some h with ⟨_, h⟩ | ⟨_, h⟩
      · obtain ⟨_, rfl⟩ := mRW h
        exact mAv.rf
      · obtain ⟨c6, h⟩ := mGd_some h
        obtain ⟨c7, h⟩ := mGd_some h
        obtain ⟨v20, _, h⟩ := mBN_some h
        rcases mIf_some h with ⟨_, h⟩ | ⟨_, h⟩
        · obtain ⟨x26, _, h⟩ := mLt_some h
          exact mAv.tr mAv.rf (ih.2 _ _ _ _ h) (fun i z => by unfold wX2_fillsFrom_1 at z; unfold wX2_fillsFrom_1; omega)
        · obtain ⟨v27, V28, h8, h⟩ := mBW_some h
          have a8 : mAv (wX2_fillsFrom_1) V V28 := mAv.tr mAv.rf (NX2_setPlace h8) (fun i z => by unfold wX2_setPlace at z; unfold wX2_fillsFrom_1; omega)
          obtain ⟨c9, h⟩ := mGd_some h
          obtain ⟨c10, h⟩ := mGd_some h
          obtain ⟨V34, eV34, h⟩ := mLt_some h
          have a11 : mAv (wX2_fillsFrom_1) V V34 := by rw [eV34]; exact mAv.I a8 (by unfold wX2_fillsFrom_1; omega)
          obtain ⟨v35, V36, h12, h⟩ := mBW_some h
          have a12 : mAv (wX2_fillsFrom_1) V V36 := mAv.tr a11 (hrc h12) (fun i z => by unfold wX2_fillsFrom at z; unfold wX2_fillsFrom_1; omega)
          rcases mIf_some h with ⟨_, h⟩ | ⟨_, h⟩
          · obtain ⟨c13, h⟩ := mGd_some h
            obtain ⟨c14, h⟩ := mGd_some h
            obtain ⟨V43, eV43, h⟩ := mLt_some h
            have a15 : mAv (wX2_fillsFrom_1) V V43 := by rw [eV43]; exact mAv.I a12 (by unfold wX2_fillsFrom_1; omega)
            obtain ⟨c16, h⟩ := mGd_some h
            rcases mIf_some h with ⟨_, h⟩ | ⟨_, h⟩
            · obtain ⟨_, rfl⟩ := mRW h
              exact a15
            · obtain ⟨x46, _, h⟩ := mLt_some h
              exact mAv.tr a15 (ih.2 _ _ _ _ h) (fun i z => by unfold wX2_fillsFrom_1 at z; unfold wX2_fillsFrom_1; omega)
          · obtain ⟨_, rfl⟩ := mRW h
            exact a12
set_option maxHeartbeats 4000000 in
theorem NX2_fillsFrom_a {rc : Int32 → mV → Option (Int32 × mV)} (hrc : ∀ {V V1 : mV} {v : Int32} {l1I : Int32}, rc l1I V = some (v, V1) → mAv (wX2_fillsFrom) V V1) {F : Nat} {V V1 : mV} {v : Int32} {l1I : Int32} (h : mX2_fillsFrom_a F rc l1I V = some (v, V1)) : mAv (wX2_fillsFrom) V V1 := by
  have ih := NX2_fillsFrom_go (rc := rc) @hrc (F := F) (v := v) (V1 := V1) F
  unfold mX2_fillsFrom_a mX2_fillsFrom_s at h
  rcases mIf_some h with ⟨_, h⟩ | ⟨_, h⟩
  · exact mAv.tr mAv.rf (ih.1 _ _ _ h) (fun i z => by unfold wX2_fillsFrom_0 at z; unfold wX2_fillsFrom; omega)
  · rcases mIf_some h with ⟨_, h⟩ | ⟨_, h⟩
    · exact mAv.tr mAv.rf (ih.1 _ _ _ h) (fun i z => by unfold wX2_fillsFrom_0 at z; unfold wX2_fillsFrom; omega)
    · obtain ⟨c17, h⟩ := mGd_some h
      obtain ⟨c18, h⟩ := mGd_some h
      rcases mIf_some h with ⟨_, h⟩ | ⟨_, h⟩
      · exact mAv.tr mAv.rf (ih.1 _ _ _ h) (fun i z => by unfold wX2_fillsFrom_0 at z; unfold wX2_fillsFrom; omega)
      · exact mAv.tr mAv.rf (ih.1 _ _ _ h) (fun i z => by unfold wX2_fillsFrom_0 at z; unfold wX2_fillsFrom; omega)
theorem NX2_fillsFrom_d {F : Nat} : ∀ (j : Nat) {V V1 : mV} {v : Int32} {l1I : Int32}, mX2_fillsFrom F j l1I V = some (v, V1) → mAv (wX2_fillsFrom) V V1 := by
  intro j
  induction j with
  | zero => intro _ _ _ _ h; cases h
  | succ j ih => intro _ _ _ _ h; exact NX2_fillsFrom_a (rc := mX2_fillsFrom F j) (hrc := fun h => ih h) h
theorem NX2_fillsFrom {F j : Nat} {V V1 : mV} {v : Int32} {l1I : Int32} (h : mX2_fillsFrom F j l1I V = some (v, V1)) : mAv (wX2_fillsFrom) V V1 := NX2_fillsFrom_d j h
def wX2_writeCore (l1A : Nat) (i : Nat) : Prop := i = 3 ∨ (27 ≤ i ∧ i ≤ 33) ∨ i = l1A + 2 ∨ i = l1A + 3
def wX2_writeCore_0 (l1A : Nat) (i : Nat) : Prop := i = 3 ∨ (27 ≤ i ∧ i ≤ 33) ∨ i = l1A + 2 ∨ i = l1A + 3
def wX2_writeCore_1 (l1A : Nat) (i : Nat) : Prop := i = l1A + 2 ∨ i = l1A + 3
set_option maxHeartbeats 4000000 in
theorem NX2_writeCore_go {F : Nat} {v : Unit} {Ln1 : Nat → Nat} {V1 : mV} : ∀ k' : Nat, (∀ (l1A : Nat) (l3I : Int32) (l4I : Int32) (Ln : Nat → Nat) (V : mV), mX2_writeCore_go F k' 0 Ln l1A l3I l4I V = some (v, Ln1, V1) → mAv (wX2_writeCore_0 l1A) V V1 ∧ mAl (wX2_writeCore_0 l1A) Ln Ln1) ∧ (∀ (l1A : Nat) (l3I : Int32) (l4I : Int32) (Ln : Nat → Nat) (V : mV), mX2_writeCore_go F k' 1 Ln l1A l3I l4I V = some (v, Ln1, V1) → mAv (wX2_writeCore_1 l1A) V V1 ∧ mAl (wX2_writeCore_1 l1A) Ln Ln1) := by
  intro k'
  induction k' with
  | zero => exact ⟨(fun _ _ _ _ _ h => by cases h), (fun _ _ _ _ _ h => by cases h)⟩
  | succ k' ih =>
    refine ⟨?_, ?_⟩
    · intro l1A l3I l4I Ln V h
      rw [mX2_writeCore_go, if_pos rfl] at h
      unfold mX2_writeCore_b0 at h
      rcases mIf_some h with ⟨_, h⟩ | ⟨_, h⟩
      · obtain ⟨v2, V3, h1, h⟩ := mBW_some h
        have a1 : mAv (wX2_writeCore_0 l1A) V V3 := mAv.tr mAv.rf (NX2_loadEdges h1) (fun i z => by unfold wX2_loadEdges at z; unfold wX2_writeCore_0; omega)
        obtain ⟨v7, _, h⟩ := mBN_some h
        rcases mIf_some h with ⟨_, h⟩ | ⟨_, h⟩
        · obtain ⟨v18, L19, V19, h2, h⟩ := mBA_some h
          have y2 := NX9_add h2
          have a2 : mAv (wX2_writeCore_0 l1A) V V19 := mAv.tr a1 y2.1 (fun i z => by unfold wX9_add at z; unfold wX2_writeCore_0; omega)
          have b2 : mAl (wX2_writeCore_0 l1A) Ln L19 := mAl.tr mAl.rf y2.2 (fun i z => by unfold wX9_add at z; unfold wX2_writeCore_0; omega)
          have y := ih.2 _ _ _ _ _ h
          exact ⟨mAv.tr a2 y.1 (fun i z => by unfold wX2_writeCore_1 at z; unfold wX2_writeCore_0; omega), mAl.tr b2 y.2 (fun i z => by unfold wX2_writeCore_1 at z; unfold wX2_writeCore_0; omega)⟩
        · obtain ⟨v13, L14, V14, h3, h⟩ := mBA_some h
          have y3 := NX9_add h3
          have a3 : mAv (wX2_writeCore_0 l1A) V V14 := mAv.tr a1 y3.1 (fun i z => by unfold wX9_add at z; unfold wX2_writeCore_0; omega)
          have b3 : mAl (wX2_writeCore_0 l1A) Ln L14 := mAl.tr mAl.rf y3.2 (fun i z => by unfold wX9_add at z; unfold wX2_writeCore_0; omega)
          have y := ih.2 _ _ _ _ _ h
          exact ⟨mAv.tr a3 y.1 (fun i z => by unfold wX2_writeCore_1 at z; unfold wX2_writeCore_0; omega), mAl.tr b3 y.2 (fun i z => by unfold wX2_writeCore_1 at z; unfold wX2_writeCore_0; omega)⟩
      · obtain ⟨v23, _, h⟩ := mBN_some h
        rcases mIf_some h with ⟨_, h⟩ | ⟨_, h⟩
        · obtain ⟨x29, _, h⟩ := mLt_some h
          have y := ih.1 _ _ _ _ _ h
          exact ⟨mAv.tr mAv.rf y.1 (fun i z => by unfold wX2_writeCore_0 at z; unfold wX2_writeCore_0; omega), mAl.tr mAl.rf y.2 (fun i z => by unfold wX2_writeCore_0 at z; unfold wX2_writeCore_0; omega)⟩
        · obtain ⟨v30, V31, h4, h⟩ := mBW_some h
          have a4 : mAv (wX2_writeCore_0 l1A) V V31 := mAv.tr mAv.rf (NX2_loadEdges h4) (fun i z => by unfold wX2_loadEdges at z; unfold wX2_writeCore_0; omega)
          obtain ⟨v35, V36, h5, h⟩ := mBW_some h
          have a5 : mAv (wX2_writeCore_0 l1A) V V36 := mAv.tr a4 (NX2_fillsFrom h5) (fun i z => by unfold wX2_fillsFrom at z; unfold wX2_writeCore_0; omega)
          rcases mIf_some h with ⟨_, h⟩ | ⟨_, h⟩
          · obtain ⟨x42, _, h⟩ := mLt_some h
            obtain ⟨x43, _, h⟩ := mLt_some h
            have y := ih.1 _ _ _ _ _ h
            exact ⟨mAv.tr a5 y.1 (fun i z => by unfold wX2_writeCore_0 at z; unfold wX2_writeCore_0; omega), mAl.tr mAl.rf y.2 (fun i z => by unfold wX2_writeCore_0 at z; unfold wX2_writeCore_0; omega)⟩
          · obtain ⟨x41, _, h⟩ := mLt_some h
            have y := ih.1 _ _ _ _ _ h
            exact ⟨mAv.tr a5 y.1 (fun i z => by unfold wX2_writeCore_0 at z; unfold wX2_writeCore_0; omega), mAl.tr mAl.rf y.2 (fun i z => by unfold wX2_writeCore_0 at z; unfold wX2_writeCore_0; omega)⟩
    · intro l1A l3I l4I Ln V h
      rw [mX2_writeCore_go, if_neg (by decide), if_pos rfl] at h
      unfold mX2_writeCore_b1 at h
      rcases mIf_some h with ⟨_, h⟩ | ⟨_, h⟩
      · obtain ⟨_, rfl, rfl⟩ := mRA3 h
        exact ⟨mAv.rf, mAl.rf⟩
      · obtain ⟨v45, _, h⟩ := mBN_some h
        rcases mIf_some h with ⟨_, h⟩ | ⟨_, h⟩
        · obtain ⟨x51, _, h⟩ := mLt_some h
          have y := ih.2 _ _ _ _ _ h
          exact ⟨mAv.tr mAv.rf y.1 (fun i z => by unfold wX2_writeCore_1 at z; unfold wX2_writeCore_1; omega), mAl.tr mAl.rf y.2 (fun i z => by unfold wX2_writeCore_1 at z; unfold wX2_writeCore_1; omega)⟩
        · obtain ⟨v52, L53, V53, h6, h⟩ := mBA_some h
          have y6 := NX9_add h6
          have a6 : mAv (wX2_writeCore_1 l1A) V V53 := mAv.tr mAv.rf y6.1 (fun i z => by unfold wX9_add at z; unfold wX2_writeCore_1; omega)
          have b6 : mAl (wX2_writeCore_1 l1A) Ln L53 := mAl.tr mAl.rf y6.2 (fun i z => by unfold wX9_add at z; unfold wX2_writeCore_1; omega)
          obtain ⟨x57, _, h⟩ := mLt_some h
          have y := ih.2 _ _ _ _ _ h
          exact ⟨mAv.tr a6 y.1 (fun i z => by unfold wX2_writeCore_1 at z; unfold wX2_writeCore_1; omega), mAl.tr b6 y.2 (fun i z => by unfold wX2_writeCore_1 at z; unfold wX2_writeCore_1; omega)⟩
set_option maxHeartbeats 4000000 in
theorem NX2_writeCore {F : Nat} {Ln Ln1 : Nat → Nat} {V V1 : mV} {v : Unit} {l1A : Nat} {l2I : Int32} (h : mX2_writeCore F Ln l1A l2I V = some (v, Ln1, V1)) : mAv (wX2_writeCore l1A) V V1 ∧ mAl (wX2_writeCore l1A) Ln Ln1 := by
  have ih := NX2_writeCore_go (F := F) (v := v) (Ln1 := Ln1) (V1 := V1) F
  unfold mX2_writeCore mX2_writeCore_s at h
  obtain ⟨x58, _, h⟩ := mLt_some h
  have y := ih.1 _ _ _ _ _ h
  exact ⟨mAv.tr mAv.rf y.1 (fun i z => by unfold wX2_writeCore_0 at z; unfold wX2_writeCore; omega), mAl.tr mAl.rf y.2 (fun i z => by unfold wX2_writeCore_0 at z; unfold wX2_writeCore; omega)⟩
end
