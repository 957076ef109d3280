/-! WHAT EACH METHOD LEAVES ALONE: X6_writeLetters, X6_judgeLikeness, X7_writePairing, X7_writeNodes, X7_leadsOn, X7_lowerAll, X8_fulfilItem, X8_writeModulus, X8_addRest, X8_divideFirst, X10_writePoints. -/
section
def wX6_writeLetters (l2A : Nat) (i : Nat) : Prop := i = l2A ∨ i = l2A + 1
def wX6_writeLetters_0 (l2A : Nat) (i : Nat) : Prop := i = l2A ∨ i = l2A + 1
def wX6_writeLetters_1 (l2A : Nat) (s0A : Nat) (i : Nat) : Prop := i = l2A ∨ i = l2A + 1 ∨ i = s0A ∨ i = s0A + 1
set_option maxHeartbeats 4000000 in
theorem NX6_writeLetters_go {F : Nat} {v : Unit} {Ln1 : Nat → Nat} {V1 : mV} : ∀ k' : Nat, (∀ (l2A : Nat) (l3I : Int32) (l4I : Int32) (l5I : Int32) (Ln : Nat → Nat) (V : mV), mX6_writeLetters_go F k' 0 Ln l2A l3I l4I l5I 0 0 0 V = some (v, Ln1, V1) → mAv (wX6_writeLetters_0 l2A) V V1 ∧ mAl (wX6_writeLetters_0 l2A) Ln Ln1) ∧ (∀ (l2A : Nat) (l3I : Int32) (l4I : Int32) (l5I : Int32) (l6I : Int32) (s0A : Nat) (s1I : Int32) (Ln : Nat → Nat) (V : mV), mX6_writeLetters_go F k' 1 Ln l2A l3I l4I l5I l6I s0A s1I V = some (v, Ln1, V1) → mAv (wX6_writeLetters_1 l2A s0A) V V1 ∧ mAl (wX6_writeLetters_1 l2A s0A) Ln Ln1) := by
  intro k'
  induction k' with
  | zero => exact ⟨(fun _ _ _ _ _ _ h => by cases h), (fun _ _ _ _ _ _ _ _ _ h => by cases h)⟩
  | succ k' ih =>
    refine ⟨?_, ?_⟩
    · intro l2A l3I l4I l5I Ln V h
      rw [mX6_writeLetters_go, if_pos rfl] at h
      unfold mX6_writeLetters_b0 at h
      rcases mIf_some h with ⟨_, h⟩ | ⟨_, h⟩
      · obtain ⟨_, rfl, rfl⟩ := mRA3 h
        exact ⟨mAv.rf, mAl.rf⟩
      · obtain ⟨c1, h⟩ := mGd_some h
        obtain ⟨c2, h⟩ := mGd_some h
        obtain ⟨v4, _, h⟩ := mBN_some h
        rcases mIf_some h with ⟨_, h⟩ | ⟨_, h⟩
        · have y := ih.2 _ _ _ _ _ _ _ _ _ h
          exact ⟨mAv.tr mAv.rf y.1 (fun i z => by unfold wX6_writeLetters_1 at z; unfold wX6_writeLetters_0; omega), mAl.tr mAl.rf y.2 (fun i z => by unfold wX6_writeLetters_1 at z; unfold wX6_writeLetters_0; omega)⟩
        · have y := ih.2 _ _ _ _ _ _ _ _ _ h
          exact ⟨mAv.tr mAv.rf y.1 (fun i z => by unfold wX6_writeLetters_1 at z; unfold wX6_writeLetters_0; omega), mAl.tr mAl.rf y.2 (fun i z => by unfold wX6_writeLetters_1 at z; unfold wX6_writeLetters_0; omega)⟩
    · intro l2A l3I l4I l5I l6I s0A s1I Ln V h
      rw [mX6_writeLetters_go, if_neg (by decide), if_pos rfl] at h
      unfold mX6_writeLetters_b1 at h
      obtain ⟨v10, L11, V11, h3, h⟩ := mBA_some h
      have y3 := NX9_add h3
      have a3 : mAv (wX6_writeLetters_1 l2A s0A) V V11 := mAv.tr mAv.rf y3.1 (fun i z => by unfold wX9_add at z; unfold wX6_writeLetters_1; omega)
      have b3 : mAl (wX6_writeLetters_1 l2A s0A) Ln L11 := mAl.tr mAl.rf y3.2 (fun i z => by unfold wX9_add at z; unfold wX6_writeLetters_1; omega)
      rcases mIf_some h with ⟨_, h⟩ | ⟨_, h⟩
      · obtain ⟨c4, h⟩ := mGd_some h
        obtain ⟨x17, _, h⟩ := mLt_some h
        rcases mIf_some h with ⟨_, h⟩ | ⟨_, h⟩
        · obtain ⟨c5, h⟩ := mGd_some h
          obtain ⟨x20, _, h⟩ := mLt_some h
          obtain ⟨x21, _, h⟩ := mLt_some h
          have y := ih.1 _ _ _ _ _ _ h
          exact ⟨mAv.tr a3 y.1 (fun i z => by unfold wX6_writeLetters_0 at z; unfold wX6_writeLetters_1; omega), mAl.tr b3 y.2 (fun i z => by unfold wX6_writeLetters_0 at z; unfold wX6_writeLetters_1; omega)⟩
        · obtain ⟨c6, h⟩ := mGd_some h
          obtain ⟨x23, _, h⟩ := mLt_some h
          obtain ⟨x24, _, h⟩ := mLt_some h
          have y := ih.1 _ _ _ _ _ _ h
          exact ⟨mAv.tr a3 y.1 (fun i z => by unfold wX6_writeLetters_0 at z; unfold wX6_writeLetters_1; omega), mAl.tr b3 y.2 (fun i z => by unfold wX6_writeLetters_0 at z; unfold wX6_writeLetters_1; omega)⟩
      · obtain ⟨c7, h⟩ := mGd_some h
        obtain ⟨x26, _, h⟩ := mLt_some h
        rcases mIf_some h with ⟨_, h⟩ | ⟨_, h⟩
        · obtain ⟨c8, h⟩ := mGd_some h
          obtain ⟨x29, _, h⟩ := mLt_some h
          obtain ⟨x30, _, h⟩ := mLt_some h
          have y := ih.1 _ _ _ _ _ _ h
          exact ⟨mAv.tr a3 y.1 (fun i z => by unfold wX6_writeLetters_0 at z; unfold wX6_writeLetters_1; omega), mAl.tr b3 y.2 (fun i z => by unfold wX6_writeLetters_0 at z; unfold wX6_writeLetters_1; omega)⟩
        · obtain ⟨c9, h⟩ := mGd_some h
          obtain ⟨x32, _, h⟩ := mLt_some h
          obtain ⟨x33, _, h⟩ := mLt_some h
          have y := ih.1 _ _ _ _ _ _ h
          exact ⟨mAv.tr a3 y.1 (fun i z => by unfold wX6_writeLetters_0 at z; unfold wX6_writeLetters_1; omega), mAl.tr b3 y.2 (fun i z => by unfold wX6_writeLetters_0 at z; unfold wX6_writeLetters_1; omega)⟩
set_option maxHeartbeats 4000000 in
theorem NX6_writeLetters {F : Nat} {Ln Ln1 : Nat → Nat} {V V1 : mV} {v : Unit} {l1I : Int32} {l2A : Nat} (h : mX6_writeLetters F Ln l1I l2A V = some (v, Ln1, V1)) : mAv (wX6_writeLetters l2A) V V1 ∧ mAl (wX6_writeLetters l2A) Ln Ln1 := by
  have ih := NX6_writeLetters_go (F := F) (v := v) (Ln1 := Ln1) (V1 := V1) F
  unfold mX6_writeLetters mX6_writeLetters_s at h
  obtain ⟨v34, _, h⟩ := mBN_some h
  have y := ih.1 _ _ _ _ _ _ h
  exact ⟨mAv.tr mAv.rf y.1 (fun i z => by unfold wX6_writeLetters_0 at z; unfold wX6_writeLetters; omega), mAl.tr mAl.rf y.2 (fun i z => by unfold wX6_writeLetters_0 at z; unfold wX6_writeLetters; omega)⟩
def wX6_judgeLikeness (l1A : Nat) (l2A : Nat) (i : Nat) : Prop := i = 8 ∨ (84 ≤ i ∧ i ≤ 86)
def wX6_judgeLikeness_0 (l1A : Nat) (l2A : Nat) (i : Nat) : Prop := i < 0
def wX6_judgeLikeness_1 (l1A : Nat) (l2A : Nat) (i : Nat) : Prop := i < 0
def wX6_judgeLikeness_2 (l1A : Nat) (l2A : Nat) (i : Nat) : Prop := i < 0
def wX6_judgeLikeness_3 (l1A : Nat) (l2A : Nat) (i : Nat) : Prop := i < 0
set_option maxHeartbeats 4000000 in
theorem NX6_judgeLikeness_go {F : Nat} {v : Int32} {V1 : mV} : ∀ k' : Nat, (∀ (l1A : Nat) (l2A : Nat) (l3I : Int32) (Ln : Nat → Nat) (V : mV), mX6_judgeLikeness_go F k' 0 Ln l1A l2A l3I 0 V = some (v, V1) → mAv (wX6_judgeLikeness_0 l1A l2A) V V1) ∧ (∀ (l1A : Nat) (l2A : Nat) (l3I : Int32) (l4I : Int32) (Ln : Nat → Nat) (V : mV), mX6_judgeLikeness_go F k' 1 Ln l1A l2A l3I l4I V = some (v, V1) → mAv (wX6_judgeLikeness_1 l1A l2A) V V1) ∧ (∀ (l1A : Nat) (l2A : Nat) (l3I : Int32) (Ln : Nat → Nat) (V : mV), mX6_judgeLikeness_go F k' 2 Ln l1A l2A l3I 0 V = some (v, V1) → mAv (wX6_judgeLikeness_2 l1A l2A) V V1) ∧ (∀ (l1A : Nat) (l2A : Nat) (l3I : Int32) (l4I : Int32) (Ln : Nat → Nat) (V : mV), mX6_judgeLikeness_go F k' 3 Ln l1A l2A l3I l4I V = some (v, V1) → mAv (wX6_judgeLikeness_3 l1A l2A) V V1) := by
  intro k'
  induction k' with
  | zero => exact ⟨(fun _ _ _ _ _ h => by cases h), (fun _ _ _ _ _ _ h => by cases h), (fun _ _ _ _ _ h => by cases h), (fun _ _ _ _ _ _ h => by cases h)⟩
  | succ k' ih =>
    refine ⟨?_, ?_, ?_, ?_⟩
    · intro l1A l2A l3I Ln V h
      rw [mX6_judgeLikeness_go, if_pos rfl] at h
      unfold mX6_judgeLikeness_b0 at h
      rcases mIf_some h with ⟨_, h⟩ | ⟨_, h⟩
      · exact mAv.tr mAv.rf (ih.2.2.1 _ _ _ _ _ h) (fun i z => by unfold wX6_judgeLikeness_2 at z; unfold wX6_judgeLikeness_0; omega)
      · exact mAv.tr mAv.rf (ih.2.1 _ _ _ _ _ _ h) (fun i z => by unfold wX6_judgeLikeness_1 at z; unfold wX6_judgeLikeness_0; omega)
    · intro l1A l2A l3I l4I Ln V h
      rw [mX6_judgeLikeness_go, if_neg (by decide), if_pos rfl] at h
      unfold mX6_judgeLikeness_b1 at h
      rcases mIf_some h with ⟨_, h⟩ | ⟨_, h⟩
      · obtain ⟨x3, _, h⟩ := mLt_some h
        exact mAv.tr mAv.rf (ih.1 _ _ _ _ _ h) (fun i z => by unfold wX6_judgeLikeness_0 at z; unfold wX6_judgeLikeness_1; omega)
      · obtain ⟨v4, _, h⟩ := mBN_some h
        obtain ⟨v9, _, h⟩ := mBN_some h
        rcases mIf_some h with ⟨_, h⟩ | ⟨_, h⟩
        · obtain ⟨c1, h⟩ := mGd_some h
          obtain ⟨c2, h⟩ := mGd_some h
          rcases mIf_some h with ⟨_, h⟩ | ⟨_, h⟩
          · obtain ⟨x19, _, h⟩ := mLt_some h
            exact mAv.tr mAv.rf (ih.2.1 _ _ _ _ _ _ h) (fun i z => by unfold wX6_judgeLikeness_1 at z; unfold wX6_judgeLikeness_1; omega)
          · obtain ⟨_, rfl⟩ := mRW h
            exact mAv.rf
        · obtain ⟨x15, _, h⟩ := mLt_some h
          exact mAv.tr mAv.rf (ih.2.1 _ _ _ _ _ _ h) (fun i z => by unfold wX6_judgeLikeness_1 at z; unfold wX6_judgeLikeness_1; omega)
    · intro l1A l2A l3I Ln V h
      rw [mX6_judgeLikeness_go, if_neg (by decide), if_neg (by decide), if_pos rfl] at h
      unfold mX6_judgeLikeness_b2 at h
      rcases mIf_some h with ⟨_, h⟩ | ⟨_, h⟩
      · obtain ⟨v21, _, h⟩ := mBN_some h
        obtain ⟨v26, _, h⟩ := mBN_some h
        obtain ⟨v31, _, h⟩ := mBN_some h
        rcases mIf_some h with ⟨_, h⟩ | ⟨_, h⟩
        · obtain ⟨_, rfl⟩ := mRW h
          exact mAv.rf
        · obtain ⟨_, rfl⟩ := mRW h
          exact mAv.rf
      · exact mAv.tr mAv.rf (ih.2.2.2 _ _ _ _ _ _ h) (fun i z => by unfold wX6_judgeLikeness_3 at z; unfold wX6_judgeLikeness_2; omega)
    · intro l1A l2A l3I l4I Ln V h
      rw [mX6_judgeLikeness_go, if_neg (by decide), if_neg (by decide), if_neg (by decide), if_pos rfl] at h
      unfold mX6_judgeLikeness_b3 at h
      rcases mIf_some h with ⟨_, h⟩ | ⟨_, h⟩
      · obtain ⟨x38, _, h⟩ := mLt_some h
        exact mAv.tr mAv.rf (ih.2.2.1 _ _ _ _ _ h) (fun i z => by unfold wX6_judgeLikeness_2 at z; unfold wX6_judgeLikeness_3; omega)
      · obtain ⟨v39, _, h⟩ := mBN_some h
        obtain ⟨v44, _, h⟩ := mBN_some h
        rcases mIf_some h with ⟨_, h⟩ | ⟨_, h⟩
        · obtain ⟨v51, _, h⟩ := mBN_some h
          rcases mIf_some h with ⟨_, h⟩ | ⟨_, h⟩
          · obtain ⟨_, rfl⟩ := mRW h
            exact mAv.rf
          · obtain ⟨x57, _, h⟩ := mLt_some h
            exact mAv.tr mAv.rf (ih.2.2.2 _ _ _ _ _ _ h) (fun i z => by unfold wX6_judgeLikeness_3 at z; unfold wX6_judgeLikeness_3; omega)
        · obtain ⟨x50, _, h⟩ := mLt_some h
          exact mAv.tr mAv.rf (ih.2.2.2 _ _ _ _ _ _ h) (fun i z => by unfold wX6_judgeLikeness_3 at z; unfold wX6_judgeLikeness_3; omega)
set_option maxHeartbeats 4000000 in
theorem NX6_judgeLikeness {F : Nat} {Ln : Nat → Nat} {V V1 : mV} {v : Int32} {l1A : Nat} {l2A : Nat} (h : mX6_judgeLikeness F Ln l1A l2A V = some (v, V1)) : mAv (wX6_judgeLikeness l1A l2A) V V1 := by
  have ih := NX6_judgeLikeness_go (F := F) (v := v) (V1 := V1) F
  unfold mX6_judgeLikeness mX6_judgeLikeness_s at h
  obtain ⟨v58, V59, h3, h⟩ := mBW_some h
  have a3 : mAv (wX6_judgeLikeness l1A l2A) V V59 := mAv.tr mAv.rf (NX6_loadStates h3) (fun i z => by unfold wX6_loadStates at z; unfold wX6_judgeLikeness; omega)
  rcases mIf_some h with ⟨_, h⟩ | ⟨_, h⟩
  · obtain ⟨v64, _, h⟩ := mBN_some h
    rcases mIf_some h with ⟨_, h⟩ | ⟨_, h⟩
    · obtain ⟨_, rfl⟩ := mRW h
      exact a3
    · exact mAv.tr a3 (ih.1 _ _ _ _ _ h) (fun i z => by unfold wX6_judgeLikeness_0 at z; unfold wX6_judgeLikeness; omega)
  · obtain ⟨_, rfl⟩ := mRW h
    exact a3
def wX7_writePairing (l2A : Nat) (i : Nat) : Prop := i = l2A ∨ i = l2A + 1
def wX7_writePairing_0 (l2A : Nat) (i : Nat) : Prop := i = l2A ∨ i = l2A + 1
def wX7_writePairing_1 (l2A : Nat) (i : Nat) : Prop := i = l2A + 1
set_option maxHeartbeats 4000000 in
theorem NX7_writePairing_go {F : Nat} {v : Unit} {Ln1 : Nat → Nat} {V1 : mV} : ∀ k' : Nat, (∀ (l1I : Int32) (l2A : Nat) (l3I : Int32) (Ln : Nat → Nat) (V : mV), mX7_writePairing_go F k' 0 Ln l1I l2A l3I 0 V = some (v, Ln1, V1) → mAv (wX7_writePairing_0 l2A) V V1 ∧ mAl (wX7_writePairing_0 l2A) Ln Ln1) ∧ (∀ (l1I : Int32) (l2A : Nat) (l3I : Int32) (l4I : Int32) (Ln : Nat → Nat) (V : mV), mX7_writePairing_go F k' 1 Ln l1I l2A l3I l4I V = some (v, Ln1, V1) → mAv (wX7_writePairing_1 l2A) V V1 ∧ mAl (wX7_writePairing_1 l2A) Ln Ln1) := by
  intro k'
  induction k' with
  | zero => exact ⟨(fun _ _ _ _ _ h => by cases h), (fun _ _ _ _ _ _ h => by cases h)⟩
  | succ k' ih =>
    refine ⟨?_, ?_⟩
    · intro l1I l2A l3I Ln V h
      rw [mX7_writePairing_go, if_pos rfl] at h
      unfold mX7_writePairing_b0 at h
      rcases mIf_some h with ⟨_, h⟩ | ⟨_, h⟩
      · obtain ⟨x2, _, h⟩ := mLt_some h
        have y := ih.2 _ _ _ _ _ _ h
        exact ⟨mAv.tr mAv.rf y.1 (fun i z => by unfold wX7_writePairing_1 at z; unfold wX7_writePairing_0; omega), mAl.tr mAl.rf y.2 (fun i z => by unfold wX7_writePairing_1 at z; unfold wX7_writePairing_0; omega)⟩
      · obtain ⟨v3, L4, V4, h1, h⟩ := mBA_some h
        have y1 := NX9_add h1
        have a1 : mAv (wX7_writePairing_0 l2A) V V4 := mAv.tr mAv.rf y1.1 (fun i z => by unfold wX9_add at z; unfold wX7_writePairing_0; omega)
        have b1 : mAl (wX7_writePairing_0 l2A) Ln L4 := mAl.tr mAl.rf y1.2 (fun i z => by unfold wX9_add at z; unfold wX7_writePairing_0; omega)
        obtain ⟨x8, _, h⟩ := mLt_some h
        have y := ih.1 _ _ _ _ _ h
        exact ⟨mAv.tr a1 y.1 (fun i z => by unfold wX7_writePairing_0 at z; unfold wX7_writePairing_0; omega), mAl.tr b1 y.2 (fun i z => by unfold wX7_writePairing_0 at z; unfold wX7_writePairing_0; omega)⟩
    · intro l1I l2A l3I l4I Ln V h
      rw [mX7_writePairing_go, if_neg (by decide), if_pos rfl] at h
      unfold mX7_writePairing_b1 at h
      rcases mIf_some h with ⟨_, h⟩ | ⟨_, h⟩
      · obtain ⟨_, rfl, rfl⟩ := mRA3 h
        exact ⟨mAv.rf, mAl.rf⟩
      · obtain ⟨v10, _, h⟩ := mBN_some h
        rcases mIf_some h with ⟨_, h⟩ | ⟨_, h⟩
        · obtain ⟨x16, _, h⟩ := mLt_some h
          have y := ih.2 _ _ _ _ _ _ h
          exact ⟨mAv.tr mAv.rf y.1 (fun i z => by unfold wX7_writePairing_1 at z; unfold wX7_writePairing_1; omega), mAl.tr mAl.rf y.2 (fun i z => by unfold wX7_writePairing_1 at z; unfold wX7_writePairing_1; omega)⟩
        · obtain ⟨v17, _, h⟩ := mBN_some h
          obtain ⟨v22, V23, h2, h⟩ := mBW_some h
          have a2 : mAv (wX7_writePairing_1 l2A) V V23 := mAv.tr mAv.rf (NX9_set h2) (fun i z => by unfold wX9_set at z; unfold wX7_writePairing_1; omega)
          obtain ⟨v27, V28, h3, h⟩ := mBW_some h
          have a3 : mAv (wX7_writePairing_1 l2A) V V28 := mAv.tr a2 (NX9_set h3) (fun i z => by unfold wX9_set at z; unfold wX7_writePairing_1; omega)
          obtain ⟨x32, _, h⟩ := mLt_some h
          obtain ⟨x33, _, h⟩ := mLt_some h
          have y := ih.2 _ _ _ _ _ _ h
          exact ⟨mAv.tr a3 y.1 (fun i z => by unfold wX7_writePairing_1 at z; unfold wX7_writePairing_1; omega), mAl.tr mAl.rf y.2 (fun i z => by unfold wX7_writePairing_1 at z; unfold wX7_writePairing_1; omega)⟩
set_option maxHeartbeats 4000000 in
theorem NX7_writePairing {F : Nat} {Ln Ln1 : Nat → Nat} {V V1 : mV} {v : Unit} {l1I : Int32} {l2A : Nat} (h : mX7_writePairing F Ln l1I l2A V = some (v, Ln1, V1)) : mAv (wX7_writePairing l2A) V V1 ∧ mAl (wX7_writePairing l2A) Ln Ln1 := by
  have ih := NX7_writePairing_go (F := F) (v := v) (Ln1 := Ln1) (V1 := V1) F
  unfold mX7_writePairing mX7_writePairing_s at h
  have y := ih.1 _ _ _ _ _ h
  exact ⟨mAv.tr mAv.rf y.1 (fun i z => by unfold wX7_writePairing_0 at z; unfold wX7_writePairing; omega), mAl.tr mAl.rf y.2 (fun i z => by unfold wX7_writePairing_0 at z; unfold wX7_writePairing; omega)⟩
def wX7_writeNodes (l2A : Nat) (i : Nat) : Prop := i = l2A ∨ i = l2A + 1
def wX7_writeNodes_0 (l2A : Nat) (i : Nat) : Prop := i = l2A ∨ i = l2A + 1
set_option maxHeartbeats 4000000 in
theorem NX7_writeNodes_go {F : Nat} {v : Unit} {Ln1 : Nat → Nat} {V1 : mV} : ∀ k' : Nat, (∀ (l1I : Int32) (l2A : Nat) (l3I : Int32) (Ln : Nat → Nat) (V : mV), mX7_writeNodes_go F k' 0 Ln l1I l2A l3I V = some (v, Ln1, V1) → mAv (wX7_writeNodes_0 l2A) V V1 ∧ mAl (wX7_writeNodes_0 l2A) Ln Ln1) := by
  intro k'
  induction k' with
  | zero => exact (fun _ _ _ _ _ h => by cases h)
  | succ k' ih =>
    intro l1I l2A l3I Ln V h
    rw [mX7_writeNodes_go, if_pos rfl] at h
    unfold mX7_writeNodes_b0 at h
    rcases mIf_some h with ⟨_, h⟩ | ⟨_, h⟩
    · obtain ⟨_, rfl, rfl⟩ := mRA3 h
      exact ⟨mAv.rf, mAl.rf⟩
    · obtain ⟨v2, _, h⟩ := mBN_some h
      rcases mIf_some h with ⟨_, h⟩ | ⟨_, h⟩
      · obtain ⟨v9, L10, V10, h1, h⟩ := mBA_some h
        have y1 := NX9_add h1
        have a1 : mAv (wX7_writeNodes_0 l2A) V V10 := mAv.tr mAv.rf y1.1 (fun i z => by unfold wX9_add at z; unfold wX7_writeNodes_0; omega)
        have b1 : mAl (wX7_writeNodes_0 l2A) Ln L10 := mAl.tr mAl.rf y1.2 (fun i z => by unfold wX9_add at z; unfold wX7_writeNodes_0; omega)
        obtain ⟨x14, _, h⟩ := mLt_some h
        have y := ih _ _ _ _ _ h
        exact ⟨mAv.tr a1 y.1 (fun i z => by unfold wX7_writeNodes_0 at z; unfold wX7_writeNodes_0; omega), mAl.tr b1 y.2 (fun i z => by unfold wX7_writeNodes_0 at z; unfold wX7_writeNodes_0; omega)⟩
      · obtain ⟨x8, _, h⟩ := mLt_some h
        have y := ih _ _ _ _ _ h
        exact ⟨mAv.tr mAv.rf y.1 (fun i z => by unfold wX7_writeNodes_0 at z; unfold wX7_writeNodes_0; omega), mAl.tr mAl.rf y.2 (fun i z => by unfold wX7_writeNodes_0 at z; unfold wX7_writeNodes_0; omega)⟩
set_option maxHeartbeats 4000000 in
theorem NX7_writeNodes {F : Nat} {Ln Ln1 : Nat → Nat} {V V1 : mV} {v : Unit} {l1I : Int32} {l2A : Nat} (h : mX7_writeNodes F Ln l1I l2A V = some (v, Ln1, V1)) : mAv (wX7_writeNodes l2A) V V1 ∧ mAl (wX7_writeNodes l2A) Ln Ln1 := by
  have ih := NX7_writeNodes_go (F := F) (v := v) (Ln1 := Ln1) (V1 := V1) F
  unfold mX7_writeNodes mX7_writeNodes_s at h
  have y := ih _ _ _ _ _ h
  exact ⟨mAv.tr mAv.rf y.1 (fun i z => by unfold wX7_writeNodes_0 at z; unfold wX7_writeNodes; omega), mAl.tr mAl.rf y.2 (fun i z => by unfold wX7_writeNodes_0 at z; unfold wX7_writeNodes; omega)⟩
def wX7_leadsOn (i : Nat) : Prop := i = 2 ∨ (24 ≤ i ∧ i ≤ 25)
def wX7_leadsOn_0 (i : Nat) : Prop := i = 2 ∨ (24 ≤ i ∧ i ≤ 25)
def wX7_leadsOn_1 (i : Nat) : Prop := i = 2 ∨ (24 ≤ i ∧ i ≤ 25)
def wX7_leadsOn_2 (i : Nat) : Prop := i = 24
set_option maxHeartbeats 4000000 in
theorem NX7_leadsOn_go {F : Nat} {v : Int32} {V1 : mV} : ∀ k' : Nat, (∀ (l1I : Int32) (l2I : Int32) (l3I : Int32) (l4I : Int32) (l5I : Int32) (V : mV), mX7_leadsOn_go F k' 0 l1I l2I l3I l4I l5I 0 0 V = some (v, V1) → mAv (wX7_leadsOn_0) V V1) ∧ (∀ (l1I : Int32) (l2I : Int32) (l3I : Int32) (l5I : Int32) (l6I : Int32) (l7I : Int32) (V : mV), mX7_leadsOn_go F k' 1 l1I l2I l3I 0 l5I l6I l7I V = some (v, V1) → mAv (wX7_leadsOn_1) V V1) ∧ (∀ (l1I : Int32) (l5I : Int32) (l6I : Int32) (V : mV), mX7_leadsOn_go F k' 2 l1I 0 0 0 l5I l6I 0 V = some (v, V1) → mAv (wX7_leadsOn_2) V V1) := by
  intro k'
  induction k' with
  | zero => exact ⟨(fun _ _ _ _ _ _ h => by cases h), (fun _ _ _ _ _ _ _ h => by cases h), (fun _ _ _ _ h => by cases h)⟩
  | succ k' ih =>
    refine ⟨?_, ?_, ?_⟩
    · intro l1I l2I l3I l4I l5I V h
      rw [mX7_leadsOn_go, if_pos rfl] at h
      unfold mX7_leadsOn_b0 at h
      rcases mIf_some h with ⟨_, h⟩ | ⟨_, h⟩
      · obtain ⟨v2, _, h⟩ := mBN_some h
        rcases mIf_some h with ⟨_, h⟩ | ⟨_, h⟩
        · obtain ⟨_, rfl⟩ := mRW h
          exact mAv.rf
        · exact mAv.tr mAv.rf (ih.2.2 _ _ _ _ h) (fun i z => by unfold wX7_leadsOn_2 at z; unfold wX7_leadsOn_0; omega)
      · rcases mIf_some h with ⟨_, h⟩ | ⟨_, h⟩
        · obtain ⟨v9, _, h⟩ := mBN_some h
          rcases mIf_some h with ⟨_, h⟩ | ⟨_, h⟩
          · obtain ⟨_, rfl⟩ := mRW h
            exact mAv.rf
          · exact mAv.tr mAv.rf (ih.2.2 _ _ _ _ h) (fun i z => by unfold wX7_leadsOn_2 at z; unfold wX7_leadsOn_0; omega)
        · obtain ⟨x15, _, h⟩ := mLt_some h
          exact mAv.tr mAv.rf (ih.2.1 _ _ _ _ _ _ _ h) (fun i z => by unfold wX7_leadsOn_1 at z; unfold wX7_leadsOn_0; omega)
    · intro l1I l2I l3I l5I l6I l7I V h
      rw [mX7_leadsOn_go, if_neg (by decide), if_pos rfl] at h
      unfold mX7_leadsOn_b1 at h
      rcases mIf_some h with ⟨_, h⟩ | ⟨_, h⟩
      · rcases mIf_some h with ⟨_, h⟩ | ⟨_, h⟩
        · obtain ⟨x18, _, h⟩ := mLt_some h
          exact mAv.tr mAv.rf (ih.1 _ _ _ _ _ _ h) (fun i z => by unfold wX7_leadsOn_0 at z; unfold wX7_leadsOn_1; omega)
        · obtain ⟨x19, _, h⟩ := mLt_some h
          exact mAv.tr mAv.rf (ih.1 _ _ _ _ _ _ h) (fun i z => by unfold wX7_leadsOn_0 at z; unfold wX7_leadsOn_1; omega)
      · obtain ⟨v20, V21, h1, h⟩ := mBW_some h
        have a1 : mAv (wX7_leadsOn_1) V V21 := mAv.tr mAv.rf (NX7_reachBy h1) (fun i z => by unfold wX7_reachBy at z; unfold wX7_leadsOn_1; omega)
        obtain ⟨x25, _, h⟩ := mLt_some h
        exact mAv.tr a1 (ih.2.1 _ _ _ _ _ _ _ h) (fun i z => by unfold wX7_leadsOn_1 at z; unfold wX7_leadsOn_1; omega)
    · intro l1I l5I l6I V h
      rw [mX7_leadsOn_go, if_neg (by decide), if_neg (by decide), if_pos rfl] at h
      unfold mX7_leadsOn_b2 at h
      rcases mIf_some h with ⟨_, h⟩ | ⟨_, h⟩
      · obtain ⟨_, rfl⟩ := mRW h
        exact mAv.rf
      · rcases mIf_some h with ⟨_, h⟩ | ⟨_, h⟩
        · obtain ⟨_, rfl⟩ := mRW h
          exact mAv.rf
        · obtain ⟨v28, V29, h2, h⟩ := mBW_some h
          have a2 : mAv (wX7_leadsOn_2) V V29 := mAv.tr mAv.rf (NX7_goBack h2) (fun i z => by unfold wX7_goBack at z; unfold wX7_leadsOn_2; omega)
          obtain ⟨x33, _, h⟩ := mLt_some h
          exact mAv.tr a2 (ih.2.2 _ _ _ _ h) (fun i z => by unfold wX7_leadsOn_2 at z; unfold wX7_leadsOn_2; omega)
set_option maxHeartbeats 4000000 in
theorem NX7_leadsOn {F : Nat} {V V1 : mV} {v : Int32} {l1I : Int32} {l2I : Int32} {l3I : Int32} (h : mX7_leadsOn F l1I l2I l3I V = some (v, V1)) : mAv (wX7_leadsOn) V V1 := by
  have ih := NX7_leadsOn_go (F := F) (v := v) (V1 := V1) F
  unfold mX7_leadsOn mX7_leadsOn_s at h
  obtain ⟨V34, eV34, h⟩ := mLt_some h
  have a3 : mAv (wX7_leadsOn) V V34 := by rw [eV34]; exact mAv.F mAv.rf (by unfold wX7_leadsOn; omega)
  exact mAv.tr a3 (ih.1 _ _ _ _ _ _ h) (fun i z => by unfold wX7_leadsOn_0 at z; unfold wX7_leadsOn; omega)
def wX7_lowerAll (i : Nat) : Prop := i = 2 ∨ (24 ≤ i ∧ i ≤ 25)
def wX7_lowerAll_0 (i : Nat) : Prop := i = 2 ∨ (24 ≤ i ∧ i ≤ 25)
def wX7_lowerAll_1 (i : Nat) : Prop := i = 2 ∨ (24 ≤ i ∧ i ≤ 25)
set_option maxHeartbeats 4000000 in
theorem NX7_lowerAll_go {F : Nat} {v : Unit} {V1 : mV} : ∀ k' : Nat, (∀ (l1I : Int32) (V : mV), mX7_lowerAll_go F k' 0 l1I 0 0 V = some (v, V1) → mAv (wX7_lowerAll_0) V V1) ∧ (∀ (l1I : Int32) (l2I : Int32) (l3I : Int32) (V : mV), mX7_lowerAll_go F k' 1 l1I l2I l3I V = some (v, V1) → mAv (wX7_lowerAll_1) V V1) := by
  intro k'
  induction k' with
  | zero => exact ⟨(fun _ _ h => by cases h), (fun _ _ _ _ h => by cases h)⟩
  | succ k' ih =>
    refine ⟨?_, ?_⟩
    · intro l1I V h
      rw [mX7_lowerAll_go, if_pos rfl] at h
      unfold mX7_lowerAll_b0 at h
      rcases mIf_some h with ⟨_, h⟩ | ⟨_, h⟩
      · obtain ⟨_, rfl⟩ := mRW h
        exact mAv.rf
      · obtain ⟨c1, h⟩ := mGd_some h
        obtain ⟨x3, _, h⟩ := mLt_some h
        exact mAv.tr mAv.rf (ih.2 _ _ _ _ h) (fun i z => by unfold wX7_lowerAll_1 at z; unfold wX7_lowerAll_0; omega)
    · intro l1I l2I l3I V h
      rw [mX7_lowerAll_go, if_neg (by decide), if_pos rfl] at h
      unfold mX7_lowerAll_b1 at h
      rcases mIf_some h with ⟨_, h⟩ | ⟨_, h⟩
      · obtain ⟨x5, _, h⟩ := mLt_some h
        exact mAv.tr mAv.rf (ih.1 _ _ h) (fun i z => by unfold wX7_lowerAll_0 at z; unfold wX7_lowerAll_1; omega)
      · obtain ⟨c2, h⟩ := mGd_some h
        obtain ⟨c3, h⟩ := mGd_some h
        obtain ⟨v8, V9, h4, h⟩ := mBW_some h
        have a4 : mAv (wX7_lowerAll_1) V V9 := mAv.tr mAv.rf (NX7_leadsOn h4) (fun i z => by unfold wX7_leadsOn at z; unfold wX7_lowerAll_1; omega)
        rcases mIf_some h with ⟨_, h⟩ | ⟨_, h⟩
        · obtain ⟨x14, _, h⟩ := mLt_some h
          exact mAv.tr a4 (ih.1 _ _ h) (fun i z => by unfold wX7_lowerAll_0 at z; unfold wX7_lowerAll_1; omega)
        · obtain ⟨c5, h⟩ := mGd_some h
          obtain ⟨c6, h⟩ := mGd_some h
          obtain ⟨V17, eV17, h⟩ := mLt_some h
          have a7 : mAv (wX7_lowerAll_1) V V17 := by rw [eV17]; exact mAv.I a4 (by unfold wX7_lowerAll_1; omega)
          obtain ⟨x18, _, h⟩ := mLt_some h
          exact mAv.tr a7 (ih.2 _ _ _ _ h) (fun i z => by unfold wX7_lowerAll_1 at z; unfold wX7_lowerAll_1; omega)
set_option maxHeartbeats 4000000 in
theorem NX7_lowerAll {F : Nat} {V V1 : mV} {v : Unit} (h : mX7_lowerAll F V = some (v, V1)) : mAv (wX7_lowerAll) V V1 := by
  have ih := NX7_lowerAll_go (F := F) (v := v) (V1 := V1) F
  unfold mX7_lowerAll mX7_lowerAll_s at h
  exact mAv.tr mAv.rf (ih.1 _ _ h) (fun i z => by unfold wX7_lowerAll_0 at z; unfold wX7_lowerAll; omega)
def wX8_fulfilItem (l1A : Nat) (i : Nat) : Prop := i = 6 ∨ i = 54 ∨ (56 ≤ i ∧ i ≤ 60)
def wX8_fulfilItem_0 (l1A : Nat) (i : Nat) : Prop := i = 6 ∨ i = 54 ∨ (56 ≤ i ∧ i ≤ 60)
def wX8_fulfilItem_1 (l1A : Nat) (i : Nat) : Prop := i = 6 ∨ i = 54 ∨ (56 ≤ i ∧ i ≤ 60)
def wX8_fulfilItem_2 (l1A : Nat) (i : Nat) : Prop := i = 6 ∨ i = 54 ∨ (56 ≤ i ∧ i ≤ 60)
set_option maxHeartbeats 4000000 in
theorem NX8_fulfilItem_go {F : Nat} {v : Int32} {V1 : mV} : ∀ k' : Nat, (∀ (l1A : Nat) (l2I : Int32) (l3J : Int64) (l5I : Int32) (V : mV), mX8_fulfilItem_go F k' 0 l1A l2I l3J l5I 0 V = some (v, V1) → mAv (wX8_fulfilItem_0 l1A) V V1) ∧ (∀ (l1A : Nat) (l2I : Int32) (l3J : Int64) (l5I : Int32) (V : mV), mX8_fulfilItem_go F k' 1 l1A l2I l3J l5I 0 V = some (v, V1) → mAv (wX8_fulfilItem_1 l1A) V V1) ∧ (∀ (l1A : Nat) (l2I : Int32) (l3J : Int64) (l5I : Int32) (l6I : Int32) (V : mV), mX8_fulfilItem_go F k' 2 l1A l2I l3J l5I l6I V = some (v, V1) → mAv (wX8_fulfilItem_2 l1A) V V1) := by
  intro k'
  induction k' with
  | zero => exact ⟨(fun _ _ _ _ _ h => by cases h), (fun _ _ _ _ _ h => by cases h), (fun _ _ _ _ _ _ h => by cases h)⟩
  | succ k' ih =>
    refine ⟨?_, ?_, ?_⟩
    · intro l1A l2I l3J l5I V h
      rw [mX8_fulfilItem_go, if_pos rfl] at h
      unfold mX8_fulfilItem_b0 at h
      rcases mIf_some h with ⟨_, h⟩ | ⟨_, h⟩
      · exact mAv.tr mAv.rf (ih.2.1 _ _ _ _ _ h) (fun i z => by unfold wX8_fulfilItem_1 at z; unfold wX8_fulfilItem_0; omega)
      · obtain ⟨v2, _, h⟩ := mBN_some h
        obtain ⟨c1, h⟩ := mGd_some h
        obtain ⟨x8, _, h⟩ := mLt_some h
        obtain ⟨x9, _, h⟩ := mLt_some h
        exact mAv.tr mAv.rf (ih.1 _ _ _ _ _ h) (fun i z => by unfold wX8_fulfilItem_0 at z; unfold wX8_fulfilItem_0; omega)
    · intro l1A l2I l3J l5I V h
      rw [mX8_fulfilItem_go, if_neg (by decide), if_pos rfl] at h
      unfold mX8_fulfilItem_b1 at h
      rcases mIf_some h with ⟨_, h⟩ | ⟨_, h⟩
      · obtain ⟨v11, V12, h2, h⟩ := mBW_some h
        have a2 : mAv (wX8_fulfilItem_1 l1A) V V12 := mAv.tr mAv.rf (NX8_gather h2) (fun i z => by unfold wX8_gather at z; unfold wX8_fulfilItem_1; omega)
        rcases mIf_some h with ⟨_, h⟩ | ⟨_, h⟩
        · rcases mIf_some h with ⟨_, h⟩ | ⟨_, h⟩
          · obtain ⟨_, rfl⟩ := mRW h
            exact a2
          · obtain ⟨_, rfl⟩ := mRW h
            exact a2
        · obtain ⟨c3, h⟩ := mGd_some h
          rcases mIf_some h with ⟨_, h⟩ | ⟨_, h⟩
          · rcases mIf_some h with ⟨_, h⟩ | ⟨_, h⟩
            · obtain ⟨_, rfl⟩ := mRW h
              exact a2
            · obtain ⟨_, rfl⟩ := mRW h
              exact a2
          · obtain ⟨c4, h⟩ := mGd_some h
            obtain ⟨c5, h⟩ := mGd_some h
            rcases mIf_some h with ⟨_, h⟩ | ⟨_, h⟩
            · obtain ⟨c6, h⟩ := mGd_some h
              obtain ⟨c7, h⟩ := mGd_some h
              obtain ⟨v25, V26, h8, h⟩ := mBW_some h
              have a8 : mAv (wX8_fulfilItem_1 l1A) V V26 := mAv.tr a2 (NX8_movePoint h8) (fun i z => by unfold wX8_movePoint at z; unfold wX8_fulfilItem_1; omega)
              obtain ⟨v30, V31, h9, h⟩ := mBW_some h
              have a9 : mAv (wX8_fulfilItem_1 l1A) V V31 := mAv.tr a8 (NX8_removeBasis h9) (fun i z => by unfold wX8_removeBasis at z; unfold wX8_fulfilItem_1; omega)
              obtain ⟨_, rfl⟩ := mRW h
              exact a9
            · obtain ⟨_, rfl⟩ := mRW h
              exact a2
      · obtain ⟨c10, h⟩ := mGd_some h
        obtain ⟨V37, eV37, h⟩ := mLt_some h
        have a11 : mAv (wX8_fulfilItem_1 l1A) V V37 := by rw [eV37]; exact mAv.J mAv.rf (by unfold wX8_fulfilItem_1; omega)
        exact mAv.tr a11 (ih.2.2 _ _ _ _ _ _ h) (fun i z => by unfold wX8_fulfilItem_2 at z; unfold wX8_fulfilItem_1; omega)
    · intro l1A l2I l3J l5I l6I V h
      rw [mX8_fulfilItem_go, if_neg (by decide), if_neg (by decide), if_pos rfl] at h
      unfold mX8_fulfilItem_b2 at h
      rcases mIf_some h with ⟨_, h⟩ | ⟨_, h⟩
      · obtain ⟨x39, _, h⟩ := mLt_some h
        exact mAv.tr mAv.rf (ih.2.1 _ _ _ _ _ h) (fun i z => by unfold wX8_fulfilItem_1 at z; unfold wX8_fulfilItem_2; omega)
      · obtain ⟨c12, h⟩ := mGd_some h
        obtain ⟨v41, _, h⟩ := mBN_some h
        obtain ⟨c13, h⟩ := mGd_some h
        obtain ⟨c14, h⟩ := mGd_some h
        obtain ⟨c15, h⟩ := mGd_some h
        obtain ⟨V50, eV50, h⟩ := mLt_some h
        have a16 : mAv (wX8_fulfilItem_2 l1A) V V50 := by rw [eV50]; exact mAv.J mAv.rf (by unfold wX8_fulfilItem_2; omega)
        obtain ⟨x51, _, h⟩ := mLt_some h
        exact mAv.tr a16 (ih.2.2 _ _ _ _ _ _ h) (fun i z => by unfold wX8_fulfilItem_2 at z; unfold wX8_fulfilItem_2; omega)
set_option maxHeartbeats 4000000 in
theorem NX8_fulfilItem {F : Nat} {V V1 : mV} {v : Int32} {l1A : Nat} {l2I : Int32} (h : mX8_fulfilItem F l1A l2I V = some (v, V1)) : mAv (wX8_fulfilItem l1A) V V1 := by
  have ih := NX8_fulfilItem_go (F := F) (v := v) (V1 := V1) F
  unfold mX8_fulfilItem mX8_fulfilItem_s at h
  obtain ⟨v52, _, h⟩ := mBN_some h
  obtain ⟨x57, _, h⟩ := mLt_some h
  exact mAv.tr mAv.rf (ih.1 _ _ _ _ _ h) (fun i z => by unfold wX8_fulfilItem_0 at z; unfold wX8_fulfilItem; omega)
def wX8_writeModulus (l0A : Nat) (i : Nat) : Prop := i = l0A + 2 ∨ i = l0A + 3
def wX8_writeModulus_0 (l0A : Nat) (i : Nat) : Prop := i = l0A + 2 ∨ i = l0A + 3
def wX8_writeModulus_1 (l0A : Nat) (i : Nat) : Prop := i = l0A + 2 ∨ i = l0A + 3
def wX8_writeModulus_2 (l0A : Nat) (i : Nat) : Prop := i = l0A + 2 ∨ i = l0A + 3
def wX8_writeModulus_3 (l0A : Nat) (i : Nat) : Prop := i = l0A + 2 ∨ i = l0A + 3
set_option maxHeartbeats 4000000 in
theorem NX8_writeModulus_go {F : Nat} {v : Unit} {Ln1 : Nat → Nat} {V1 : mV} : ∀ k' : Nat, (∀ (l0A : Nat) (l1I : Int32) (l2I : Int32) (Ln : Nat → Nat) (V : mV), mX8_writeModulus_go F k' 0 Ln l0A l1I l2I 0 0 0 0 V = some (v, Ln1, V1) → mAv (wX8_writeModulus_0 l0A) V V1 ∧ mAl (wX8_writeModulus_0 l0A) Ln Ln1) ∧ (∀ (l0A : Nat) (l1I : Int32) (l2I : Int32) (l3I : Int32) (Ln : Nat → Nat) (V : mV), mX8_writeModulus_go F k' 1 Ln l0A l1I l2I l3I 0 0 0 V = some (v, Ln1, V1) → mAv (wX8_writeModulus_1 l0A) V V1 ∧ mAl (wX8_writeModulus_1 l0A) Ln Ln1) ∧ (∀ (l0A : Nat) (l1I : Int32) (l2I : Int32) (l3I : Int32) (l4I : Int32) (Ln : Nat → Nat) (V : mV), mX8_writeModulus_go F k' 2 Ln l0A l1I l2I l3I l4I 0 0 V = some (v, Ln1, V1) → mAv (wX8_writeModulus_2 l0A) V V1 ∧ mAl (wX8_writeModulus_2 l0A) Ln Ln1) ∧ (∀ (l0A : Nat) (l1I : Int32) (l2I : Int32) (l3I : Int32) (l4I : Int32) (s0I : Int32) (s1I : Int32) (Ln : Nat → Nat) (V : mV), mX8_writeModulus_go F k' 3 Ln l0A l1I l2I l3I l4I s0I s1I V = some (v, Ln1, V1) → mAv (wX8_writeModulus_3 l0A) V V1 ∧ mAl (wX8_writeModulus_3 l0A) Ln Ln1) := by
  intro k'
  induction k' with
  | zero => exact ⟨(fun _ _ _ _ _ h => by cases h), (fun _ _ _ _ _ _ h => by cases h), (fun _ _ _ _ _ _ _ h => by cases h), (fun _ _ _ _ _ _ _ _ _ h => by cases h)⟩
  | succ k' ih =>
    refine ⟨?_, ?_, ?_, ?_⟩
    · intro l0A l1I l2I Ln V h
      rw [mX8_writeModulus_go, if_pos rfl] at h
      unfold mX8_writeModulus_b0 at h
      rcases mIf_some h with ⟨_, h⟩ | ⟨_, h⟩
      · obtain ⟨_, rfl, rfl⟩ := mRA3 h
        exact ⟨mAv.rf, mAl.rf⟩
      · have y := ih.2.1 _ _ _ _ _ _ h
        exact ⟨mAv.tr mAv.rf y.1 (fun i z => by unfold wX8_writeModulus_1 at z; unfold wX8_writeModulus_0; omega), mAl.tr mAl.rf y.2 (fun i z => by unfold wX8_writeModulus_1 at z; unfold wX8_writeModulus_0; omega)⟩
    · intro l0A l1I l2I l3I Ln V h
      rw [mX8_writeModulus_go, if_neg (by decide), if_pos rfl] at h
      unfold mX8_writeModulus_b1 at h
      rcases mIf_some h with ⟨_, h⟩ | ⟨_, h⟩
      · obtain ⟨x3, _, h⟩ := mLt_some h
        have y := ih.1 _ _ _ _ _ h
        exact ⟨mAv.tr mAv.rf y.1 (fun i z => by unfold wX8_writeModulus_0 at z; unfold wX8_writeModulus_1; omega), mAl.tr mAl.rf y.2 (fun i z => by unfold wX8_writeModulus_0 at z; unfold wX8_writeModulus_1; omega)⟩
      · have y := ih.2.2.1 _ _ _ _ _ _ _ h
        exact ⟨mAv.tr mAv.rf y.1 (fun i z => by unfold wX8_writeModulus_2 at z; unfold wX8_writeModulus_1; omega), mAl.tr mAl.rf y.2 (fun i z => by unfold wX8_writeModulus_2 at z; unfold wX8_writeModulus_1; omega)⟩
    · intro l0A l1I l2I l3I l4I Ln V h
      rw [mX8_writeModulus_go, if_neg (by decide), if_neg (by decide), if_pos rfl] at h
      unfold mX8_writeModulus_b2 at h
      rcases mIf_some h with ⟨_, h⟩ | ⟨_, h⟩
      · have y := ih.2.2.2 _ _ _ _ _ _ _ _ _ h
        exact ⟨mAv.tr mAv.rf y.1 (fun i z => by unfold wX8_writeModulus_3 at z; unfold wX8_writeModulus_2; omega), mAl.tr mAl.rf y.2 (fun i z => by unfold wX8_writeModulus_3 at z; unfold wX8_writeModulus_2; omega)⟩
      · have y := ih.2.2.2 _ _ _ _ _ _ _ _ _ h
        exact ⟨mAv.tr mAv.rf y.1 (fun i z => by unfold wX8_writeModulus_3 at z; unfold wX8_writeModulus_2; omega), mAl.tr mAl.rf y.2 (fun i z => by unfold wX8_writeModulus_3 at z; unfold wX8_writeModulus_2; omega)⟩
    · intro l0A l1I l2I l3I l4I s0I s1I Ln V h
      rw [mX8_writeModulus_go, if_neg (by decide), if_neg (by decide), if_neg (by decide), if_pos rfl] at h
      unfold mX8_writeModulus_b3 at h
      rcases mIf_some h with ⟨_, h⟩ | ⟨_, h⟩
      · obtain ⟨x6, _, h⟩ := mLt_some h
        have y := ih.2.1 _ _ _ _ _ _ h
        exact ⟨mAv.tr mAv.rf y.1 (fun i z => by unfold wX8_writeModulus_1 at z; unfold wX8_writeModulus_3; omega), mAl.tr mAl.rf y.2 (fun i z => by unfold wX8_writeModulus_1 at z; unfold wX8_writeModulus_3; omega)⟩
      · obtain ⟨v7, _, h⟩ := mBN_some h
        rcases mIf_some h with ⟨_, h⟩ | ⟨_, h⟩
        · obtain ⟨x13, _, h⟩ := mLt_some h
          have y := ih.2.2.1 _ _ _ _ _ _ _ h
          exact ⟨mAv.tr mAv.rf y.1 (fun i z => by unfold wX8_writeModulus_2 at z; unfold wX8_writeModulus_3; omega), mAl.tr mAl.rf y.2 (fun i z => by unfold wX8_writeModulus_2 at z; unfold wX8_writeModulus_3; omega)⟩
        · obtain ⟨v14, _, h⟩ := mBN_some h
          rcases mIf_some h with ⟨_, h⟩ | ⟨_, h⟩
          · obtain ⟨x20, _, h⟩ := mLt_some h
            have y := ih.2.2.1 _ _ _ _ _ _ _ h
            exact ⟨mAv.tr mAv.rf y.1 (fun i z => by unfold wX8_writeModulus_2 at z; unfold wX8_writeModulus_3; omega), mAl.tr mAl.rf y.2 (fun i z => by unfold wX8_writeModulus_2 at z; unfold wX8_writeModulus_3; omega)⟩
          · obtain ⟨v21, L22, V22, h1, h⟩ := mBA_some h
            have y1 := NX9_add h1
            have a1 : mAv (wX8_writeModulus_3 l0A) V V22 := mAv.tr mAv.rf y1.1 (fun i z => by unfold wX9_add at z; unfold wX8_writeModulus_3; omega)
            have b1 : mAl (wX8_writeModulus_3 l0A) Ln L22 := mAl.tr mAl.rf y1.2 (fun i z => by unfold wX9_add at z; unfold wX8_writeModulus_3; omega)
            obtain ⟨v26, L27, V27, h2, h⟩ := mBA_some h
            have y2 := NX9_add h2
            have a2 : mAv (wX8_writeModulus_3 l0A) V V27 := mAv.tr a1 y2.1 (fun i z => by unfold wX9_add at z; unfold wX8_writeModulus_3; omega)
            have b2 : mAl (wX8_writeModulus_3 l0A) Ln L27 := mAl.tr b1 y2.2 (fun i z => by unfold wX9_add at z; unfold wX8_writeModulus_3; omega)
            obtain ⟨v31, L32, V32, h3, h⟩ := mBA_some h
            have y3 := NX9_addBelow h3
            have a3 : mAv (wX8_writeModulus_3 l0A) V V32 := mAv.tr a2 y3.1 (fun i z => by unfold wX9_addBelow at z; unfold wX8_writeModulus_3; omega)
            have b3 : mAl (wX8_writeModulus_3 l0A) Ln L32 := mAl.tr b2 y3.2 (fun i z => by unfold wX9_addBelow at z; unfold wX8_writeModulus_3; omega)
            obtain ⟨_, rfl, rfl⟩ := mRA3 h
            exact ⟨a3, b3⟩
set_option maxHeartbeats 4000000 in
theorem NX8_writeModulus {F : Nat} {Ln Ln1 : Nat → Nat} {V V1 : mV} {v : Unit} {l0A : Nat} (h : mX8_writeModulus F Ln l0A V = some (v, Ln1, V1)) : mAv (wX8_writeModulus l0A) V V1 ∧ mAl (wX8_writeModulus l0A) Ln Ln1 := by
  have ih := NX8_writeModulus_go (F := F) (v := v) (Ln1 := Ln1) (V1 := V1) F
  unfold mX8_writeModulus mX8_writeModulus_s at h
  rcases mIf_some h with ⟨_, h⟩ | ⟨_, h⟩
  · have y := ih.1 _ _ _ _ _ h
    exact ⟨mAv.tr mAv.rf y.1 (fun i z => by unfold wX8_writeModulus_0 at z; unfold wX8_writeModulus; omega), mAl.tr mAl.rf y.2 (fun i z => by unfold wX8_writeModulus_0 at z; unfold wX8_writeModulus; omega)⟩
  · have y := ih.1 _ _ _ _ _ h
    exact ⟨mAv.tr mAv.rf y.1 (fun i z => by unfold wX8_writeModulus_0 at z; unfold wX8_writeModulus; omega), mAl.tr mAl.rf y.2 (fun i z => by unfold wX8_writeModulus_0 at z; unfold wX8_writeModulus; omega)⟩
def wX8_addRest (i : Nat) : Prop := (62 ≤ i ∧ i ≤ 69)
def wX8_addRest_0 (i : Nat) : Prop := (62 ≤ i ∧ i ≤ 67)
set_option maxHeartbeats 4000000 in
theorem NX8_addRest_go {F : Nat} {v : Int32} {V1 : mV} : ∀ k' : Nat, (∀ (l3I : Int32) (l4I : Int32) (V : mV), mX8_addRest_go F k' 0 l3I l4I V = some (v, V1) → mAv (wX8_addRest_0) V V1) := by
  intro k'
  induction k' with
  | zero => exact (fun _ _ _ h => by cases h)
  | succ k' ih =>
    intro l3I l4I V h
    rw [mX8_addRest_go, if_pos rfl] at h
    unfold mX8_addRest_b0 at h
    rcases mIf_some h with ⟨_, h⟩ | ⟨_, h⟩
    · obtain ⟨c1, h⟩ := mGd_some h
      obtain ⟨V3, eV3, h⟩ := mLt_some h
      have a2 : mAv (wX8_addRest_0) V V3 := by rw [eV3]; exact mAv.I mAv.rf (by unfold wX8_addRest_0; omega)
      obtain ⟨_, rfl⟩ := mRW h
      exact a2
    · obtain ⟨c3, h⟩ := mGd_some h
      obtain ⟨c4, h⟩ := mGd_some h
      obtain ⟨c5, h⟩ := mGd_some h
      obtain ⟨V8, eV8, h⟩ := mLt_some h
      have z6 := (Nat.lt_of_not_le (fun z => c3 (Or.inr z)))
      have a6 : mAv (wX8_addRest_0) V V8 := by rw [eV8]; exact mAv.J mAv.rf (by unfold wX8_addRest_0; omega)
      obtain ⟨x9, _, h⟩ := mLt_some h
      exact mAv.tr a6 (ih _ _ _ h) (fun i z => by unfold wX8_addRest_0 at z; unfold wX8_addRest_0; omega)
set_option maxHeartbeats 4000000 in
theorem NX8_addRest {F : Nat} {V V1 : mV} {v : Int32} (h : mX8_addRest F V = some (v, V1)) : mAv (wX8_addRest) V V1 := by
  have ih := NX8_addRest_go (F := F) (v := v) (V1 := V1) F
  unfold mX8_addRest mX8_addRest_s at h
  obtain ⟨c7, h⟩ := mGd_some h
  obtain ⟨c8, h⟩ := mGd_some h
  obtain ⟨x13, _, h⟩ := mLt_some h
  obtain ⟨c9, h⟩ := mGd_some h
  obtain ⟨c10, h⟩ := mGd_some h
  obtain ⟨v17, V18, h11, h⟩ := mBW_some h
  have z11_0 := (Nat.lt_of_not_le (fun z => c10 (Or.inr z)))
  have z11_1 := (Nat.lt_of_not_le (fun z => c8 (Or.inr z)))
  have a11 : mAv (wX8_addRest) V V18 := mAv.tr mAv.rf (NX8_divide h11) (fun i z => by unfold wX8_divide at z; unfold wX8_addRest; omega)
  obtain ⟨v22, _, h⟩ := mBN_some h
  rcases mIf_some h with ⟨_, h⟩ | ⟨_, h⟩
  · exact mAv.tr a11 (ih _ _ _ h) (fun i z => by unfold wX8_addRest_0 at z; unfold wX8_addRest; omega)
  · obtain ⟨_, rfl⟩ := mRW h
    exact a11
def wX8_divideFirst (i : Nat) : Prop := (62 ≤ i ∧ i ≤ 69)
def wX8_divideFirst_0 (i : Nat) : Prop := (62 ≤ i ∧ i ≤ 66)
set_option maxHeartbeats 4000000 in
theorem NX8_divideFirst_go {F : Nat} {v : Unit} {V1 : mV} : ∀ k' : Nat, (∀ (l2J : Int64) (l4I : Int32) (V : mV), mX8_divideFirst_go F k' 0 l2J l4I V = some (v, V1) → mAv (wX8_divideFirst_0) V V1) := by
  intro k'
  induction k' with
  | zero => exact (fun _ _ _ h => by cases h)
  | succ k' ih =>
    intro l2J l4I V h
    rw [mX8_divideFirst_go, if_pos rfl] at h
    unfold mX8_divideFirst_b0 at h
    rcases mIf_some h with ⟨_, h⟩ | ⟨_, h⟩
    · obtain ⟨c1, h⟩ := mGd_some h
      obtain ⟨v4, V5, h2, h⟩ := mBW_some h
      have z2_0 := (Nat.lt_of_not_le (fun z => c1 (Or.inr z)))
      have a2 : mAv (wX8_divideFirst_0) V V5 := mAv.tr mAv.rf (NX8_makeFree h2) (fun i z => by unfold wX8_makeFree at z; unfold wX8_divideFirst_0; omega)
      obtain ⟨_, rfl⟩ := mRW h
      exact a2
    · obtain ⟨c3, h⟩ := mGd_some h
      obtain ⟨c4, h⟩ := mGd_some h
      obtain ⟨c5, h⟩ := mGd_some h
      obtain ⟨V13, eV13, h⟩ := mLt_some h
      have z6 := (Nat.lt_of_not_le (fun z => c3 (Or.inr z)))
      have a6 : mAv (wX8_divideFirst_0) V V13 := by rw [eV13]; exact mAv.J mAv.rf (by unfold wX8_divideFirst_0; omega)
      obtain ⟨x14, _, h⟩ := mLt_some h
      exact mAv.tr a6 (ih _ _ _ h) (fun i z => by unfold wX8_divideFirst_0 at z; unfold wX8_divideFirst_0; omega)
set_option maxHeartbeats 4000000 in
theorem NX8_divideFirst {F : Nat} {V V1 : mV} {v : Unit} {l1I : Int32} (h : mX8_divideFirst F l1I V = some (v, V1)) : mAv (wX8_divideFirst) V V1 := by
  have ih := NX8_divideFirst_go (F := F) (v := v) (V1 := V1) F
  unfold mX8_divideFirst mX8_divideFirst_s at h
  obtain ⟨c7, h⟩ := mGd_some h
  obtain ⟨c8, h⟩ := mGd_some h
  obtain ⟨c9, h⟩ := mGd_some h
  obtain ⟨c10, h⟩ := mGd_some h
  obtain ⟨v21, V22, h11, h⟩ := mBW_some h
  have z11_0 := (Nat.lt_of_not_le (fun z => c9 (Or.inr z)))
  have z11_1 := (Nat.lt_of_not_le (fun z => c10 (Or.inr z)))
  have a11 : mAv (wX8_divideFirst) V V22 := mAv.tr mAv.rf (NX8_divide h11) (fun i z => by unfold wX8_divide at z; unfold wX8_divideFirst; omega)
  obtain ⟨v26, _, h⟩ := mBN_some h
  obtain ⟨c12, h⟩ := mGd_some h
  obtain ⟨V32, eV32, h⟩ := mLt_some h
  have a13 : mAv (wX8_divideFirst) V V32 := by rw [eV32]; exact mAv.I a11 (by unfold wX8_divideFirst; omega)
  obtain ⟨c14, h⟩ := mGd_some h
  obtain ⟨c15, h⟩ := mGd_some h
  rcases mIf_some h with ⟨_, h⟩ | ⟨_, h⟩
  · exact mAv.tr a13 (ih _ _ _ h) (fun i z => by unfold wX8_divideFirst_0 at z; unfold wX8_divideFirst; omega)
  · exact mAv.tr a13 (ih _ _ _ h) (fun i z => by unfold wX8_divideFirst_0 at z; unfold wX8_divideFirst; omega)
def wX10_writePoints (l2A : Nat) (i : Nat) : Prop := i = l2A
def wX10_writePoints_0 (l2A : Nat) (i : Nat) : Prop := i = l2A
def wX10_writePoints_1 (l2A : Nat) (i : Nat) : Prop := i = l2A
set_option maxHeartbeats 4000000 in
theorem NX10_writePoints_go {F : Nat} {v : Unit} {V1 : mV} : ∀ k' : Nat, (∀ (l2A : Nat) (l3I : Int32) (l4I : Int32) (V : mV), mX10_writePoints_go F k' 0 l2A l3I l4I 0 V = some (v, V1) → mAv (wX10_writePoints_0 l2A) V V1) ∧ (∀ (l2A : Nat) (l4I : Int32) (l5I : Int32) (V : mV), mX10_writePoints_go F k' 1 l2A 0 l4I l5I V = some (v, V1) → mAv (wX10_writePoints_1 l2A) V V1) := by
  intro k'
  induction k' with
  | zero => exact ⟨(fun _ _ _ _ h => by cases h), (fun _ _ _ _ h => by cases h)⟩
  | succ k' ih =>
    refine ⟨?_, ?_⟩
    · intro l2A l3I l4I V h
      rw [mX10_writePoints_go, if_pos rfl] at h
      unfold mX10_writePoints_b0 at h
      rcases mIf_some h with ⟨_, h⟩ | ⟨_, h⟩
      · exact mAv.tr mAv.rf (ih.2 _ _ _ _ h) (fun i z => by unfold wX10_writePoints_1 at z; unfold wX10_writePoints_0; omega)
      · obtain ⟨c1, h⟩ := mGd_some h
        obtain ⟨c2, h⟩ := mGd_some h
        obtain ⟨V4, eV4, h⟩ := mLt_some h
        have a3 : mAv (wX10_writePoints_0 l2A) V V4 := by rw [eV4]; exact mAv.I mAv.rf (by unfold wX10_writePoints_0; omega)
        obtain ⟨c4, h⟩ := mGd_some h
        obtain ⟨x6, _, h⟩ := mLt_some h
        obtain ⟨x7, _, h⟩ := mLt_some h
        exact mAv.tr a3 (ih.1 _ _ _ _ h) (fun i z => by unfold wX10_writePoints_0 at z; unfold wX10_writePoints_0; omega)
    · intro l2A l4I l5I V h
      rw [mX10_writePoints_go, if_neg (by decide), if_pos rfl] at h
      unfold mX10_writePoints_b1 at h
      rcases mIf_some h with ⟨_, h⟩ | ⟨_, h⟩
      · obtain ⟨_, rfl⟩ := mRW h
        exact mAv.rf
      · obtain ⟨c5, h⟩ := mGd_some h
        obtain ⟨v10, _, h⟩ := mBN_some h
        obtain ⟨c6, h⟩ := mGd_some h
        obtain ⟨V16, eV16, h⟩ := mLt_some h
        have a7 : mAv (wX10_writePoints_1 l2A) V V16 := by rw [eV16]; exact mAv.I mAv.rf (by unfold wX10_writePoints_1; omega)
        obtain ⟨c8, h⟩ := mGd_some h
        obtain ⟨x18, _, h⟩ := mLt_some h
        obtain ⟨x19, _, h⟩ := mLt_some h
        exact mAv.tr a7 (ih.2 _ _ _ _ h) (fun i z => by unfold wX10_writePoints_1 at z; unfold wX10_writePoints_1; omega)
set_option maxHeartbeats 4000000 in
theorem NX10_writePoints {F : Nat} {V V1 : mV} {v : Unit} {l1I : Int32} {l2A : Nat} (h : mX10_writePoints F l1I l2A V = some (v, V1)) : mAv (wX10_writePoints l2A) V V1 := by
  have ih := NX10_writePoints_go (F := F) (v := v) (V1 := V1) F
  unfold mX10_writePoints mX10_writePoints_s at h
  obtain ⟨x20, _, h⟩ := mLt_some h
  exact mAv.tr mAv.rf (ih.1 _ _ _ _ h) (fun i z => by unfold wX10_writePoints_0 at z; unfold wX10_writePoints; omega)
end
