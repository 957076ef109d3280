/-! WHAT EACH METHOD LEAVES ALONE: X5_improves, X6_findLetters, X6_judgeLetters, X7_countPairs, X7_judgePairing, X7_judgeNodes, X7_reachBy, X7_judgeFlow, X7_judgeBar, X8_gather, X8_takeLeastAmount, X8_divide, X8_makeFree. -/
section
def wX5_improves (i : Nat) : Prop := i = 4 ∨ (36 ≤ i ∧ i ≤ 51)
def wX5_improves_0 (i : Nat) : Prop := i = 4 ∨ (36 ≤ i ∧ i ≤ 51)
def wX5_improves_1 (i : Nat) : Prop := i = 4 ∨ (36 ≤ i ∧ i ≤ 51)
set_option maxHeartbeats 4000000 in
theorem NX5_improves_go {F : Nat} {v : Int32} {V1 : mV} : ∀ k' : Nat, (∀ (l1I : Int32) (l2I : Int32) (l3I : Int32) (V : mV), mX5_improves_go F k' 0 l1I l2I l3I 0 V = some (v, V1) → mAv (wX5_improves_0) V V1) ∧ (∀ (l1I : Int32) (l2I : Int32) (l3I : Int32) (s0I : Int32) (V : mV), mX5_improves_go F k' 1 l1I l2I l3I s0I V = some (v, V1) → mAv (wX5_improves_1) V V1) := by
  intro k'
  induction k' with
  | zero => exact ⟨(fun _ _ _ _ h => by cases h), (fun _ _ _ _ _ h => by cases h)⟩
  | succ k' ih =>
    refine ⟨?_, ?_⟩
    · intro l1I l2I l3I V h
      rw [mX5_improves_go, if_pos rfl] at h
      unfold mX5_improves_b0 at h
      rcases mIf_some h with ⟨_, h⟩ | ⟨_, h⟩
      · rcases mIf_some h with ⟨_, h⟩ | ⟨_, h⟩
        · obtain ⟨v3, _, h⟩ := mBN_some h
          rcases mIf_some h with ⟨_, h⟩ | ⟨_, h⟩
          · obtain ⟨v9, V10, h1, h⟩ := mBW_some h
            have a1 : mAv (wX5_improves_0) V V10 := mAv.tr mAv.rf (NX5_exchange h1) (fun i z => by unfold wX5_exchange at z; unfold wX5_improves_0; omega)
            obtain ⟨_, rfl⟩ := mRW h
            exact a1
          · obtain ⟨_, rfl⟩ := mRW h
            exact mAv.rf
        · obtain ⟨_, rfl⟩ := mRW h
          exact mAv.rf
      · rcases mIf_some h with ⟨_, h⟩ | ⟨_, h⟩
        · exact mAv.tr mAv.rf (ih.2 _ _ _ _ _ h) (fun i z => by unfold wX5_improves_1 at z; unfold wX5_improves_0; omega)
        · obtain ⟨c2, h⟩ := mGd_some h
          obtain ⟨c3, h⟩ := mGd_some h
          rcases mIf_some h with ⟨_, h⟩ | ⟨_, h⟩
          · exact mAv.tr mAv.rf (ih.2 _ _ _ _ _ h) (fun i z => by unfold wX5_improves_1 at z; unfold wX5_improves_0; omega)
          · exact mAv.tr mAv.rf (ih.2 _ _ _ _ _ h) (fun i z => by unfold wX5_improves_1 at z; unfold wX5_improves_0; omega)
    · intro l1I l2I l3I s0I V h
      rw [mX5_improves_go, if_neg (by decide), if_pos rfl] at h
      unfold mX5_improves_b1 at h
      obtain ⟨c4, h⟩ := mGd_some h
      obtain ⟨c5, h⟩ := mGd_some h
      rcases mIf_some h with ⟨_, h⟩ | ⟨_, h⟩
      · obtain ⟨x22, _, h⟩ := mLt_some h
        exact mAv.tr mAv.rf (ih.1 _ _ _ _ h) (fun i z => by unfold wX5_improves_0 at z; unfold wX5_improves_1; omega)
      · obtain ⟨c6, h⟩ := mGd_some h
        rcases mIf_some h with ⟨_, h⟩ | ⟨_, h⟩
        · rcases mIf_some h with ⟨_, h⟩ | ⟨_, h⟩
          · obtain ⟨x27, _, h⟩ := mLt_some h
            exact mAv.tr mAv.rf (ih.1 _ _ _ _ h) (fun i z => by unfold wX5_improves_0 at z; unfold wX5_improves_1; omega)
          · obtain ⟨x28, _, h⟩ := mLt_some h
            exact mAv.tr mAv.rf (ih.1 _ _ _ _ h) (fun i z => by unfold wX5_improves_0 at z; unfold wX5_improves_1; omega)
        · obtain ⟨x25, _, h⟩ := mLt_some h
          exact mAv.tr mAv.rf (ih.1 _ _ _ _ h) (fun i z => by unfold wX5_improves_0 at z; unfold wX5_improves_1; omega)
set_option maxHeartbeats 4000000 in
theorem NX5_improves {F : Nat} {V V1 : mV} {v : Int32} {l1I : Int32} (h : mX5_improves F l1I V = some (v, V1)) : mAv (wX5_improves) V V1 := by
  have ih := NX5_improves_go (F := F) (v := v) (V1 := V1) F
  unfold mX5_improves mX5_improves_s at h
  exact mAv.tr mAv.rf (ih.1 _ _ _ _ h) (fun i z => by unfold wX5_improves_0 at z; unfold wX5_improves; omega)
def wX6_findLetters (l1A : Nat) (i : Nat) : Prop := i = 8 ∨ (84 ≤ i ∧ i ≤ 87)
def wX6_findLetters_0 (i : Nat) : Prop := i = 87
def wX6_findLetters_1 (i : Nat) : Prop := i = 87
def wX6_findLetters_2 (i : Nat) : Prop := i = 87
set_option maxHeartbeats 4000000 in
theorem NX6_findLetters_go {F : Nat} {v : Unit} {V1 : mV} : ∀ k' : Nat, (∀ (l2I : Int32) (V : mV), mX6_findLetters_go F k' 0 l2I 0 0 V = some (v, V1) → mAv (wX6_findLetters_0) V V1) ∧ (∀ (l2I : Int32) (l3I : Int32) (V : mV), mX6_findLetters_go F k' 1 l2I l3I 0 V = some (v, V1) → mAv (wX6_findLetters_1) V V1) ∧ (∀ (l2I : Int32) (l3I : Int32) (l4I : Int32) (V : mV), mX6_findLetters_go F k' 2 l2I l3I l4I V = some (v, V1) → mAv (wX6_findLetters_2) V V1) := by
  intro k'
  induction k' with
  | zero => exact ⟨(fun _ _ h => by cases h), (fun _ _ _ h => by cases h), (fun _ _ _ _ h => by cases h)⟩
  | succ k' ih =>
    refine ⟨?_, ?_, ?_⟩
    · intro l2I V h
      rw [mX6_findLetters_go, if_pos rfl] at h
      unfold mX6_findLetters_b0 at h
      rcases mIf_some h with ⟨_, h⟩ | ⟨_, h⟩
      · obtain ⟨_, rfl⟩ := mRW h
        exact mAv.rf
      · exact mAv.tr mAv.rf (ih.2.1 _ _ _ h) (fun i z => by unfold wX6_findLetters_1 at z; unfold wX6_findLetters_0; omega)
    · intro l2I l3I V h
      rw [mX6_findLetters_go, if_neg (by decide), if_pos rfl] at h
      unfold mX6_findLetters_b1 at h
      rcases mIf_some h with ⟨_, h⟩ | ⟨_, h⟩
      · obtain ⟨x3, _, h⟩ := mLt_some h
        exact mAv.tr mAv.rf (ih.1 _ _ h) (fun i z => by unfold wX6_findLetters_0 at z; unfold wX6_findLetters_1; omega)
      · exact mAv.tr mAv.rf (ih.2.2 _ _ _ _ h) (fun i z => by unfold wX6_findLetters_2 at z; unfold wX6_findLetters_1; omega)
    · intro l2I l3I l4I V h
      rw [mX6_findLetters_go, if_neg (by decide), if_neg (by decide), if_pos rfl] at h
      unfold mX6_findLetters_b2 at h
      rcases mIf_some h with ⟨_, h⟩ | ⟨_, h⟩
      · obtain ⟨x5, _, h⟩ := mLt_some h
        exact mAv.tr mAv.rf (ih.2.1 _ _ _ h) (fun i z => by unfold wX6_findLetters_1 at z; unfold wX6_findLetters_2; omega)
      · obtain ⟨v6, _, h⟩ := mBN_some h
        rcases mIf_some h with ⟨_, h⟩ | ⟨_, h⟩
        · obtain ⟨x12, _, h⟩ := mLt_some h
          exact mAv.tr mAv.rf (ih.2.2 _ _ _ _ h) (fun i z => by unfold wX6_findLetters_2 at z; unfold wX6_findLetters_2; omega)
        · obtain ⟨v13, _, h⟩ := mBN_some h
          rcases mIf_some h with ⟨_, h⟩ | ⟨_, h⟩
          · obtain ⟨x19, _, h⟩ := mLt_some h
            exact mAv.tr mAv.rf (ih.2.2 _ _ _ _ h) (fun i z => by unfold wX6_findLetters_2 at z; unfold wX6_findLetters_2; omega)
          · obtain ⟨c1, h⟩ := mGd_some h
            obtain ⟨V21, eV21, h⟩ := mLt_some h
            have a2 : mAv (wX6_findLetters_2) V V21 := by rw [eV21]; exact mAv.I mAv.rf (by unfold wX6_findLetters_2; omega)
            obtain ⟨x22, _, h⟩ := mLt_some h
            exact mAv.tr a2 (ih.2.2 _ _ _ _ h) (fun i z => by unfold wX6_findLetters_2 at z; unfold wX6_findLetters_2; omega)
set_option maxHeartbeats 4000000 in
theorem NX6_findLetters {F : Nat} {V V1 : mV} {v : Unit} {l1A : Nat} (h : mX6_findLetters F l1A V = some (v, V1)) : mAv (wX6_findLetters l1A) V V1 := by
  have ih := NX6_findLetters_go (F := F) (v := v) (V1 := V1) F
  unfold mX6_findLetters mX6_findLetters_s at h
  obtain ⟨v23, V24, h3, h⟩ := mBW_some h
  have a3 : mAv (wX6_findLetters l1A) V V24 := mAv.tr mAv.rf (NX6_loadStates h3) (fun i z => by unfold wX6_loadStates at z; unfold wX6_findLetters; omega)
  obtain ⟨v28, V29, h4, h⟩ := mBW_some h
  have a4 : mAv (wX6_findLetters l1A) V V29 := mAv.tr a3 (NJ7_fill_53178 h4) (fun i z => by unfold wJ7_fill_53178 at z; unfold wX6_findLetters; omega)
  exact mAv.tr a4 (ih.1 _ _ h) (fun i z => by unfold wX6_findLetters_0 at z; unfold wX6_findLetters; omega)
def wX6_judgeLetters (l1A : Nat) (l2A : Nat) (i : Nat) : Prop := i = 8 ∨ (84 ≤ i ∧ i ≤ 86)
def wX6_judgeLetters_0 (l2A : Nat) (i : Nat) : Prop := i < 0
def wX6_judgeLetters_1 (l2A : Nat) (i : Nat) : Prop := i < 0
set_option maxHeartbeats 4000000 in
theorem NX6_judgeLetters_go {F : Nat} {v : Int32} {V1 : mV} : ∀ k' : Nat, (∀ (l2A : Nat) (l3I : Int32) (l4I : Int32) (l5I : Int32) (Ln : Nat → Nat) (V : mV), mX6_judgeLetters_go F k' 0 Ln l2A l3I l4I l5I 0 V = some (v, V1) → mAv (wX6_judgeLetters_0 l2A) V V1) ∧ (∀ (l2A : Nat) (l3I : Int32) (l4I : Int32) (l5I : Int32) (s0I : Int32) (Ln : Nat → Nat) (V : mV), mX6_judgeLetters_go F k' 1 Ln l2A l3I l4I l5I s0I V = some (v, V1) → mAv (wX6_judgeLetters_1 l2A) V V1) := by
  intro k'
  induction k' with
  | zero => exact ⟨(fun _ _ _ _ _ _ h => by cases h), (fun _ _ _ _ _ _ _ h => by cases h)⟩
  | succ k' ih =>
    refine ⟨?_, ?_⟩
    · intro l2A l3I l4I l5I Ln V h
      rw [mX6_judgeLetters_go, if_pos rfl] at h
      unfold mX6_judgeLetters_b0 at h
      rcases mIf_some h with ⟨_, h⟩ | ⟨_, h⟩
      · obtain ⟨c1, h⟩ := mGd_some h
        obtain ⟨c2, h⟩ := mGd_some h
        rcases mIf_some h with ⟨_, h⟩ | ⟨_, h⟩
        · obtain ⟨_, rfl⟩ := mRW h
          exact mAv.rf
        · obtain ⟨_, rfl⟩ := mRW h
          exact mAv.rf
      · obtain ⟨v5, _, h⟩ := mBN_some h
        rcases mIf_some h with ⟨_, h⟩ | ⟨_, h⟩
        · exact mAv.tr mAv.rf (ih.2 _ _ _ _ _ _ _ h) (fun i z => by unfold wX6_judgeLetters_1 at z; unfold wX6_judgeLetters_0; omega)
        · exact mAv.tr mAv.rf (ih.2 _ _ _ _ _ _ _ h) (fun i z => by unfold wX6_judgeLetters_1 at z; unfold wX6_judgeLetters_0; omega)
    · intro l2A l3I l4I l5I s0I Ln V h
      rw [mX6_judgeLetters_go, if_neg (by decide), if_pos rfl] at h
      unfold mX6_judgeLetters_b1 at h
      rcases mIf_some h with ⟨_, h⟩ | ⟨_, h⟩
      · obtain ⟨c3, h⟩ := mGd_some h
        obtain ⟨x13, _, h⟩ := mLt_some h
        rcases mIf_some h with ⟨_, h⟩ | ⟨_, h⟩
        · obtain ⟨c4, h⟩ := mGd_some h
          obtain ⟨x16, _, h⟩ := mLt_some h
          obtain ⟨x17, _, h⟩ := mLt_some h
          exact mAv.tr mAv.rf (ih.1 _ _ _ _ _ _ h) (fun i z => by unfold wX6_judgeLetters_0 at z; unfold wX6_judgeLetters_1; omega)
        · obtain ⟨c5, h⟩ := mGd_some h
          obtain ⟨x19, _, h⟩ := mLt_some h
          obtain ⟨x20, _, h⟩ := mLt_some h
          exact mAv.tr mAv.rf (ih.1 _ _ _ _ _ _ h) (fun i z => by unfold wX6_judgeLetters_0 at z; unfold wX6_judgeLetters_1; omega)
      · obtain ⟨c6, h⟩ := mGd_some h
        obtain ⟨x22, _, h⟩ := mLt_some h
        rcases mIf_some h with ⟨_, h⟩ | ⟨_, h⟩
        · obtain ⟨c7, h⟩ := mGd_some h
          obtain ⟨x25, _, h⟩ := mLt_some h
          obtain ⟨x26, _, h⟩ := mLt_some h
          exact mAv.tr mAv.rf (ih.1 _ _ _ _ _ _ h) (fun i z => by unfold wX6_judgeLetters_0 at z; unfold wX6_judgeLetters_1; omega)
        · obtain ⟨c8, h⟩ := mGd_some h
          obtain ⟨x28, _, h⟩ := mLt_some h
          obtain ⟨x29, _, h⟩ := mLt_some h
          exact mAv.tr mAv.rf (ih.1 _ _ _ _ _ _ h) (fun i z => by unfold wX6_judgeLetters_0 at z; unfold wX6_judgeLetters_1; omega)
set_option maxHeartbeats 4000000 in
theorem NX6_judgeLetters {F : Nat} {Ln : Nat → Nat} {V V1 : mV} {v : Int32} {l1A : Nat} {l2A : Nat} (h : mX6_judgeLetters F Ln l1A l2A V = some (v, V1)) : mAv (wX6_judgeLetters l1A l2A) V V1 := by
  have ih := NX6_judgeLetters_go (F := F) (v := v) (V1 := V1) F
  unfold mX6_judgeLetters mX6_judgeLetters_s at h
  obtain ⟨v30, V31, h9, h⟩ := mBW_some h
  have a9 : mAv (wX6_judgeLetters l1A l2A) V V31 := mAv.tr mAv.rf (NX6_loadStates h9) (fun i z => by unfold wX6_loadStates at z; unfold wX6_judgeLetters; omega)
  obtain ⟨v35, _, h⟩ := mBN_some h
  rcases mIf_some h with ⟨_, h⟩ | ⟨_, h⟩
  · obtain ⟨_, rfl⟩ := mRW h
    exact a9
  · obtain ⟨v41, _, h⟩ := mBN_some h
    exact mAv.tr a9 (ih.1 _ _ _ _ _ _ h) (fun i z => by unfold wX6_judgeLetters_0 at z; unfold wX6_judgeLetters; omega)
def wX7_countPairs (l1A : Nat) (i : Nat) : Prop := (19 ≤ i ∧ i ≤ 20)
def wX7_countPairs_0 (l1A : Nat) (i : Nat) : Prop := i = 20
def wX7_countPairs_1 (l1A : Nat) (i : Nat) : Prop := i = 20
set_option maxHeartbeats 4000000 in
theorem NX7_countPairs_go {F : Nat} {v : Unit} {V1 : mV} : ∀ k' : Nat, (∀ (l1A : Nat) (l2I : Int32) (V : mV), mX7_countPairs_go F k' 0 l1A l2I 0 0 0 0 V = some (v, V1) → mAv (wX7_countPairs_0 l1A) V V1) ∧ (∀ (l1A : Nat) (l2I : Int32) (l3I : Int32) (l4I : Int32) (l5I : Int32) (l6I : Int32) (V : mV), mX7_countPairs_go F k' 1 l1A l2I l3I l4I l5I l6I V = some (v, V1) → mAv (wX7_countPairs_1 l1A) V V1) := by
  intro k'
  induction k' with
  | zero => exact ⟨(fun _ _ _ h => by cases h), (fun _ _ _ _ _ _ _ h => by cases h)⟩
  | succ k' ih =>
    refine ⟨?_, ?_⟩
    · intro l1A l2I V h
      rw [mX7_countPairs_go, if_pos rfl] at h
      unfold mX7_countPairs_b0 at h
      rcases mIf_some h with ⟨_, h⟩ | ⟨_, h⟩
      · obtain ⟨_, rfl⟩ := mRW h
        exact mAv.rf
      · rcases mIf_some h with ⟨_, h⟩ | ⟨_, h⟩
        · obtain ⟨_, rfl⟩ := mRW h
          exact mAv.rf
        · obtain ⟨v3, _, h⟩ := mBN_some h
          obtain ⟨x8, _, h⟩ := mLt_some h
          obtain ⟨c1, h⟩ := mGd_some h
          obtain ⟨x10, _, h⟩ := mLt_some h
          obtain ⟨x11, _, h⟩ := mLt_some h
          exact mAv.tr mAv.rf (ih.2 _ _ _ _ _ _ _ h) (fun i z => by unfold wX7_countPairs_1 at z; unfold wX7_countPairs_0; omega)
    · intro l1A l2I l3I l4I l5I l6I V h
      rw [mX7_countPairs_go, if_neg (by decide), if_pos rfl] at h
      unfold mX7_countPairs_b1 at h
      rcases mIf_some h with ⟨_, h⟩ | ⟨_, h⟩
      · obtain ⟨c2, h⟩ := mGd_some h
        obtain ⟨V14, eV14, h⟩ := mLt_some h
        have a3 : mAv (wX7_countPairs_1 l1A) V V14 := by rw [eV14]; exact mAv.I mAv.rf (by unfold wX7_countPairs_1; omega)
        obtain ⟨x15, _, h⟩ := mLt_some h
        exact mAv.tr a3 (ih.1 _ _ _ h) (fun i z => by unfold wX7_countPairs_0 at z; unfold wX7_countPairs_1; omega)
      · obtain ⟨c4, h⟩ := mGd_some h
        obtain ⟨v17, _, h⟩ := mBN_some h
        rcases mIf_some h with ⟨_, h⟩ | ⟨_, h⟩
        · obtain ⟨x23, _, h⟩ := mLt_some h
          exact mAv.tr mAv.rf (ih.2 _ _ _ _ _ _ _ h) (fun i z => by unfold wX7_countPairs_1 at z; unfold wX7_countPairs_1; omega)
        · obtain ⟨c5, h⟩ := mGd_some h
          obtain ⟨x25, _, h⟩ := mLt_some h
          obtain ⟨x26, _, h⟩ := mLt_some h
          exact mAv.tr mAv.rf (ih.2 _ _ _ _ _ _ _ h) (fun i z => by unfold wX7_countPairs_1 at z; unfold wX7_countPairs_1; omega)
set_option maxHeartbeats 4000000 in
theorem NX7_countPairs {F : Nat} {V V1 : mV} {v : Unit} {l1A : Nat} (h : mX7_countPairs F l1A V = some (v, V1)) : mAv (wX7_countPairs l1A) V V1 := by
  have ih := NX7_countPairs_go (F := F) (v := v) (V1 := V1) F
  unfold mX7_countPairs mX7_countPairs_s at h
  obtain ⟨v27, V28, h6, h⟩ := mBW_some h
  have a6 : mAv (wX7_countPairs l1A) V V28 := mAv.tr mAv.rf (NX3_fillNear h6) (fun i z => by unfold wX3_fillNear at z; unfold wX7_countPairs; omega)
  obtain ⟨c7, h⟩ := mGd_some h
  obtain ⟨V33, eV33, h⟩ := mLt_some h
  have a8 : mAv (wX7_countPairs l1A) V V33 := by rw [eV33]; exact mAv.I a6 (by unfold wX7_countPairs; omega)
  exact mAv.tr a8 (ih.1 _ _ _ h) (fun i z => by unfold wX7_countPairs_0 at z; unfold wX7_countPairs; omega)
def wX7_judgePairing (l1A : Nat) (l2A : Nat) (i : Nat) : Prop := i = 19
def wX7_judgePairing_0 (l1A : Nat) (l2A : Nat) (i : Nat) : Prop := i < 0
def wX7_judgePairing_1 (l1A : Nat) (l2A : Nat) (i : Nat) : Prop := i < 0
set_option maxHeartbeats 4000000 in
theorem NX7_judgePairing_go {F : Nat} {v : Int32} {V1 : mV} : ∀ k' : Nat, (∀ (l1A : Nat) (l2A : Nat) (l3I : Int32) (l4I : Int32) (l5I : Int32) (Ln : Nat → Nat) (V : mV), mX7_judgePairing_go F k' 0 Ln l1A l2A l3I l4I l5I V = some (v, V1) → mAv (wX7_judgePairing_0 l1A l2A) V V1) ∧ (∀ (l1A : Nat) (l2A : Nat) (l3I : Int32) (l4I : Int32) (l5I : Int32) (Ln : Nat → Nat) (V : mV), mX7_judgePairing_go F k' 1 Ln l1A l2A l3I l4I l5I V = some (v, V1) → mAv (wX7_judgePairing_1 l1A l2A) V V1) := by
  intro k'
  induction k' with
  | zero => exact ⟨(fun _ _ _ _ _ _ _ h => by cases h), (fun _ _ _ _ _ _ _ h => by cases h)⟩
  | succ k' ih =>
    refine ⟨?_, ?_⟩
    · intro l1A l2A l3I l4I l5I Ln V h
      rw [mX7_judgePairing_go, if_pos rfl] at h
      unfold mX7_judgePairing_b0 at h
      rcases mIf_some h with ⟨_, h⟩ | ⟨_, h⟩
      · exact mAv.tr mAv.rf (ih.2 _ _ _ _ _ _ _ h) (fun i z => by unfold wX7_judgePairing_1 at z; unfold wX7_judgePairing_0; omega)
      · obtain ⟨v2, _, h⟩ := mBN_some h
        obtain ⟨v7, _, h⟩ := mBN_some h
        rcases mIf_some h with ⟨_, h⟩ | ⟨_, h⟩
        · obtain ⟨x13, _, h⟩ := mLt_some h
          exact mAv.tr mAv.rf (ih.1 _ _ _ _ _ _ _ h) (fun i z => by unfold wX7_judgePairing_0 at z; unfold wX7_judgePairing_0; omega)
        · obtain ⟨_, rfl⟩ := mRW h
          exact mAv.rf
    · intro l1A l2A l3I l4I l5I Ln V h
      rw [mX7_judgePairing_go, if_neg (by decide), if_pos rfl] at h
      unfold mX7_judgePairing_b1 at h
      rcases mIf_some h with ⟨_, h⟩ | ⟨_, h⟩
      · rcases mIf_some h with ⟨_, h⟩ | ⟨_, h⟩
        · obtain ⟨_, rfl⟩ := mRW h
          exact mAv.rf
        · obtain ⟨_, rfl⟩ := mRW h
          exact mAv.rf
      · obtain ⟨v16, _, h⟩ := mBN_some h
        rcases mIf_some h with ⟨_, h⟩ | ⟨_, h⟩
        · obtain ⟨x35, _, h⟩ := mLt_some h
          obtain ⟨x36, _, h⟩ := mLt_some h
          exact mAv.tr mAv.rf (ih.2 _ _ _ _ _ _ _ h) (fun i z => by unfold wX7_judgePairing_1 at z; unfold wX7_judgePairing_1; omega)
        · obtain ⟨c1, h⟩ := mGd_some h
          obtain ⟨v23, _, h⟩ := mBN_some h
          obtain ⟨v28, _, h⟩ := mBN_some h
          rcases mIf_some h with ⟨_, h⟩ | ⟨_, h⟩
          · obtain ⟨_, rfl⟩ := mRW h
            exact mAv.rf
          · obtain ⟨x34, _, h⟩ := mLt_some h
            exact mAv.tr mAv.rf (ih.2 _ _ _ _ _ _ _ h) (fun i z => by unfold wX7_judgePairing_1 at z; unfold wX7_judgePairing_1; omega)
set_option maxHeartbeats 4000000 in
theorem NX7_judgePairing {F : Nat} {Ln : Nat → Nat} {V V1 : mV} {v : Int32} {l1A : Nat} {l2A : Nat} (h : mX7_judgePairing F Ln l1A l2A V = some (v, V1)) : mAv (wX7_judgePairing l1A l2A) V V1 := by
  have ih := NX7_judgePairing_go (F := F) (v := v) (V1 := V1) F
  unfold mX7_judgePairing mX7_judgePairing_s at h
  obtain ⟨x37, _, h⟩ := mLt_some h
  rcases mIf_some h with ⟨_, h⟩ | ⟨_, h⟩
  · obtain ⟨v39, _, h⟩ := mBN_some h
    rcases mIf_some h with ⟨_, h⟩ | ⟨_, h⟩
    · obtain ⟨_, rfl⟩ := mRW h
      exact mAv.rf
    · obtain ⟨v45, V46, h2, h⟩ := mBW_some h
      have a2 : mAv (wX7_judgePairing l1A l2A) V V46 := mAv.tr mAv.rf (NX3_fillNear h2) (fun i z => by unfold wX3_fillNear at z; unfold wX7_judgePairing; omega)
      exact mAv.tr a2 (ih.1 _ _ _ _ _ _ _ h) (fun i z => by unfold wX7_judgePairing_0 at z; unfold wX7_judgePairing; omega)
  · obtain ⟨_, rfl⟩ := mRW h
    exact mAv.rf
def wX7_judgeNodes (l1A : Nat) (l2A : Nat) (i : Nat) : Prop := i = 19
def wX7_judgeNodes_0 (l1A : Nat) (l2A : Nat) (i : Nat) : Prop := i < 0
def wX7_judgeNodes_1 (l1A : Nat) (l2A : Nat) (i : Nat) : Prop := i < 0
set_option maxHeartbeats 4000000 in
theorem NX7_judgeNodes_go {F : Nat} {v : Int32} {V1 : mV} : ∀ k' : Nat, (∀ (l1A : Nat) (l2A : Nat) (l3I : Int32) (l4I : Int32) (l5I : Int32) (Ln : Nat → Nat) (V : mV), mX7_judgeNodes_go F k' 0 Ln l1A l2A l3I l4I l5I 0 V = some (v, V1) → mAv (wX7_judgeNodes_0 l1A l2A) V V1) ∧ (∀ (l1A : Nat) (l2A : Nat) (l3I : Int32) (l4I : Int32) (l5I : Int32) (l6I : Int32) (Ln : Nat → Nat) (V : mV), mX7_judgeNodes_go F k' 1 Ln l1A l2A l3I l4I l5I l6I V = some (v, V1) → mAv (wX7_judgeNodes_1 l1A l2A) V V1) := by
  intro k'
  induction k' with
  | zero => exact ⟨(fun _ _ _ _ _ _ _ h => by cases h), (fun _ _ _ _ _ _ _ _ h => by cases h)⟩
  | succ k' ih =>
    refine ⟨?_, ?_⟩
    · intro l1A l2A l3I l4I l5I Ln V h
      rw [mX7_judgeNodes_go, if_pos rfl] at h
      unfold mX7_judgeNodes_b0 at h
      rcases mIf_some h with ⟨_, h⟩ | ⟨_, h⟩
      · exact mAv.tr mAv.rf (ih.2 _ _ _ _ _ _ _ _ h) (fun i z => by unfold wX7_judgeNodes_1 at z; unfold wX7_judgeNodes_0; omega)
      · obtain ⟨v2, _, h⟩ := mBN_some h
        obtain ⟨x7, _, h⟩ := mLt_some h
        obtain ⟨x8, _, h⟩ := mLt_some h
        exact mAv.tr mAv.rf (ih.1 _ _ _ _ _ _ _ h) (fun i z => by unfold wX7_judgeNodes_0 at z; unfold wX7_judgeNodes_0; omega)
    · intro l1A l2A l3I l4I l5I l6I Ln V h
      rw [mX7_judgeNodes_go, if_neg (by decide), if_pos rfl] at h
      unfold mX7_judgeNodes_b1 at h
      rcases mIf_some h with ⟨_, h⟩ | ⟨_, h⟩
      · rcases mIf_some h with ⟨_, h⟩ | ⟨_, h⟩
        · obtain ⟨_, rfl⟩ := mRW h
          exact mAv.rf
        · obtain ⟨_, rfl⟩ := mRW h
          exact mAv.rf
      · obtain ⟨v11, _, h⟩ := mBN_some h
        rcases mIf_some h with ⟨_, h⟩ | ⟨_, h⟩
        · obtain ⟨x17, _, h⟩ := mLt_some h
          exact mAv.tr mAv.rf (ih.2 _ _ _ _ _ _ _ _ h) (fun i z => by unfold wX7_judgeNodes_1 at z; unfold wX7_judgeNodes_1; omega)
        · obtain ⟨v18, _, h⟩ := mBN_some h
          obtain ⟨v23, _, h⟩ := mBN_some h
          obtain ⟨x28, _, h⟩ := mLt_some h
          obtain ⟨x29, _, h⟩ := mLt_some h
          obtain ⟨x30, _, h⟩ := mLt_some h
          exact mAv.tr mAv.rf (ih.2 _ _ _ _ _ _ _ _ h) (fun i z => by unfold wX7_judgeNodes_1 at z; unfold wX7_judgeNodes_1; omega)
set_option maxHeartbeats 4000000 in
theorem NX7_judgeNodes {F : Nat} {Ln : Nat → Nat} {V V1 : mV} {v : Int32} {l1A : Nat} {l2A : Nat} (h : mX7_judgeNodes F Ln l1A l2A V = some (v, V1)) : mAv (wX7_judgeNodes l1A l2A) V V1 := by
  have ih := NX7_judgeNodes_go (F := F) (v := v) (V1 := V1) F
  unfold mX7_judgeNodes mX7_judgeNodes_s at h
  obtain ⟨x31, _, h⟩ := mLt_some h
  obtain ⟨v32, _, h⟩ := mBN_some h
  rcases mIf_some h with ⟨_, h⟩ | ⟨_, h⟩
  · obtain ⟨_, rfl⟩ := mRW h
    exact mAv.rf
  · obtain ⟨v38, _, h⟩ := mBN_some h
    rcases mIf_some h with ⟨_, h⟩ | ⟨_, h⟩
    · obtain ⟨_, rfl⟩ := mRW h
      exact mAv.rf
    · obtain ⟨v44, V45, h1, h⟩ := mBW_some h
      have a1 : mAv (wX7_judgeNodes l1A l2A) V V45 := mAv.tr mAv.rf (NX3_fillNear h1) (fun i z => by unfold wX3_fillNear at z; unfold wX7_judgeNodes; omega)
      obtain ⟨x49, _, h⟩ := mLt_some h
      exact mAv.tr a1 (ih.1 _ _ _ _ _ _ _ h) (fun i z => by unfold wX7_judgeNodes_0 at z; unfold wX7_judgeNodes; omega)
def wX7_reachBy (i : Nat) : Prop := i = 2 ∨ i = 25
def wX7_reachBy_0 (i : Nat) : Prop := i = 2 ∨ i = 25
set_option maxHeartbeats 4000000 in
theorem NX7_reachBy_go {F : Nat} {v : Unit} {V1 : mV} : ∀ k' : Nat, (∀ (l1I : Int32) (l2I : Int32) (l3I : Int32) (V : mV), mX7_reachBy_go F k' 0 l1I l2I l3I V = some (v, V1) → mAv (wX7_reachBy_0) V V1) := by
  intro k'
  induction k' with
  | zero => exact (fun _ _ _ _ h => by cases h)
  | succ k' ih =>
    intro l1I l2I l3I V h
    rw [mX7_reachBy_go, if_pos rfl] at h
    unfold mX7_reachBy_b0 at h
    obtain ⟨v1, _, h⟩ := mBN_some h
    rcases mIf_some h with ⟨_, h⟩ | ⟨_, h⟩
    · obtain ⟨_, rfl⟩ := mRW h
      exact mAv.rf
    · obtain ⟨v7, _, h⟩ := mBN_some h
      rcases mIf_some h with ⟨_, h⟩ | ⟨_, h⟩
      · obtain ⟨c1, h⟩ := mGd_some h
        rcases mIf_some h with ⟨_, h⟩ | ⟨_, h⟩
        · obtain ⟨_, rfl⟩ := mRW h
          exact mAv.rf
        · obtain ⟨V15, eV15, h⟩ := mLt_some h
          have a2 : mAv (wX7_reachBy_0) V V15 := by rw [eV15]; exact mAv.F mAv.rf (by unfold wX7_reachBy_0; omega)
          obtain ⟨c3, h⟩ := mGd_some h
          obtain ⟨V17, eV17, h⟩ := mLt_some h
          have a4 : mAv (wX7_reachBy_0) V V17 := by rw [eV17]; exact mAv.I a2 (by unfold wX7_reachBy_0; omega)
          obtain ⟨_, rfl⟩ := mRW h
          exact a4
      · obtain ⟨_, rfl⟩ := mRW h
        exact mAv.rf
set_option maxHeartbeats 4000000 in
theorem NX7_reachBy {F : Nat} {V V1 : mV} {v : Unit} {l1I : Int32} (h : mX7_reachBy F l1I V = some (v, V1)) : mAv (wX7_reachBy) V V1 := by
  have ih := NX7_reachBy_go (F := F) (v := v) (V1 := V1) F
  unfold mX7_reachBy mX7_reachBy_s at h
  obtain ⟨c5, h⟩ := mGd_some h
  obtain ⟨x19, _, h⟩ := mLt_some h
  obtain ⟨c6, h⟩ := mGd_some h
  obtain ⟨x21, _, h⟩ := mLt_some h
  obtain ⟨v22, _, h⟩ := mBN_some h
  rcases mIf_some h with ⟨_, h⟩ | ⟨_, h⟩
  · exact mAv.tr mAv.rf (ih _ _ _ _ h) (fun i z => by unfold wX7_reachBy_0 at z; unfold wX7_reachBy; omega)
  · obtain ⟨v28, _, h⟩ := mBN_some h
    rcases mIf_some h with ⟨_, h⟩ | ⟨_, h⟩
    · obtain ⟨c7, h⟩ := mGd_some h
      obtain ⟨c8, h⟩ := mGd_some h
      rcases mIf_some h with ⟨_, h⟩ | ⟨_, h⟩
      · exact mAv.tr mAv.rf (ih _ _ _ _ h) (fun i z => by unfold wX7_reachBy_0 at z; unfold wX7_reachBy; omega)
      · obtain ⟨V37, eV37, h⟩ := mLt_some h
        have a9 : mAv (wX7_reachBy) V V37 := by rw [eV37]; exact mAv.F mAv.rf (by unfold wX7_reachBy; omega)
        obtain ⟨c10, h⟩ := mGd_some h
        obtain ⟨V39, eV39, h⟩ := mLt_some h
        have a11 : mAv (wX7_reachBy) V V39 := by rw [eV39]; exact mAv.I a9 (by unfold wX7_reachBy; omega)
        obtain ⟨_, rfl⟩ := mRW h
        exact a11
    · exact mAv.tr mAv.rf (ih _ _ _ _ h) (fun i z => by unfold wX7_reachBy_0 at z; unfold wX7_reachBy; omega)
def wX7_judgeFlow (l1A : Nat) (l2A : Nat) (i : Nat) : Prop := i = 2 ∨ (21 ≤ i ∧ i ≤ 23) ∨ i = 26
def wX7_judgeFlow_0 (l1A : Nat) (l2A : Nat) (i : Nat) : Prop := i = 26
def wX7_judgeFlow_1 (l1A : Nat) (i : Nat) : Prop := i < 0
set_option maxHeartbeats 4000000 in
theorem NX7_judgeFlow_go {F : Nat} {v : Int32} {V1 : mV} : ∀ k' : Nat, (∀ (l1A : Nat) (l2A : Nat) (l3I : Int32) (Ln : Nat → Nat) (V : mV), mX7_judgeFlow_go F k' 0 Ln l1A l2A l3I V = some (v, V1) → mAv (wX7_judgeFlow_0 l1A l2A) V V1) ∧ (∀ (l1A : Nat) (l3I : Int32) (Ln : Nat → Nat) (V : mV), mX7_judgeFlow_go F k' 1 Ln l1A 0 l3I V = some (v, V1) → mAv (wX7_judgeFlow_1 l1A) V V1) := by
  intro k'
  induction k' with
  | zero => exact ⟨(fun _ _ _ _ _ h => by cases h), (fun _ _ _ _ h => by cases h)⟩
  | succ k' ih =>
    refine ⟨?_, ?_⟩
    · intro l1A l2A l3I Ln V h
      rw [mX7_judgeFlow_go, if_pos rfl] at h
      unfold mX7_judgeFlow_b0 at h
      rcases mIf_some h with ⟨_, h⟩ | ⟨_, h⟩
      · exact mAv.tr mAv.rf (ih.2 _ _ _ _ h) (fun i z => by unfold wX7_judgeFlow_1 at z; unfold wX7_judgeFlow_0; omega)
      · obtain ⟨v2, _, h⟩ := mBN_some h
        rcases mIf_some h with ⟨_, h⟩ | ⟨_, h⟩
        · obtain ⟨_, rfl⟩ := mRW h
          exact mAv.rf
        · obtain ⟨v8, _, h⟩ := mBN_some h
          obtain ⟨c1, h⟩ := mGd_some h
          rcases mIf_some h with ⟨_, h⟩ | ⟨_, h⟩
          · obtain ⟨c2, h⟩ := mGd_some h
            obtain ⟨c3, h⟩ := mGd_some h
            obtain ⟨v17, _, h⟩ := mBN_some h
            obtain ⟨c4, h⟩ := mGd_some h
            obtain ⟨V23, eV23, h⟩ := mLt_some h
            have a5 : mAv (wX7_judgeFlow_0 l1A l2A) V V23 := by rw [eV23]; exact mAv.I mAv.rf (by unfold wX7_judgeFlow_0; omega)
            obtain ⟨c6, h⟩ := mGd_some h
            obtain ⟨c7, h⟩ := mGd_some h
            obtain ⟨v26, _, h⟩ := mBN_some h
            obtain ⟨c8, h⟩ := mGd_some h
            obtain ⟨V32, eV32, h⟩ := mLt_some h
            have a9 : mAv (wX7_judgeFlow_0 l1A l2A) V V32 := by rw [eV32]; exact mAv.I a5 (by unfold wX7_judgeFlow_0; omega)
            obtain ⟨x33, _, h⟩ := mLt_some h
            exact mAv.tr a9 (ih.1 _ _ _ _ _ h) (fun i z => by unfold wX7_judgeFlow_0 at z; unfold wX7_judgeFlow_0; omega)
          · obtain ⟨_, rfl⟩ := mRW h
            exact mAv.rf
    · intro l1A l3I Ln V h
      rw [mX7_judgeFlow_go, if_neg (by decide), if_pos rfl] at h
      unfold mX7_judgeFlow_b1 at h
      rcases mIf_some h with ⟨_, h⟩ | ⟨_, h⟩
      · obtain ⟨c10, h⟩ := mGd_some h
        rcases mIf_some h with ⟨_, h⟩ | ⟨_, h⟩
        · obtain ⟨_, rfl⟩ := mRW h
          exact mAv.rf
        · obtain ⟨_, rfl⟩ := mRW h
          exact mAv.rf
      · obtain ⟨c11, h⟩ := mGd_some h
        rcases mIf_some h with ⟨_, h⟩ | ⟨_, h⟩
        · obtain ⟨x39, _, h⟩ := mLt_some h
          exact mAv.tr mAv.rf (ih.2 _ _ _ _ h) (fun i z => by unfold wX7_judgeFlow_1 at z; unfold wX7_judgeFlow_1; omega)
        · obtain ⟨_, rfl⟩ := mRW h
          exact mAv.rf
set_option maxHeartbeats 4000000 in
theorem NX7_judgeFlow {F : Nat} {Ln : Nat → Nat} {V V1 : mV} {v : Int32} {l1A : Nat} {l2A : Nat} (h : mX7_judgeFlow F Ln l1A l2A V = some (v, V1)) : mAv (wX7_judgeFlow l1A l2A) V V1 := by
  have ih := NX7_judgeFlow_go (F := F) (v := v) (V1 := V1) F
  unfold mX7_judgeFlow mX7_judgeFlow_s at h
  obtain ⟨v40, V41, h12, h⟩ := mBW_some h
  have a12 : mAv (wX7_judgeFlow l1A l2A) V V41 := mAv.tr mAv.rf (NX7_loadFlows h12) (fun i z => by unfold wX7_loadFlows at z; unfold wX7_judgeFlow; omega)
  rcases mIf_some h with ⟨_, h⟩ | ⟨_, h⟩
  · obtain ⟨v46, V47, h13, h⟩ := mBW_some h
    have a13 : mAv (wX7_judgeFlow l1A l2A) V V47 := mAv.tr a12 (NJ7_fill_53178 h13) (fun i z => by unfold wJ7_fill_53178 at z; unfold wX7_judgeFlow; omega)
    exact mAv.tr a13 (ih.1 _ _ _ _ _ h) (fun i z => by unfold wX7_judgeFlow_0 at z; unfold wX7_judgeFlow; omega)
  · obtain ⟨_, rfl⟩ := mRW h
    exact a12
def wX7_judgeBar (l1A : Nat) (l2A : Nat) (i : Nat) : Prop := i = 2 ∨ (21 ≤ i ∧ i ≤ 23)
def wX7_judgeBar_0 (l1A : Nat) (l2A : Nat) (i : Nat) : Prop := i < 0
set_option maxHeartbeats 4000000 in
theorem NX7_judgeBar_go {F : Nat} {v : Int32} {V1 : mV} : ∀ k' : Nat, (∀ (l1A : Nat) (l2A : Nat) (l3I : Int32) (l4I : Int32) (Ln : Nat → Nat) (V : mV), mX7_judgeBar_go F k' 0 Ln l1A l2A l3I l4I V = some (v, V1) → mAv (wX7_judgeBar_0 l1A l2A) V V1) := by
  intro k'
  induction k' with
  | zero => exact (fun _ _ _ _ _ _ h => by cases h)
  | succ k' ih =>
    intro l1A l2A l3I l4I Ln V h
    rw [mX7_judgeBar_go, if_pos rfl] at h
    unfold mX7_judgeBar_b0 at h
    rcases mIf_some h with ⟨_, h⟩ | ⟨_, h⟩
    · rcases mIf_some h with ⟨_, h⟩ | ⟨_, h⟩
      · obtain ⟨_, rfl⟩ := mRW h
        exact mAv.rf
      · obtain ⟨_, rfl⟩ := mRW h
        exact mAv.rf
    · obtain ⟨c1, h⟩ := mGd_some h
      obtain ⟨v4, _, h⟩ := mBN_some h
      rcases mIf_some h with ⟨_, h⟩ | ⟨_, h⟩
      · obtain ⟨x10, _, h⟩ := mLt_some h
        exact mAv.tr mAv.rf (ih _ _ _ _ _ _ h) (fun i z => by unfold wX7_judgeBar_0 at z; unfold wX7_judgeBar_0; omega)
      · obtain ⟨c2, h⟩ := mGd_some h
        obtain ⟨v12, _, h⟩ := mBN_some h
        rcases mIf_some h with ⟨_, h⟩ | ⟨_, h⟩
        · obtain ⟨c3, h⟩ := mGd_some h
          obtain ⟨x20, _, h⟩ := mLt_some h
          obtain ⟨x21, _, h⟩ := mLt_some h
          exact mAv.tr mAv.rf (ih _ _ _ _ _ _ h) (fun i z => by unfold wX7_judgeBar_0 at z; unfold wX7_judgeBar_0; omega)
        · obtain ⟨x18, _, h⟩ := mLt_some h
          exact mAv.tr mAv.rf (ih _ _ _ _ _ _ h) (fun i z => by unfold wX7_judgeBar_0 at z; unfold wX7_judgeBar_0; omega)
set_option maxHeartbeats 4000000 in
theorem NX7_judgeBar {F : Nat} {Ln : Nat → Nat} {V V1 : mV} {v : Int32} {l1A : Nat} {l2A : Nat} (h : mX7_judgeBar F Ln l1A l2A V = some (v, V1)) : mAv (wX7_judgeBar l1A l2A) V V1 := by
  have ih := NX7_judgeBar_go (F := F) (v := v) (V1 := V1) F
  unfold mX7_judgeBar mX7_judgeBar_s at h
  obtain ⟨v22, V23, h4, h⟩ := mBW_some h
  have a4 : mAv (wX7_judgeBar l1A l2A) V V23 := mAv.tr mAv.rf (NX7_loadFlows h4) (fun i z => by unfold wX7_loadFlows at z; unfold wX7_judgeBar; omega)
  rcases mIf_some h with ⟨_, h⟩ | ⟨_, h⟩
  · obtain ⟨_, rfl⟩ := mRW h
    exact a4
  · obtain ⟨v28, _, h⟩ := mBN_some h
    rcases mIf_some h with ⟨_, h⟩ | ⟨_, h⟩
    · obtain ⟨v34, _, h⟩ := mBN_some h
      rcases mIf_some h with ⟨_, h⟩ | ⟨_, h⟩
      · obtain ⟨_, rfl⟩ := mRW h
        exact a4
      · obtain ⟨v40, _, h⟩ := mBN_some h
        rcases mIf_some h with ⟨_, h⟩ | ⟨_, h⟩
        · obtain ⟨_, rfl⟩ := mRW h
          exact a4
        · exact mAv.tr a4 (ih _ _ _ _ _ _ h) (fun i z => by unfold wX7_judgeBar_0 at z; unfold wX7_judgeBar; omega)
    · obtain ⟨_, rfl⟩ := mRW h
      exact a4
def wX8_gather (i : Nat) : Prop := (56 ≤ i ∧ i ≤ 60)
def wX8_gather_0 (i : Nat) : Prop := (56 ≤ i ∧ i ≤ 60)
def wX8_gather_1 (i : Nat) : Prop := (56 ≤ i ∧ i ≤ 60)
set_option maxHeartbeats 4000000 in
theorem NX8_gather_go {F : Nat} {v : Int32} {V1 : mV} : ∀ k' : Nat, (∀ (l1I : Int32) (V : mV), mX8_gather_go F k' 0 l1I 0 0 0 V = some (v, V1) → mAv (wX8_gather_0) V V1) ∧ (∀ (l1I : Int32) (l2I : Int32) (l3I : Int32) (l4I : Int32) (V : mV), mX8_gather_go F k' 1 l1I l2I l3I l4I V = some (v, V1) → mAv (wX8_gather_1) V V1) := by
  intro k'
  induction k' with
  | zero => exact ⟨(fun _ _ h => by cases h), (fun _ _ _ _ _ h => by cases h)⟩
  | succ k' ih =>
    refine ⟨?_, ?_⟩
    · intro l1I V h
      rw [mX8_gather_go, if_pos rfl] at h
      unfold mX8_gather_b0 at h
      rcases mIf_some h with ⟨_, h⟩ | ⟨_, h⟩
      · obtain ⟨_, rfl⟩ := mRW h
        exact mAv.rf
      · exact mAv.tr mAv.rf (ih.2 _ _ _ _ _ h) (fun i z => by unfold wX8_gather_1 at z; unfold wX8_gather_0; omega)
    · intro l1I l2I l3I l4I V h
      rw [mX8_gather_go, if_neg (by decide), if_pos rfl] at h
      unfold mX8_gather_b1 at h
      rcases mIf_some h with ⟨_, h⟩ | ⟨_, h⟩
      · rcases mIf_some h with ⟨_, h⟩ | ⟨_, h⟩
        · obtain ⟨v4, V5, h1, h⟩ := mBW_some h
          have a1 : mAv (wX8_gather_1) V V5 := mAv.tr mAv.rf (NX8_takeFromOthers h1) (fun i z => by unfold wX8_takeFromOthers at z; unfold wX8_gather_1; omega)
          obtain ⟨x9, _, h⟩ := mLt_some h
          exact mAv.tr a1 (ih.1 _ _ h) (fun i z => by unfold wX8_gather_0 at z; unfold wX8_gather_1; omega)
        · obtain ⟨_, rfl⟩ := mRW h
          exact mAv.rf
      · obtain ⟨c2, h⟩ := mGd_some h
        rcases mIf_some h with ⟨_, h⟩ | ⟨_, h⟩
        · obtain ⟨x12, _, h⟩ := mLt_some h
          exact mAv.tr mAv.rf (ih.2 _ _ _ _ _ h) (fun i z => by unfold wX8_gather_1 at z; unfold wX8_gather_1; omega)
        · obtain ⟨x13, _, h⟩ := mLt_some h
          rcases mIf_some h with ⟨_, h⟩ | ⟨_, h⟩
          · obtain ⟨x15, _, h⟩ := mLt_some h
            exact mAv.tr mAv.rf (ih.2 _ _ _ _ _ h) (fun i z => by unfold wX8_gather_1 at z; unfold wX8_gather_1; omega)
          · obtain ⟨c3, h⟩ := mGd_some h
            obtain ⟨c4, h⟩ := mGd_some h
            rcases mIf_some h with ⟨_, h⟩ | ⟨_, h⟩
            · obtain ⟨x19, _, h⟩ := mLt_some h
              exact mAv.tr mAv.rf (ih.2 _ _ _ _ _ h) (fun i z => by unfold wX8_gather_1 at z; unfold wX8_gather_1; omega)
            · obtain ⟨x20, _, h⟩ := mLt_some h
              exact mAv.tr mAv.rf (ih.2 _ _ _ _ _ h) (fun i z => by unfold wX8_gather_1 at z; unfold wX8_gather_1; omega)
set_option maxHeartbeats 4000000 in
theorem NX8_gather {F : Nat} {V V1 : mV} {v : Int32} (h : mX8_gather F V = some (v, V1)) : mAv (wX8_gather) V V1 := by
  have ih := NX8_gather_go (F := F) (v := v) (V1 := V1) F
  unfold mX8_gather mX8_gather_s at h
  exact mAv.tr mAv.rf (ih.1 _ _ h) (fun i z => by unfold wX8_gather_0 at z; unfold wX8_gather; omega)
def wX8_takeLeastAmount (i : Nat) : Prop := i = 6 ∨ i = 54 ∨ (56 ≤ i ∧ i ≤ 60)
def wX8_takeLeastAmount_0 (i : Nat) : Prop := i = 6 ∨ i = 54 ∨ (56 ≤ i ∧ i ≤ 60)
set_option maxHeartbeats 4000000 in
theorem NX8_takeLeastAmount_go {F : Nat} {v : Unit} {V1 : mV} : ∀ k' : Nat, (∀ (l1I : Int32) (l2I : Int32) (V : mV), mX8_takeLeastAmount_go F k' 0 l1I l2I V = some (v, V1) → mAv (wX8_takeLeastAmount_0) V V1) := by
  intro k'
  induction k' with
  | zero => exact (fun _ _ _ h => by cases h)
  | succ k' ih =>
    intro l1I l2I V h
    rw [mX8_takeLeastAmount_go, if_pos rfl] at h
    unfold mX8_takeLeastAmount_b0 at h
    rcases mIf_some h with ⟨_, h⟩ | ⟨_, h⟩
    · obtain ⟨v2, V3, h1, h⟩ := mBW_some h
      have a1 : mAv (wX8_takeLeastAmount_0) V V3 := mAv.tr mAv.rf (NX8_gather h1) (fun i z => by unfold wX8_gather at z; unfold wX8_takeLeastAmount_0; omega)
      rcases mIf_some h with ⟨_, h⟩ | ⟨_, h⟩
      · obtain ⟨_, rfl⟩ := mRW h
        exact a1
      · obtain ⟨c2, h⟩ := mGd_some h
        rcases mIf_some h with ⟨_, h⟩ | ⟨_, h⟩
        · obtain ⟨_, rfl⟩ := mRW h
          exact a1
        · obtain ⟨c3, h⟩ := mGd_some h
          obtain ⟨x11, _, h⟩ := mLt_some h
          obtain ⟨c4, h⟩ := mGd_some h
          obtain ⟨v13, _, h⟩ := mBN_some h
          rcases mIf_some h with ⟨_, h⟩ | ⟨_, h⟩
          · obtain ⟨c5, h⟩ := mGd_some h
            obtain ⟨c6, h⟩ := mGd_some h
            obtain ⟨c7, h⟩ := mGd_some h
            obtain ⟨v22, V23, h8, h⟩ := mBW_some h
            have a8 : mAv (wX8_takeLeastAmount_0) V V23 := mAv.tr a1 (NX8_movePoint h8) (fun i z => by unfold wX8_movePoint at z; unfold wX8_takeLeastAmount_0; omega)
            obtain ⟨v27, V28, h9, h⟩ := mBW_some h
            have a9 : mAv (wX8_takeLeastAmount_0) V V28 := mAv.tr a8 (NX8_removeBasis h9) (fun i z => by unfold wX8_removeBasis at z; unfold wX8_takeLeastAmount_0; omega)
            obtain ⟨_, rfl⟩ := mRW h
            exact a9
          · obtain ⟨x32, _, h⟩ := mLt_some h
            obtain ⟨c10, h⟩ := mGd_some h
            obtain ⟨c11, h⟩ := mGd_some h
            obtain ⟨c12, h⟩ := mGd_some h
            obtain ⟨v36, V37, h13, h⟩ := mBW_some h
            have a13 : mAv (wX8_takeLeastAmount_0) V V37 := mAv.tr a1 (NX8_movePoint h13) (fun i z => by unfold wX8_movePoint at z; unfold wX8_takeLeastAmount_0; omega)
            obtain ⟨v41, V42, h14, h⟩ := mBW_some h
            have a14 : mAv (wX8_takeLeastAmount_0) V V42 := mAv.tr a13 (NX8_removeBasis h14) (fun i z => by unfold wX8_removeBasis at z; unfold wX8_takeLeastAmount_0; omega)
            obtain ⟨_, rfl⟩ := mRW h
            exact a14
    · obtain ⟨c15, h⟩ := mGd_some h
      obtain ⟨c16, h⟩ := mGd_some h
      obtain ⟨c17, h⟩ := mGd_some h
      obtain ⟨V50, eV50, h⟩ := mLt_some h
      have a18 : mAv (wX8_takeLeastAmount_0) V V50 := by rw [eV50]; exact mAv.J mAv.rf (by unfold wX8_takeLeastAmount_0; omega)
      obtain ⟨x51, _, h⟩ := mLt_some h
      exact mAv.tr a18 (ih _ _ _ h) (fun i z => by unfold wX8_takeLeastAmount_0 at z; unfold wX8_takeLeastAmount_0; omega)
set_option maxHeartbeats 4000000 in
theorem NX8_takeLeastAmount {F : Nat} {V V1 : mV} {v : Unit} {l1I : Int32} (h : mX8_takeLeastAmount F l1I V = some (v, V1)) : mAv (wX8_takeLeastAmount) V V1 := by
  have ih := NX8_takeLeastAmount_go (F := F) (v := v) (V1 := V1) F
  unfold mX8_takeLeastAmount mX8_takeLeastAmount_s at h
  exact mAv.tr mAv.rf (ih _ _ _ h) (fun i z => by unfold wX8_takeLeastAmount_0 at z; unfold wX8_takeLeastAmount; omega)
def wX8_divide (l1A : Nat) (l2A : Nat) (i : Nat) : Prop := (68 ≤ i ∧ i ≤ 69)
def wX8_divide_0 (l2A : Nat) (i : Nat) : Prop := (68 ≤ i ∧ i ≤ 69)
def wX8_divide_1 (l2A : Nat) (i : Nat) : Prop := (68 ≤ i ∧ i ≤ 69)
def wX8_divide_2 (l2A : Nat) (i : Nat) : Prop := (68 ≤ i ∧ i ≤ 69)
set_option maxHeartbeats 4000000 in
theorem NX8_divide_go {F : Nat} {v : Unit} {V1 : mV} : ∀ k' : Nat, (∀ (l2A : Nat) (l4I : Int32) (l5J : Int64) (l7I : Int32) (V : mV), mX8_divide_go F k' 0 0 l2A l4I l5J l7I 0 0 V = some (v, V1) → mAv (wX8_divide_0 l2A) V V1) ∧ (∀ (l2A : Nat) (l4I : Int32) (l5J : Int64) (l7I : Int32) (l8I : Int32) (V : mV), mX8_divide_go F k' 1 0 l2A l4I l5J l7I l8I 0 V = some (v, V1) → mAv (wX8_divide_1 l2A) V V1) ∧ (∀ (l2A : Nat) (l4I : Int32) (l5J : Int64) (l7I : Int32) (l8J : Int64) (l10I : Int32) (V : mV), mX8_divide_go F k' 2 l10I l2A l4I l5J l7I 0 l8J V = some (v, V1) → mAv (wX8_divide_2 l2A) V V1) := by
  intro k'
  induction k' with
  | zero => exact ⟨(fun _ _ _ _ _ h => by cases h), (fun _ _ _ _ _ _ h => by cases h), (fun _ _ _ _ _ _ _ h => by cases h)⟩
  | succ k' ih =>
    refine ⟨?_, ?_, ?_⟩
    · intro l2A l4I l5J l7I V h
      rw [mX8_divide_go, if_pos rfl] at h
      unfold mX8_divide_b0 at h
      rcases mIf_some h with ⟨_, h⟩ | ⟨_, h⟩
      · obtain ⟨_, rfl⟩ := mRW h
        exact mAv.rf
      · rcases mIf_some h with ⟨_, h⟩ | ⟨_, h⟩
        · obtain ⟨_, rfl⟩ := mRW h
          exact mAv.rf
        · exact mAv.tr mAv.rf (ih.2.1 _ _ _ _ _ _ h) (fun i z => by unfold wX8_divide_1 at z; unfold wX8_divide_0; omega)
    · intro l2A l4I l5J l7I l8I V h
      rw [mX8_divide_go, if_neg (by decide), if_pos rfl] at h
      unfold mX8_divide_b1 at h
      rcases mIf_some h with ⟨_, h⟩ | ⟨_, h⟩
      · obtain ⟨c1, h⟩ := mGd_some h
        obtain ⟨c2, h⟩ := mGd_some h
        obtain ⟨x6, _, h⟩ := mLt_some h
        obtain ⟨c3, h⟩ := mGd_some h
        obtain ⟨V8, eV8, h⟩ := mLt_some h
        have a4 : mAv (wX8_divide_1 l2A) V V8 := by rw [eV8]; exact mAv.J mAv.rf (by unfold wX8_divide_1; omega)
        exact mAv.tr a4 (ih.2.2 _ _ _ _ _ _ _ h) (fun i z => by unfold wX8_divide_2 at z; unfold wX8_divide_1; omega)
      · obtain ⟨c5, h⟩ := mGd_some h
        obtain ⟨c6, h⟩ := mGd_some h
        obtain ⟨V11, eV11, h⟩ := mLt_some h
        have a7 : mAv (wX8_divide_1 l2A) V V11 := by rw [eV11]; exact mAv.J mAv.rf (by unfold wX8_divide_1; omega)
        obtain ⟨c8, h⟩ := mGd_some h
        obtain ⟨c9, h⟩ := mGd_some h
        obtain ⟨V14, eV14, h⟩ := mLt_some h
        have a10 : mAv (wX8_divide_1 l2A) V V14 := by rw [eV14]; exact mAv.J a7 (by unfold wX8_divide_1; omega)
        obtain ⟨x15, _, h⟩ := mLt_some h
        exact mAv.tr a10 (ih.2.1 _ _ _ _ _ _ h) (fun i z => by unfold wX8_divide_1 at z; unfold wX8_divide_1; omega)
    · intro l2A l4I l5J l7I l8J l10I V h
      rw [mX8_divide_go, if_neg (by decide), if_neg (by decide), if_pos rfl] at h
      unfold mX8_divide_b2 at h
      rcases mIf_some h with ⟨_, h⟩ | ⟨_, h⟩
      · obtain ⟨x17, _, h⟩ := mLt_some h
        exact mAv.tr mAv.rf (ih.1 _ _ _ _ _ h) (fun i z => by unfold wX8_divide_0 at z; unfold wX8_divide_2; omega)
      · obtain ⟨c11, h⟩ := mGd_some h
        obtain ⟨c12, h⟩ := mGd_some h
        obtain ⟨c13, h⟩ := mGd_some h
        obtain ⟨V21, eV21, h⟩ := mLt_some h
        have a14 : mAv (wX8_divide_2 l2A) V V21 := by rw [eV21]; exact mAv.J mAv.rf (by unfold wX8_divide_2; omega)
        obtain ⟨x22, _, h⟩ := mLt_some h
        exact mAv.tr a14 (ih.2.2 _ _ _ _ _ _ _ h) (fun i z => by unfold wX8_divide_2 at z; unfold wX8_divide_2; omega)
set_option maxHeartbeats 4000000 in
theorem NX8_divide {F : Nat} {V V1 : mV} {v : Unit} {l1A : Nat} {l2A : Nat} {l3I : Int32} {l4I : Int32} (h : mX8_divide F l1A l2A l3I l4I V = some (v, V1)) : mAv (wX8_divide l1A l2A) V V1 := by
  have ih := NX8_divide_go (F := F) (v := v) (V1 := V1) F
  unfold mX8_divide mX8_divide_s at h
  obtain ⟨c15, h⟩ := mGd_some h
  obtain ⟨c16, h⟩ := mGd_some h
  obtain ⟨c17, h⟩ := mGd_some h
  obtain ⟨c18, h⟩ := mGd_some h
  obtain ⟨c19, h⟩ := mGd_some h
  obtain ⟨V24, eV24, h⟩ := mLt_some h
  have a20 : mAv (wX8_divide l1A l2A) V V24 := by rw [eV24]; exact mAv.RJ mAv.rf (by unfold wX8_divide; omega)
  obtain ⟨v25, V26, h21, h⟩ := mBW_some h
  have a21 : mAv (wX8_divide l1A l2A) V V26 := mAv.tr a20 (NJ7_fill_d0a16 h21) (fun i z => by unfold wJ7_fill_d0a16 at z; unfold wX8_divide; omega)
  obtain ⟨c22, h⟩ := mGd_some h
  obtain ⟨x31, _, h⟩ := mLt_some h
  obtain ⟨x32, _, h⟩ := mLt_some h
  exact mAv.tr a21 (ih.1 _ _ _ _ _ h) (fun i z => by unfold wX8_divide_0 at z; unfold wX8_divide; omega)
def wX8_makeFree (l0A : Nat) (i : Nat) : Prop := i = l0A
def wX8_makeFree_0 (l0A : Nat) (i : Nat) : Prop := i = l0A
def wX8_makeFree_1 (l0A : Nat) (i : Nat) : Prop := i = l0A
set_option maxHeartbeats 4000000 in
theorem NX8_makeFree_go {F : Nat} {v : Unit} {V1 : mV} : ∀ k' : Nat, (∀ (l0A : Nat) (l1J : Int64) (l3I : Int32) (V : mV), mX8_makeFree_go F k' 0 l0A l1J l3I V = some (v, V1) → mAv (wX8_makeFree_0 l0A) V V1) ∧ (∀ (l0A : Nat) (l1J : Int64) (l3I : Int32) (V : mV), mX8_makeFree_go F k' 1 l0A l1J l3I V = some (v, V1) → mAv (wX8_makeFree_1 l0A) V V1) := by
  intro k'
  induction k' with
  | zero => exact ⟨(fun _ _ _ _ h => by cases h), (fun _ _ _ _ h => by cases h)⟩
  | succ k' ih =>
    refine ⟨?_, ?_⟩
    · intro l0A l1J l3I V h
      rw [mX8_makeFree_go, if_pos rfl] at h
      unfold mX8_makeFree_b0 at h
      rcases mIf_some h with ⟨_, h⟩ | ⟨_, h⟩
      · exact mAv.tr mAv.rf (ih.2 _ _ _ _ h) (fun i z => by unfold wX8_makeFree_1 at z; unfold wX8_makeFree_0; omega)
      · obtain ⟨c1, h⟩ := mGd_some h
        obtain ⟨v3, _, h⟩ := mBN_some h
        obtain ⟨x8, _, h⟩ := mLt_some h
        exact mAv.tr mAv.rf (ih.1 _ _ _ _ h) (fun i z => by unfold wX8_makeFree_0 at z; unfold wX8_makeFree_0; omega)
    · intro l0A l1J l3I V h
      rw [mX8_makeFree_go, if_neg (by decide), if_pos rfl] at h
      unfold mX8_makeFree_b1 at h
      rcases mIf_some h with ⟨_, h⟩ | ⟨_, h⟩
      · obtain ⟨_, rfl⟩ := mRW h
        exact mAv.rf
      · rcases mIf_some h with ⟨_, h⟩ | ⟨_, h⟩
        · obtain ⟨_, rfl⟩ := mRW h
          exact mAv.rf
        · obtain ⟨c2, h⟩ := mGd_some h
          obtain ⟨c3, h⟩ := mGd_some h
          obtain ⟨c4, h⟩ := mGd_some h
          obtain ⟨V14, eV14, h⟩ := mLt_some h
          have a5 : mAv (wX8_makeFree_1 l0A) V V14 := by rw [eV14]; exact mAv.J mAv.rf (by unfold wX8_makeFree_1; omega)
          obtain ⟨x15, _, h⟩ := mLt_some h
          exact mAv.tr a5 (ih.2 _ _ _ _ h) (fun i z => by unfold wX8_makeFree_1 at z; unfold wX8_makeFree_1; omega)
set_option maxHeartbeats 4000000 in
theorem NX8_makeFree {F : Nat} {V V1 : mV} {v : Unit} {l0A : Nat} (h : mX8_makeFree F l0A V = some (v, V1)) : mAv (wX8_makeFree l0A) V V1 := by
  have ih := NX8_makeFree_go (F := F) (v := v) (V1 := V1) F
  unfold mX8_makeFree mX8_makeFree_s at h
  exact mAv.tr mAv.rf (ih.1 _ _ _ _ h) (fun i z => by unfold wX8_makeFree_0 at z; unfold wX8_makeFree; omega)
end
