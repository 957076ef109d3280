/-! WHAT EACH METHOD LEAVES ALONE: X2_loadEdges, X2_judgeDrawing, X2_areWaysOf, X4_leftSide, X4_bringPairs, X4_bringNodes, X5_loadUnknowns, X5_loadWeights, X5_isFulfilled, X5_minimise, X5_writeLeast. -/
section
def wX2_loadEdges (l1A : Nat) (i : Nat) : Prop := i = 3 ∨ (27 ≤ i ∧ i ≤ 30) ∨ i = 33
def wX2_loadEdges_0 (i : Nat) : Prop := i = 3 ∨ (29 ≤ i ∧ i ≤ 30) ∨ i = 33
def wX2_loadEdges_1 (i : Nat) : Prop := i = 3 ∨ (29 ≤ i ∧ i ≤ 30) ∨ i = 33
set_option maxHeartbeats 4000000 in
theorem NX2_loadEdges_go {F : Nat} {v : Unit} {V1 : mV} : ∀ k' : Nat, (∀ (l3I : Int32) (V : mV), mX2_loadEdges_go F k' 0 l3I 0 V = some (v, V1) → mAv (wX2_loadEdges_0) V V1) ∧ (∀ (l3I : Int32) (l4I : Int32) (V : mV), mX2_loadEdges_go F k' 1 l3I l4I V = some (v, V1) → mAv (wX2_loadEdges_1) V V1) := by
  intro k'
  induction k' with
  | zero => exact ⟨(fun _ _ h => by cases h), (fun _ _ _ h => by cases h)⟩
  | succ k' ih =>
    refine ⟨?_, ?_⟩
    · intro l3I V h
      rw [mX2_loadEdges_go, if_pos rfl] at h
      unfold mX2_loadEdges_b0 at h
      rcases mIf_some h with ⟨_, h⟩ | ⟨_, h⟩
      · obtain ⟨_, rfl⟩ := mRW h
        exact mAv.rf
      · obtain ⟨c1, h⟩ := mGd_some h
        obtain ⟨V3, eV3, h⟩ := mLt_some h
        have a2 : mAv (wX2_loadEdges_0) V V3 := by rw [eV3]; exact mAv.I mAv.rf (by unfold wX2_loadEdges_0; omega)
        obtain ⟨c3, h⟩ := mGd_some h
        obtain ⟨v5, _, h⟩ := mBN_some h
        exact mAv.tr a2 (ih.2 _ _ _ h) (fun i z => by unfold wX2_loadEdges_1 at z; unfold wX2_loadEdges_0; omega)
    · intro l3I l4I V h
      rw [mX2_loadEdges_go, if_neg (by decide), if_pos rfl] at h
      unfold mX2_loadEdges_b1 at h
      rcases mIf_some h with ⟨_, h⟩ | ⟨_, h⟩
      · obtain ⟨v11, _, h⟩ := mBN_some h
        obtain ⟨c4, h⟩ := mGd_some h
        obtain ⟨V17, eV17, h⟩ := mLt_some h
        have a5 : mAv (wX2_loadEdges_1) V V17 := by rw [eV17]; exact mAv.I mAv.rf (by unfold wX2_loadEdges_1; omega)
        obtain ⟨x18, _, h⟩ := mLt_some h
        exact mAv.tr a5 (ih.1 _ _ h) (fun i z => by unfold wX2_loadEdges_0 at z; unfold wX2_loadEdges_1; omega)
      · rcases mIf_some h with ⟨_, h⟩ | ⟨_, h⟩
        · obtain ⟨v20, _, h⟩ := mBN_some h
          obtain ⟨c6, h⟩ := mGd_some h
          obtain ⟨V26, eV26, h⟩ := mLt_some h
          have a7 : mAv (wX2_loadEdges_1) V V26 := by rw [eV26]; exact mAv.I mAv.rf (by unfold wX2_loadEdges_1; omega)
          obtain ⟨x27, _, h⟩ := mLt_some h
          exact mAv.tr a7 (ih.1 _ _ h) (fun i z => by unfold wX2_loadEdges_0 at z; unfold wX2_loadEdges_1; omega)
        · obtain ⟨c8, h⟩ := mGd_some h
          obtain ⟨V29, eV29, h⟩ := mLt_some h
          have a9 : mAv (wX2_loadEdges_1) V V29 := by rw [eV29]; exact mAv.I mAv.rf (by unfold wX2_loadEdges_1; omega)
          obtain ⟨V30, eV30, h⟩ := mLt_some h
          have a10 : mAv (wX2_loadEdges_1) V V30 := by rw [eV30]; exact mAv.F a9 (by unfold wX2_loadEdges_1; omega)
          obtain ⟨x31, _, h⟩ := mLt_some h
          exact mAv.tr a10 (ih.2 _ _ _ h) (fun i z => by unfold wX2_loadEdges_1 at z; unfold wX2_loadEdges_1; omega)
set_option maxHeartbeats 4000000 in
theorem NX2_loadEdges {F : Nat} {V V1 : mV} {v : Unit} {l1A : Nat} {l2I : Int32} (h : mX2_loadEdges F l1A l2I V = some (v, V1)) : mAv (wX2_loadEdges l1A) V V1 := by
  have ih := NX2_loadEdges_go (F := F) (v := v) (V1 := V1) F
  unfold mX2_loadEdges mX2_loadEdges_s at h
  obtain ⟨v32, V33, h11, h⟩ := mBW_some h
  have a11 : mAv (wX2_loadEdges l1A) V V33 := mAv.tr mAv.rf (NX3_fillNear h11) (fun i z => by unfold wX3_fillNear at z; unfold wX2_loadEdges; omega)
  obtain ⟨v37, V38, h12, h⟩ := mBW_some h
  have a12 : mAv (wX2_loadEdges l1A) V V38 := mAv.tr a11 (NJ7_fill_53178 h12) (fun i z => by unfold wJ7_fill_53178 at z; unfold wX2_loadEdges; omega)
  obtain ⟨V42, eV42, h⟩ := mLt_some h
  have a13 : mAv (wX2_loadEdges l1A) V V42 := by rw [eV42]; exact mAv.F a12 (by unfold wX2_loadEdges; omega)
  obtain ⟨V43, eV43, h⟩ := mLt_some h
  have a14 : mAv (wX2_loadEdges l1A) V V43 := by rw [eV43]; exact mAv.F a13 (by unfold wX2_loadEdges; omega)
  exact mAv.tr a14 (ih.1 _ _ h) (fun i z => by unfold wX2_loadEdges_0 at z; unfold wX2_loadEdges; omega)
def wX2_judgeDrawing (l1A : Nat) (l2A : Nat) (i : Nat) : Prop := i = 3 ∨ (27 ≤ i ∧ i ≤ 33)
def wX2_judgeDrawing_0 (l2A : Nat) (i : Nat) : Prop := i = 28 ∨ (31 ≤ i ∧ i ≤ 32)
set_option maxHeartbeats 4000000 in
theorem NX2_judgeDrawing_go {F : Nat} {v : Int32} {V1 : mV} : ∀ k' : Nat, (∀ (l2A : Nat) (l3I : Int32) (Ln : Nat → Nat) (V : mV), mX2_judgeDrawing_go F k' 0 Ln l2A l3I V = some (v, V1) → mAv (wX2_judgeDrawing_0 l2A) V V1) := by
  intro k'
  induction k' with
  | zero => exact (fun _ _ _ _ h => by cases h)
  | succ k' ih =>
    intro l2A l3I Ln V h
    rw [mX2_judgeDrawing_go, if_pos rfl] at h
    unfold mX2_judgeDrawing_b0 at h
    rcases mIf_some h with ⟨_, h⟩ | ⟨_, h⟩
    · obtain ⟨v2, _, h⟩ := mBN_some h
      obtain ⟨c1, h⟩ := mGd_some h
      rcases mIf_some h with ⟨_, h⟩ | ⟨_, h⟩
      · obtain ⟨_, rfl⟩ := mRW h
        exact mAv.rf
      · obtain ⟨_, rfl⟩ := mRW h
        exact mAv.rf
    · obtain ⟨c2, h⟩ := mGd_some h
      obtain ⟨x10, _, h⟩ := mLt_some h
      obtain ⟨v11, _, h⟩ := mBN_some h
      rcases mIf_some h with ⟨_, h⟩ | ⟨_, h⟩
      · obtain ⟨_, rfl⟩ := mRW h
        exact mAv.rf
      · rcases mIf_some h with ⟨_, h⟩ | ⟨_, h⟩
        · obtain ⟨_, rfl⟩ := mRW h
          exact mAv.rf
        · obtain ⟨c3, h⟩ := mGd_some h
          obtain ⟨c4, h⟩ := mGd_some h
          obtain ⟨v20, _, h⟩ := mBN_some h
          rcases mIf_some h with ⟨_, h⟩ | ⟨_, h⟩
          · obtain ⟨_, rfl⟩ := mRW h
            exact mAv.rf
          · obtain ⟨c5, h⟩ := mGd_some h
            rcases mIf_some h with ⟨_, h⟩ | ⟨_, h⟩
            · obtain ⟨c6, h⟩ := mGd_some h
              obtain ⟨v38, _, h⟩ := mBN_some h
              rcases mIf_some h with ⟨_, h⟩ | ⟨_, h⟩
              · obtain ⟨c7, h⟩ := mGd_some h
                obtain ⟨c8, h⟩ := mGd_some h
                obtain ⟨V46, eV46, h⟩ := mLt_some h
                have a9 : mAv (wX2_judgeDrawing_0 l2A) V V46 := by rw [eV46]; exact mAv.I mAv.rf (by unfold wX2_judgeDrawing_0; omega)
                obtain ⟨v47, V48, h10, h⟩ := mBW_some h
                have a10 : mAv (wX2_judgeDrawing_0 l2A) V V48 := mAv.tr a9 (NX2_setPlace h10) (fun i z => by unfold wX2_setPlace at z; unfold wX2_judgeDrawing_0; omega)
                obtain ⟨x52, _, h⟩ := mLt_some h
                exact mAv.tr a10 (ih _ _ _ _ h) (fun i z => by unfold wX2_judgeDrawing_0 at z; unfold wX2_judgeDrawing_0; omega)
              · obtain ⟨_, rfl⟩ := mRW h
                exact mAv.rf
            · obtain ⟨c11, h⟩ := mGd_some h
              obtain ⟨c12, h⟩ := mGd_some h
              obtain ⟨V30, eV30, h⟩ := mLt_some h
              have a13 : mAv (wX2_judgeDrawing_0 l2A) V V30 := by rw [eV30]; exact mAv.I mAv.rf (by unfold wX2_judgeDrawing_0; omega)
              obtain ⟨v31, V32, h14, h⟩ := mBW_some h
              have a14 : mAv (wX2_judgeDrawing_0 l2A) V V32 := mAv.tr a13 (NX2_setPlace h14) (fun i z => by unfold wX2_setPlace at z; unfold wX2_judgeDrawing_0; omega)
              obtain ⟨x36, _, h⟩ := mLt_some h
              exact mAv.tr a14 (ih _ _ _ _ h) (fun i z => by unfold wX2_judgeDrawing_0 at z; unfold wX2_judgeDrawing_0; omega)
set_option maxHeartbeats 4000000 in
theorem NX2_judgeDrawing {F : Nat} {Ln : Nat → Nat} {V V1 : mV} {v : Int32} {l1A : Nat} {l2A : Nat} (h : mX2_judgeDrawing F Ln l1A l2A V = some (v, V1)) : mAv (wX2_judgeDrawing l1A l2A) V V1 := by
  have ih := NX2_judgeDrawing_go (F := F) (v := v) (V1 := V1) F
  unfold mX2_judgeDrawing mX2_judgeDrawing_s at h
  obtain ⟨v53, _, h⟩ := mBN_some h
  obtain ⟨v58, V59, h15, h⟩ := mBW_some h
  have a15 : mAv (wX2_judgeDrawing l1A l2A) V V59 := mAv.tr mAv.rf (NX2_loadEdges h15) (fun i z => by unfold wX2_loadEdges at z; unfold wX2_judgeDrawing; omega)
  rcases mIf_some h with ⟨_, h⟩ | ⟨_, h⟩
  · exact mAv.tr a15 (ih _ _ _ _ h) (fun i z => by unfold wX2_judgeDrawing_0 at z; unfold wX2_judgeDrawing; omega)
  · obtain ⟨_, rfl⟩ := mRW h
    exact a15
def wX2_areWaysOf (i : Nat) : Prop := i = 34
def wX2_areWaysOf_0 (i : Nat) : Prop := i = 34
def wX2_areWaysOf_1 (i : Nat) : Prop := i = 34
set_option maxHeartbeats 4000000 in
theorem NX2_areWaysOf_go {F : Nat} {v : Int32} {V1 : mV} : ∀ k' : Nat, (∀ (l1I : Int32) (l2I : Int32) (l3I : Int32) (V : mV), mX2_areWaysOf_go F k' 0 l1I l2I l3I 0 V = some (v, V1) → mAv (wX2_areWaysOf_0) V V1) ∧ (∀ (l1I : Int32) (l2I : Int32) (l3I : Int32) (l4I : Int32) (V : mV), mX2_areWaysOf_go F k' 1 l1I l2I l3I l4I V = some (v, V1) → mAv (wX2_areWaysOf_1) V V1) := by
  intro k'
  induction k' with
  | zero => exact ⟨(fun _ _ _ _ h => by cases h), (fun _ _ _ _ _ h => by cases h)⟩
  | succ k' ih =>
    refine ⟨?_, ?_⟩
    · intro l1I l2I l3I V h
      rw [mX2_areWaysOf_go, if_pos rfl] at h
      unfold mX2_areWaysOf_b0 at h
      rcases mIf_some h with ⟨_, h⟩ | ⟨_, h⟩
      · rcases mIf_some h with ⟨_, h⟩ | ⟨_, h⟩
        · rcases mIf_some h with ⟨_, h⟩ | ⟨_, h⟩
          · obtain ⟨_, rfl⟩ := mRW h
            exact mAv.rf
          · obtain ⟨v4, _, h⟩ := mBN_some h
            rcases mIf_some h with ⟨_, h⟩ | ⟨_, h⟩
            · obtain ⟨_, rfl⟩ := mRW h
              exact mAv.rf
            · obtain ⟨_, rfl⟩ := mRW h
              exact mAv.rf
        · obtain ⟨_, rfl⟩ := mRW h
          exact mAv.rf
      · exact mAv.tr mAv.rf (ih.2 _ _ _ _ _ h) (fun i z => by unfold wX2_areWaysOf_1 at z; unfold wX2_areWaysOf_0; omega)
    · intro l1I l2I l3I l4I V h
      rw [mX2_areWaysOf_go, if_neg (by decide), if_pos rfl] at h
      unfold mX2_areWaysOf_b1 at h
      rcases mIf_some h with ⟨_, h⟩ | ⟨_, h⟩
      · obtain ⟨x11, _, h⟩ := mLt_some h
        exact mAv.tr mAv.rf (ih.1 _ _ _ _ h) (fun i z => by unfold wX2_areWaysOf_0 at z; unfold wX2_areWaysOf_1; omega)
      · obtain ⟨c1, h⟩ := mGd_some h
        obtain ⟨v13, _, h⟩ := mBN_some h
        rcases mIf_some h with ⟨_, h⟩ | ⟨_, h⟩
        · obtain ⟨x19, _, h⟩ := mLt_some h
          exact mAv.tr mAv.rf (ih.2 _ _ _ _ _ h) (fun i z => by unfold wX2_areWaysOf_1 at z; unfold wX2_areWaysOf_1; omega)
        · obtain ⟨c2, h⟩ := mGd_some h
          obtain ⟨v21, _, h⟩ := mBN_some h
          rcases mIf_some h with ⟨_, h⟩ | ⟨_, h⟩
          · obtain ⟨x27, _, h⟩ := mLt_some h
            exact mAv.tr mAv.rf (ih.2 _ _ _ _ _ h) (fun i z => by unfold wX2_areWaysOf_1 at z; unfold wX2_areWaysOf_1; omega)
          · obtain ⟨v28, V29, h3, h⟩ := mBW_some h
            have a3 : mAv (wX2_areWaysOf_1) V V29 := mAv.tr mAv.rf (NX2_followWay h3) (fun i z => by unfold wX2_followWay at z; unfold wX2_areWaysOf_1; omega)
            rcases mIf_some h with ⟨_, h⟩ | ⟨_, h⟩
            · obtain ⟨_, rfl⟩ := mRW h
              exact a3
            · obtain ⟨x34, _, h⟩ := mLt_some h
              obtain ⟨x35, _, h⟩ := mLt_some h
              exact mAv.tr a3 (ih.2 _ _ _ _ _ h) (fun i z => by unfold wX2_areWaysOf_1 at z; unfold wX2_areWaysOf_1; omega)
set_option maxHeartbeats 4000000 in
theorem NX2_areWaysOf {F : Nat} {V V1 : mV} {v : Int32} {l1I : Int32} (h : mX2_areWaysOf F l1I V = some (v, V1)) : mAv (wX2_areWaysOf) V V1 := by
  have ih := NX2_areWaysOf_go (F := F) (v := v) (V1 := V1) F
  unfold mX2_areWaysOf mX2_areWaysOf_s at h
  obtain ⟨v36, V37, h4, h⟩ := mBW_some h
  have a4 : mAv (wX2_areWaysOf) V V37 := mAv.tr mAv.rf (NJ7_fill_53178 h4) (fun i z => by unfold wJ7_fill_53178 at z; unfold wX2_areWaysOf; omega)
  exact mAv.tr a4 (ih.1 _ _ _ _ h) (fun i z => by unfold wX2_areWaysOf_0 at z; unfold wX2_areWaysOf; omega)
def wX4_leftSide (l1A : Nat) (i : Nat) : Prop := i = 18
def wX4_leftSide_0 (l1A : Nat) (i : Nat) : Prop := i < 0
def wX4_leftSide_1 (l1A : Nat) (i : Nat) : Prop := i < 0
set_option maxHeartbeats 4000000 in
theorem NX4_leftSide_go {F : Nat} {v : Int32} {V1 : mV} : ∀ k' : Nat, (∀ (l1A : Nat) (l2I : Int32) (l3I : Int32) (l4I : Int32) (V : mV), mX4_leftSide_go F k' 0 l1A l2I l3I l4I 0 V = some (v, V1) → mAv (wX4_leftSide_0 l1A) V V1) ∧ (∀ (l1A : Nat) (l2I : Int32) (l3I : Int32) (l4I : Int32) (l5I : Int32) (V : mV), mX4_leftSide_go F k' 1 l1A l2I l3I l4I l5I V = some (v, V1) → mAv (wX4_leftSide_1 l1A) V V1) := by
  intro k'
  induction k' with
  | zero => exact ⟨(fun _ _ _ _ _ h => by cases h), (fun _ _ _ _ _ _ h => by cases h)⟩
  | succ k' ih =>
    refine ⟨?_, ?_⟩
    · intro l1A l2I l3I l4I V h
      rw [mX4_leftSide_go, if_pos rfl] at h
      unfold mX4_leftSide_b0 at h
      rcases mIf_some h with ⟨_, h⟩ | ⟨_, h⟩
      · rcases mIf_some h with ⟨_, h⟩ | ⟨_, h⟩
        · obtain ⟨_, rfl⟩ := mRW h
          exact mAv.rf
        · obtain ⟨_, rfl⟩ := mRW h
          exact mAv.rf
      · obtain ⟨v3, _, h⟩ := mBN_some h
        rcases mIf_some h with ⟨_, h⟩ | ⟨_, h⟩
        · obtain ⟨x9, _, h⟩ := mLt_some h
          exact mAv.tr mAv.rf (ih.2 _ _ _ _ _ _ h) (fun i z => by unfold wX4_leftSide_1 at z; unfold wX4_leftSide_0; omega)
        · exact mAv.tr mAv.rf (ih.2 _ _ _ _ _ _ h) (fun i z => by unfold wX4_leftSide_1 at z; unfold wX4_leftSide_0; omega)
    · intro l1A l2I l3I l4I l5I V h
      rw [mX4_leftSide_go, if_neg (by decide), if_pos rfl] at h
      unfold mX4_leftSide_b1 at h
      rcases mIf_some h with ⟨_, h⟩ | ⟨_, h⟩
      · obtain ⟨x11, _, h⟩ := mLt_some h
        exact mAv.tr mAv.rf (ih.1 _ _ _ _ _ h) (fun i z => by unfold wX4_leftSide_0 at z; unfold wX4_leftSide_1; omega)
      · obtain ⟨v12, _, h⟩ := mBN_some h
        obtain ⟨x17, _, h⟩ := mLt_some h
        obtain ⟨v18, _, h⟩ := mBN_some h
        obtain ⟨x23, _, h⟩ := mLt_some h
        obtain ⟨x24, _, h⟩ := mLt_some h
        exact mAv.tr mAv.rf (ih.2 _ _ _ _ _ _ h) (fun i z => by unfold wX4_leftSide_1 at z; unfold wX4_leftSide_1; omega)
set_option maxHeartbeats 4000000 in
theorem NX4_leftSide {F : Nat} {V V1 : mV} {v : Int32} {l1A : Nat} (h : mX4_leftSide F l1A V = some (v, V1)) : mAv (wX4_leftSide l1A) V V1 := by
  have ih := NX4_leftSide_go (F := F) (v := v) (V1 := V1) F
  unfold mX4_leftSide mX4_leftSide_s at h
  obtain ⟨v25, V26, h1, h⟩ := mBW_some h
  have a1 : mAv (wX4_leftSide l1A) V V26 := mAv.tr mAv.rf (NX3_fillNear h1) (fun i z => by unfold wX3_fillNear at z; unfold wX4_leftSide; omega)
  exact mAv.tr a1 (ih.1 _ _ _ _ _ h) (fun i z => by unfold wX4_leftSide_0 at z; unfold wX4_leftSide; omega)
def wX4_bringPairs (l0A : Nat) (l2A : Nat) (l3A : Nat) (i : Nat) : Prop := i = l3A ∨ i = l3A + 1
def wX4_bringPairs_0 (l0A : Nat) (l2A : Nat) (l3A : Nat) (i : Nat) : Prop := i = l3A ∨ i = l3A + 1
def wX4_bringPairs_1 (l0A : Nat) (l2A : Nat) (l3A : Nat) (i : Nat) : Prop := i = l3A + 1
set_option maxHeartbeats 4000000 in
theorem NX4_bringPairs_go {F : Nat} {v : Unit} {Ln1 : Nat → Nat} {V1 : mV} : ∀ k' : Nat, (∀ (l0A : Nat) (l1I : Int32) (l2A : Nat) (l3A : Nat) (l4I : Int32) (Ln : Nat → Nat) (V : mV), mX4_bringPairs_go F k' 0 Ln l0A l1I l2A l3A l4I V = some (v, Ln1, V1) → mAv (wX4_bringPairs_0 l0A l2A l3A) V V1 ∧ mAl (wX4_bringPairs_0 l0A l2A l3A) Ln Ln1) ∧ (∀ (l0A : Nat) (l1I : Int32) (l2A : Nat) (l3A : Nat) (l4I : Int32) (Ln : Nat → Nat) (V : mV), mX4_bringPairs_go F k' 1 Ln l0A l1I l2A l3A l4I V = some (v, Ln1, V1) → mAv (wX4_bringPairs_1 l0A l2A l3A) V V1 ∧ mAl (wX4_bringPairs_1 l0A l2A l3A) Ln Ln1) := by
  intro k'
  induction k' with
  | zero => exact ⟨(fun _ _ _ _ _ _ _ h => by cases h), (fun _ _ _ _ _ _ _ h => by cases h)⟩
  | succ k' ih =>
    refine ⟨?_, ?_⟩
    · intro l0A l1I l2A l3A l4I Ln V h
      rw [mX4_bringPairs_go, if_pos rfl] at h
      unfold mX4_bringPairs_b0 at h
      rcases mIf_some h with ⟨_, h⟩ | ⟨_, h⟩
      · have y := ih.2 _ _ _ _ _ _ _ h
        exact ⟨mAv.tr mAv.rf y.1 (fun i z => by unfold wX4_bringPairs_1 at z; unfold wX4_bringPairs_0; omega), mAl.tr mAl.rf y.2 (fun i z => by unfold wX4_bringPairs_1 at z; unfold wX4_bringPairs_0; omega)⟩
      · obtain ⟨v2, L3, V3, h1, h⟩ := mBA_some h
        have y1 := NX9_add h1
        have a1 : mAv (wX4_bringPairs_0 l0A l2A l3A) V V3 := mAv.tr mAv.rf y1.1 (fun i z => by unfold wX9_add at z; unfold wX4_bringPairs_0; omega)
        have b1 : mAl (wX4_bringPairs_0 l0A l2A l3A) Ln L3 := mAl.tr mAl.rf y1.2 (fun i z => by unfold wX9_add at z; unfold wX4_bringPairs_0; omega)
        obtain ⟨x7, _, h⟩ := mLt_some h
        have y := ih.1 _ _ _ _ _ _ _ h
        exact ⟨mAv.tr a1 y.1 (fun i z => by unfold wX4_bringPairs_0 at z; unfold wX4_bringPairs_0; omega), mAl.tr b1 y.2 (fun i z => by unfold wX4_bringPairs_0 at z; unfold wX4_bringPairs_0; omega)⟩
    · intro l0A l1I l2A l3A l4I Ln V h
      rw [mX4_bringPairs_go, if_neg (by decide), if_pos rfl] at h
      unfold mX4_bringPairs_b1 at h
      rcases mIf_some h with ⟨_, h⟩ | ⟨_, h⟩
      · obtain ⟨_, rfl, rfl⟩ := mRA3 h
        exact ⟨mAv.rf, mAl.rf⟩
      · obtain ⟨v9, _, h⟩ := mBN_some h
        rcases mIf_some h with ⟨_, h⟩ | ⟨_, h⟩
        · obtain ⟨v16, _, h⟩ := mBN_some h
          obtain ⟨v21, _, h⟩ := mBN_some h
          obtain ⟨v26, V27, h2, h⟩ := mBW_some h
          have a2 : mAv (wX4_bringPairs_1 l0A l2A l3A) V V27 := mAv.tr mAv.rf (NX9_set h2) (fun i z => by unfold wX9_set at z; unfold wX4_bringPairs_1; omega)
          obtain ⟨v31, _, h⟩ := mBN_some h
          obtain ⟨v36, _, h⟩ := mBN_some h
          obtain ⟨v41, V42, h3, h⟩ := mBW_some h
          have a3 : mAv (wX4_bringPairs_1 l0A l2A l3A) V V42 := mAv.tr a2 (NX9_set h3) (fun i z => by unfold wX9_set at z; unfold wX4_bringPairs_1; omega)
          obtain ⟨x46, _, h⟩ := mLt_some h
          have y := ih.2 _ _ _ _ _ _ _ h
          exact ⟨mAv.tr a3 y.1 (fun i z => by unfold wX4_bringPairs_1 at z; unfold wX4_bringPairs_1; omega), mAl.tr mAl.rf y.2 (fun i z => by unfold wX4_bringPairs_1 at z; unfold wX4_bringPairs_1; omega)⟩
        · obtain ⟨x15, _, h⟩ := mLt_some h
          have y := ih.2 _ _ _ _ _ _ _ h
          exact ⟨mAv.tr mAv.rf y.1 (fun i z => by unfold wX4_bringPairs_1 at z; unfold wX4_bringPairs_1; omega), mAl.tr mAl.rf y.2 (fun i z => by unfold wX4_bringPairs_1 at z; unfold wX4_bringPairs_1; omega)⟩
set_option maxHeartbeats 4000000 in
theorem NX4_bringPairs {F : Nat} {Ln Ln1 : Nat → Nat} {V V1 : mV} {v : Unit} {l0A : Nat} {l1I : Int32} {l2A : Nat} {l3A : Nat} (h : mX4_bringPairs F Ln l0A l1I l2A l3A V = some (v, Ln1, V1)) : mAv (wX4_bringPairs l0A l2A l3A) V V1 ∧ mAl (wX4_bringPairs l0A l2A l3A) Ln Ln1 := by
  have ih := NX4_bringPairs_go (F := F) (v := v) (Ln1 := Ln1) (V1 := V1) F
  unfold mX4_bringPairs mX4_bringPairs_s at h
  have y := ih.1 _ _ _ _ _ _ _ h
  exact ⟨mAv.tr mAv.rf y.1 (fun i z => by unfold wX4_bringPairs_0 at z; unfold wX4_bringPairs; omega), mAl.tr mAl.rf y.2 (fun i z => by unfold wX4_bringPairs_0 at z; unfold wX4_bringPairs; omega)⟩
def wX4_bringNodes (l1A : Nat) (l2A : Nat) (l3A : Nat) (i : Nat) : Prop := i = 18 ∨ i = l3A ∨ i = l3A + 1
def wX4_bringNodes_0 (l1A : Nat) (l2A : Nat) (l3A : Nat) (i : Nat) : Prop := i = l3A ∨ i = l3A + 1
set_option maxHeartbeats 4000000 in
theorem NX4_bringNodes_go {F : Nat} {v : Unit} {Ln1 : Nat → Nat} {V1 : mV} : ∀ k' : Nat, (∀ (l1A : Nat) (l2A : Nat) (l3A : Nat) (l4I : Int32) (l5I : Int32) (Ln : Nat → Nat) (V : mV), mX4_bringNodes_go F k' 0 Ln l1A l2A l3A l4I l5I V = some (v, Ln1, V1) → mAv (wX4_bringNodes_0 l1A l2A l3A) V V1 ∧ mAl (wX4_bringNodes_0 l1A l2A l3A) Ln Ln1) := by
  intro k'
  induction k' with
  | zero => exact (fun _ _ _ _ _ _ _ h => by cases h)
  | succ k' ih =>
    intro l1A l2A l3A l4I l5I Ln V h
    rw [mX4_bringNodes_go, if_pos rfl] at h
    unfold mX4_bringNodes_b0 at h
    rcases mIf_some h with ⟨_, h⟩ | ⟨_, h⟩
    · obtain ⟨_, rfl, rfl⟩ := mRA3 h
      exact ⟨mAv.rf, mAl.rf⟩
    · obtain ⟨v2, _, h⟩ := mBN_some h
      obtain ⟨v7, _, h⟩ := mBN_some h
      rcases mIf_some h with ⟨_, h⟩ | ⟨_, h⟩
      · obtain ⟨x13, _, h⟩ := mLt_some h
        have y := ih _ _ _ _ _ _ _ h
        exact ⟨mAv.tr mAv.rf y.1 (fun i z => by unfold wX4_bringNodes_0 at z; unfold wX4_bringNodes_0; omega), mAl.tr mAl.rf y.2 (fun i z => by unfold wX4_bringNodes_0 at z; unfold wX4_bringNodes_0; omega)⟩
      · obtain ⟨v14, L15, V15, h1, h⟩ := mBA_some h
        have y1 := NX9_add h1
        have a1 : mAv (wX4_bringNodes_0 l1A l2A l3A) V V15 := mAv.tr mAv.rf y1.1 (fun i z => by unfold wX9_add at z; unfold wX4_bringNodes_0; omega)
        have b1 : mAl (wX4_bringNodes_0 l1A l2A l3A) Ln L15 := mAl.tr mAl.rf y1.2 (fun i z => by unfold wX9_add at z; unfold wX4_bringNodes_0; omega)
        obtain ⟨x19, _, h⟩ := mLt_some h
        have y := ih _ _ _ _ _ _ _ h
        exact ⟨mAv.tr a1 y.1 (fun i z => by unfold wX4_bringNodes_0 at z; unfold wX4_bringNodes_0; omega), mAl.tr b1 y.2 (fun i z => by unfold wX4_bringNodes_0 at z; unfold wX4_bringNodes_0; omega)⟩
set_option maxHeartbeats 4000000 in
theorem NX4_bringNodes {F : Nat} {Ln Ln1 : Nat → Nat} {V V1 : mV} {v : Unit} {l1A : Nat} {l2A : Nat} {l3A : Nat} (h : mX4_bringNodes F Ln l1A l2A l3A V = some (v, Ln1, V1)) : mAv (wX4_bringNodes l1A l2A l3A) V V1 ∧ mAl (wX4_bringNodes l1A l2A l3A) Ln Ln1 := by
  have ih := NX4_bringNodes_go (F := F) (v := v) (Ln1 := Ln1) (V1 := V1) F
  unfold mX4_bringNodes mX4_bringNodes_s at h
  obtain ⟨v20, V21, h2, h⟩ := mBW_some h
  have a2 : mAv (wX4_bringNodes l1A l2A l3A) V V21 := mAv.tr mAv.rf (NX4_leftSide h2) (fun i z => by unfold wX4_leftSide at z; unfold wX4_bringNodes; omega)
  have y := ih _ _ _ _ _ _ _ h
  exact ⟨mAv.tr a2 y.1 (fun i z => by unfold wX4_bringNodes_0 at z; unfold wX4_bringNodes; omega), mAl.tr mAl.rf y.2 (fun i z => by unfold wX4_bringNodes_0 at z; unfold wX4_bringNodes; omega)⟩
def wX5_loadUnknowns (l1A : Nat) (i : Nat) : Prop := i = 4 ∨ (36 ≤ i ∧ i ≤ 51)
def wX5_loadUnknowns_0 (l1A : Nat) (i : Nat) : Prop := i = 4 ∨ (36 ≤ i ∧ i ≤ 51)
def wX5_loadUnknowns_1 (l1A : Nat) (i : Nat) : Prop := i = 4 ∨ (36 ≤ i ∧ i ≤ 51)
set_option maxHeartbeats 4000000 in
theorem NX5_loadUnknowns_go {F : Nat} {v : Unit} {V1 : mV} : ∀ k' : Nat, (∀ (l1A : Nat) (l2I : Int32) (V : mV), mX5_loadUnknowns_go F k' 0 l1A l2I 0 0 V = some (v, V1) → mAv (wX5_loadUnknowns_0 l1A) V V1) ∧ (∀ (l1A : Nat) (l2I : Int32) (l3I : Int32) (l4I : Int32) (V : mV), mX5_loadUnknowns_go F k' 1 l1A l2I l3I l4I V = some (v, V1) → mAv (wX5_loadUnknowns_1 l1A) V V1) := by
  intro k'
  induction k' with
  | zero => exact ⟨(fun _ _ _ h => by cases h), (fun _ _ _ _ _ h => by cases h)⟩
  | succ k' ih =>
    refine ⟨?_, ?_⟩
    · intro l1A l2I V h
      rw [mX5_loadUnknowns_go, if_pos rfl] at h
      unfold mX5_loadUnknowns_b0 at h
      rcases mIf_some h with ⟨_, h⟩ | ⟨_, h⟩
      · obtain ⟨v2, V3, h1, h⟩ := mBW_some h
        have a1 : mAv (wX5_loadUnknowns_0 l1A) V V3 := mAv.tr mAv.rf (NX5_begin h1) (fun i z => by unfold wX5_begin at z; unfold wX5_loadUnknowns_0; omega)
        obtain ⟨_, rfl⟩ := mRW h
        exact a1
      · obtain ⟨v7, _, h⟩ := mBN_some h
        rcases mIf_some h with ⟨_, h⟩ | ⟨_, h⟩
        · exact mAv.tr mAv.rf (ih.2 _ _ _ _ _ h) (fun i z => by unfold wX5_loadUnknowns_1 at z; unfold wX5_loadUnknowns_0; omega)
        · exact mAv.tr mAv.rf (ih.2 _ _ _ _ _ h) (fun i z => by unfold wX5_loadUnknowns_1 at z; unfold wX5_loadUnknowns_0; omega)
    · intro l1A l2I l3I l4I V h
      rw [mX5_loadUnknowns_go, if_neg (by decide), if_pos rfl] at h
      unfold mX5_loadUnknowns_b1 at h
      rcases mIf_some h with ⟨_, h⟩ | ⟨_, h⟩
      · obtain ⟨c2, h⟩ := mGd_some h
        obtain ⟨c3, h⟩ := mGd_some h
        obtain ⟨V17, eV17, h⟩ := mLt_some h
        have z4 := (Nat.lt_of_not_le (fun z => c2 (Or.inr z)))
        have a4 : mAv (wX5_loadUnknowns_1 l1A) V V17 := by rw [eV17]; exact mAv.J mAv.rf (by unfold wX5_loadUnknowns_1; omega)
        obtain ⟨c5, h⟩ := mGd_some h
        obtain ⟨v20, _, h⟩ := mBN_some h
        obtain ⟨c6, h⟩ := mGd_some h
        obtain ⟨V26, eV26, h⟩ := mLt_some h
        have z7 := (Nat.lt_of_not_le (fun z => c5 (Or.inr z)))
        have a7 : mAv (wX5_loadUnknowns_1 l1A) V V26 := by rw [eV26]; exact mAv.J a4 (by unfold wX5_loadUnknowns_1; omega)
        obtain ⟨x27, _, h⟩ := mLt_some h
        exact mAv.tr a7 (ih.1 _ _ _ h) (fun i z => by unfold wX5_loadUnknowns_0 at z; unfold wX5_loadUnknowns_1; omega)
      · obtain ⟨c8, h⟩ := mGd_some h
        obtain ⟨v30, _, h⟩ := mBN_some h
        obtain ⟨c9, h⟩ := mGd_some h
        obtain ⟨V36, eV36, h⟩ := mLt_some h
        have z10 := (Nat.lt_of_not_le (fun z => c8 (Or.inr z)))
        have a10 : mAv (wX5_loadUnknowns_1 l1A) V V36 := by rw [eV36]; exact mAv.J mAv.rf (by unfold wX5_loadUnknowns_1; omega)
        obtain ⟨x37, _, h⟩ := mLt_some h
        exact mAv.tr a10 (ih.2 _ _ _ _ _ h) (fun i z => by unfold wX5_loadUnknowns_1 at z; unfold wX5_loadUnknowns_1; omega)
set_option maxHeartbeats 4000000 in
theorem NX5_loadUnknowns {F : Nat} {V V1 : mV} {v : Unit} {l1A : Nat} (h : mX5_loadUnknowns F l1A V = some (v, V1)) : mAv (wX5_loadUnknowns l1A) V V1 := by
  have ih := NX5_loadUnknowns_go (F := F) (v := v) (V1 := V1) F
  unfold mX5_loadUnknowns mX5_loadUnknowns_s at h
  obtain ⟨V38, eV38, h⟩ := mLt_some h
  have a11 : mAv (wX5_loadUnknowns l1A) V V38 := by rw [eV38]; exact mAv.F mAv.rf (by unfold wX5_loadUnknowns; omega)
  obtain ⟨V39, eV39, h⟩ := mLt_some h
  have a12 : mAv (wX5_loadUnknowns l1A) V V39 := by rw [eV39]; exact mAv.F a11 (by unfold wX5_loadUnknowns; omega)
  obtain ⟨v40, V41, h13, h⟩ := mBW_some h
  have a13 : mAv (wX5_loadUnknowns l1A) V V41 := mAv.tr a12 (NX5_clearTable h13) (fun i z => by unfold wX5_clearTable at z; unfold wX5_loadUnknowns; omega)
  exact mAv.tr a13 (ih.1 _ _ _ h) (fun i z => by unfold wX5_loadUnknowns_0 at z; unfold wX5_loadUnknowns; omega)
def wX5_loadWeights (l1A : Nat) (i : Nat) : Prop := i = 4 ∨ (36 ≤ i ∧ i ≤ 51)
def wX5_loadWeights_0 (l1A : Nat) (i : Nat) : Prop := i = 4 ∨ (36 ≤ i ∧ i ≤ 51)
def wX5_loadWeights_1 (l1A : Nat) (i : Nat) : Prop := i = 4 ∨ (36 ≤ i ∧ i ≤ 51)
def wX5_loadWeights_2 (l1A : Nat) (i : Nat) : Prop := i = 4 ∨ (36 ≤ i ∧ i ≤ 51)
set_option maxHeartbeats 4000000 in
theorem NX5_loadWeights_go {F : Nat} {v : Unit} {V1 : mV} : ∀ k' : Nat, (∀ (l1A : Nat) (l2I : Int32) (l3I : Int32) (V : mV), mX5_loadWeights_go F k' 0 l1A l2I l3I 0 V = some (v, V1) → mAv (wX5_loadWeights_0 l1A) V V1) ∧ (∀ (l1A : Nat) (l2I : Int32) (l3I : Int32) (l4I : Int32) (V : mV), mX5_loadWeights_go F k' 1 l1A l2I l3I l4I V = some (v, V1) → mAv (wX5_loadWeights_1 l1A) V V1) ∧ (∀ (l1A : Nat) (l2I : Int32) (l3I : Int32) (V : mV), mX5_loadWeights_go F k' 2 l1A l2I l3I 0 V = some (v, V1) → mAv (wX5_loadWeights_2 l1A) V V1) := by
  intro k'
  induction k' with
  | zero => exact ⟨(fun _ _ _ _ h => by cases h), (fun _ _ _ _ _ h => by cases h), (fun _ _ _ _ h => by cases h)⟩
  | succ k' ih =>
    refine ⟨?_, ?_, ?_⟩
    · intro l1A l2I l3I V h
      rw [mX5_loadWeights_go, if_pos rfl] at h
      unfold mX5_loadWeights_b0 at h
      rcases mIf_some h with ⟨_, h⟩ | ⟨_, h⟩
      · exact mAv.tr mAv.rf (ih.2.2 _ _ _ _ h) (fun i z => by unfold wX5_loadWeights_2 at z; unfold wX5_loadWeights_0; omega)
      · exact mAv.tr mAv.rf (ih.2.1 _ _ _ _ _ h) (fun i z => by unfold wX5_loadWeights_1 at z; unfold wX5_loadWeights_0; omega)
    · intro l1A l2I l3I l4I V h
      rw [mX5_loadWeights_go, if_neg (by decide), if_pos rfl] at h
      unfold mX5_loadWeights_b1 at h
      rcases mIf_some h with ⟨_, h⟩ | ⟨_, h⟩
      · obtain ⟨c1, h⟩ := mGd_some h
        obtain ⟨v5, _, h⟩ := mBN_some h
        obtain ⟨c2, h⟩ := mGd_some h
        obtain ⟨V11, eV11, h⟩ := mLt_some h
        have z3 := (Nat.lt_of_not_le (fun z => c1 (Or.inr z)))
        have a3 : mAv (wX5_loadWeights_1 l1A) V V11 := by rw [eV11]; exact mAv.J mAv.rf (by unfold wX5_loadWeights_1; omega)
        obtain ⟨x12, _, h⟩ := mLt_some h
        exact mAv.tr a3 (ih.1 _ _ _ _ h) (fun i z => by unfold wX5_loadWeights_0 at z; unfold wX5_loadWeights_1; omega)
      · obtain ⟨c4, h⟩ := mGd_some h
        obtain ⟨v15, _, h⟩ := mBN_some h
        obtain ⟨c5, h⟩ := mGd_some h
        obtain ⟨V21, eV21, h⟩ := mLt_some h
        have z6 := (Nat.lt_of_not_le (fun z => c4 (Or.inr z)))
        have a6 : mAv (wX5_loadWeights_1 l1A) V V21 := by rw [eV21]; exact mAv.J mAv.rf (by unfold wX5_loadWeights_1; omega)
        obtain ⟨x22, _, h⟩ := mLt_some h
        exact mAv.tr a6 (ih.2.1 _ _ _ _ _ h) (fun i z => by unfold wX5_loadWeights_1 at z; unfold wX5_loadWeights_1; omega)
    · intro l1A l2I l3I V h
      rw [mX5_loadWeights_go, if_neg (by decide), if_neg (by decide), if_pos rfl] at h
      unfold mX5_loadWeights_b2 at h
      rcases mIf_some h with ⟨_, h⟩ | ⟨_, h⟩
      · obtain ⟨c7, h⟩ := mGd_some h
        obtain ⟨c8, h⟩ := mGd_some h
        obtain ⟨V27, eV27, h⟩ := mLt_some h
        have z9 := (Nat.lt_of_not_le (fun z => c7 (Or.inr z)))
        have a9 : mAv (wX5_loadWeights_2 l1A) V V27 := by rw [eV27]; exact mAv.J mAv.rf (by unfold wX5_loadWeights_2; omega)
        obtain ⟨v28, V29, h10, h⟩ := mBW_some h
        have a10 : mAv (wX5_loadWeights_2 l1A) V V29 := mAv.tr a9 (NX5_begin h10) (fun i z => by unfold wX5_begin at z; unfold wX5_loadWeights_2; omega)
        obtain ⟨_, rfl⟩ := mRW h
        exact a10
      · obtain ⟨c11, h⟩ := mGd_some h
        obtain ⟨c12, h⟩ := mGd_some h
        obtain ⟨V36, eV36, h⟩ := mLt_some h
        have z13 := (Nat.lt_of_not_le (fun z => c11 (Or.inr z)))
        have a13 : mAv (wX5_loadWeights_2 l1A) V V36 := by rw [eV36]; exact mAv.J mAv.rf (by unfold wX5_loadWeights_2; omega)
        obtain ⟨x37, _, h⟩ := mLt_some h
        exact mAv.tr a13 (ih.2.2 _ _ _ _ h) (fun i z => by unfold wX5_loadWeights_2 at z; unfold wX5_loadWeights_2; omega)
set_option maxHeartbeats 4000000 in
theorem NX5_loadWeights {F : Nat} {V V1 : mV} {v : Unit} {l1A : Nat} (h : mX5_loadWeights F l1A V = some (v, V1)) : mAv (wX5_loadWeights l1A) V V1 := by
  have ih := NX5_loadWeights_go (F := F) (v := v) (V1 := V1) F
  unfold mX5_loadWeights mX5_loadWeights_s at h
  obtain ⟨x38, _, h⟩ := mLt_some h
  obtain ⟨V39, eV39, h⟩ := mLt_some h
  have a14 : mAv (wX5_loadWeights l1A) V V39 := by rw [eV39]; exact mAv.F mAv.rf (by unfold wX5_loadWeights; omega)
  obtain ⟨V40, eV40, h⟩ := mLt_some h
  have a15 : mAv (wX5_loadWeights l1A) V V40 := by rw [eV40]; exact mAv.F a14 (by unfold wX5_loadWeights; omega)
  obtain ⟨v41, V42, h16, h⟩ := mBW_some h
  have a16 : mAv (wX5_loadWeights l1A) V V42 := mAv.tr a15 (NX5_clearTable h16) (fun i z => by unfold wX5_clearTable at z; unfold wX5_loadWeights; omega)
  exact mAv.tr a16 (ih.1 _ _ _ _ h) (fun i z => by unfold wX5_loadWeights_0 at z; unfold wX5_loadWeights; omega)
def wX5_isFulfilled (i : Nat) : Prop := i = 4 ∨ (36 ≤ i ∧ i ≤ 51)
def wX5_isFulfilled_0 (i : Nat) : Prop := i = 4 ∨ (36 ≤ i ∧ i ≤ 51)
set_option maxHeartbeats 4000000 in
theorem NX5_isFulfilled_go {F : Nat} {v : Int32} {V1 : mV} : ∀ k' : Nat, (∀ (l1I : Int32) (V : mV), mX5_isFulfilled_go F k' 0 l1I V = some (v, V1) → mAv (wX5_isFulfilled_0) V V1) := by
  intro k'
  induction k' with
  | zero => exact (fun _ _ h => by cases h)
  | succ k' ih =>
    intro l1I V h
    rw [mX5_isFulfilled_go, if_pos rfl] at h
    unfold mX5_isFulfilled_b0 at h
    rcases mIf_some h with ⟨_, h⟩ | ⟨_, h⟩
    · obtain ⟨v2, V3, h1, h⟩ := mBW_some h
      have a1 : mAv (wX5_isFulfilled_0) V V3 := mAv.tr mAv.rf (NX5_lockRising h1) (fun i z => by unfold wX5_lockRising at z; unfold wX5_isFulfilled_0; omega)
      obtain ⟨c2, h⟩ := mGd_some h
      obtain ⟨c3, h⟩ := mGd_some h
      rcases mIf_some h with ⟨_, h⟩ | ⟨_, h⟩
      · obtain ⟨_, rfl⟩ := mRW h
        exact a1
      · obtain ⟨_, rfl⟩ := mRW h
        exact a1
    · obtain ⟨v11, V12, h4, h⟩ := mBW_some h
      have a4 : mAv (wX5_isFulfilled_0) V V12 := mAv.tr mAv.rf (NX5_improves h4) (fun i z => by unfold wX5_improves at z; unfold wX5_isFulfilled_0; omega)
      rcases mIf_some h with ⟨_, h⟩ | ⟨_, h⟩
      · obtain ⟨v18, V19, h5, h⟩ := mBW_some h
        have a5 : mAv (wX5_isFulfilled_0) V V19 := mAv.tr a4 (NX5_lockRising h5) (fun i z => by unfold wX5_lockRising at z; unfold wX5_isFulfilled_0; omega)
        obtain ⟨c6, h⟩ := mGd_some h
        obtain ⟨c7, h⟩ := mGd_some h
        rcases mIf_some h with ⟨_, h⟩ | ⟨_, h⟩
        · obtain ⟨_, rfl⟩ := mRW h
          exact a5
        · obtain ⟨_, rfl⟩ := mRW h
          exact a5
      · obtain ⟨x17, _, h⟩ := mLt_some h
        exact mAv.tr a4 (ih _ _ h) (fun i z => by unfold wX5_isFulfilled_0 at z; unfold wX5_isFulfilled_0; omega)
set_option maxHeartbeats 4000000 in
theorem NX5_isFulfilled {F : Nat} {V V1 : mV} {v : Int32} (h : mX5_isFulfilled F V = some (v, V1)) : mAv (wX5_isFulfilled) V V1 := by
  have ih := NX5_isFulfilled_go (F := F) (v := v) (V1 := V1) F
  unfold mX5_isFulfilled mX5_isFulfilled_s at h
  exact mAv.tr mAv.rf (ih _ _ h) (fun i z => by unfold wX5_isFulfilled_0 at z; unfold wX5_isFulfilled; omega)
def wX5_minimise (i : Nat) : Prop := i = 4 ∨ (36 ≤ i ∧ i ≤ 51)
def wX5_minimise_0 (i : Nat) : Prop := i = 4 ∨ (36 ≤ i ∧ i ≤ 51)
set_option maxHeartbeats 4000000 in
theorem NX5_minimise_go {F : Nat} {v : Unit} {V1 : mV} : ∀ k' : Nat, (∀ (l1I : Int32) (l2I : Int32) (V : mV), mX5_minimise_go F k' 0 l1I l2I V = some (v, V1) → mAv (wX5_minimise_0) V V1) := by
  intro k'
  induction k' with
  | zero => exact (fun _ _ _ h => by cases h)
  | succ k' ih =>
    intro l1I l2I V h
    rw [mX5_minimise_go, if_pos rfl] at h
    unfold mX5_minimise_b0 at h
    rcases mIf_some h with ⟨_, h⟩ | ⟨_, h⟩
    · obtain ⟨v2, _, h⟩ := mBN_some h
      rcases mIf_some h with ⟨_, h⟩ | ⟨_, h⟩
      · obtain ⟨v8, V9, h1, h⟩ := mBW_some h
        have a1 : mAv (wX5_minimise_0) V V9 := mAv.tr mAv.rf (NX5_lockRising h1) (fun i z => by unfold wX5_lockRising at z; unfold wX5_minimise_0; omega)
        obtain ⟨_, rfl⟩ := mRW h
        exact a1
      · obtain ⟨V13, eV13, h⟩ := mLt_some h
        have a2 : mAv (wX5_minimise_0) V V13 := by rw [eV13]; exact mAv.F mAv.rf (by unfold wX5_minimise_0; omega)
        obtain ⟨_, rfl⟩ := mRW h
        exact a2
    · obtain ⟨v14, _, h⟩ := mBN_some h
      rcases mIf_some h with ⟨_, h⟩ | ⟨_, h⟩
      · obtain ⟨v20, _, h⟩ := mBN_some h
        rcases mIf_some h with ⟨_, h⟩ | ⟨_, h⟩
        · obtain ⟨v26, V27, h3, h⟩ := mBW_some h
          have a3 : mAv (wX5_minimise_0) V V27 := mAv.tr mAv.rf (NX5_lockRising h3) (fun i z => by unfold wX5_lockRising at z; unfold wX5_minimise_0; omega)
          obtain ⟨_, rfl⟩ := mRW h
          exact a3
        · obtain ⟨V31, eV31, h⟩ := mLt_some h
          have a4 : mAv (wX5_minimise_0) V V31 := by rw [eV31]; exact mAv.F mAv.rf (by unfold wX5_minimise_0; omega)
          obtain ⟨_, rfl⟩ := mRW h
          exact a4
      · obtain ⟨v32, V33, h5, h⟩ := mBW_some h
        have a5 : mAv (wX5_minimise_0) V V33 := mAv.tr mAv.rf (NX5_improves h5) (fun i z => by unfold wX5_improves at z; unfold wX5_minimise_0; omega)
        rcases mIf_some h with ⟨_, h⟩ | ⟨_, h⟩
        · obtain ⟨v39, _, h⟩ := mBN_some h
          rcases mIf_some h with ⟨_, h⟩ | ⟨_, h⟩
          · obtain ⟨v45, V46, h6, h⟩ := mBW_some h
            have a6 : mAv (wX5_minimise_0) V V46 := mAv.tr a5 (NX5_lockRising h6) (fun i z => by unfold wX5_lockRising at z; unfold wX5_minimise_0; omega)
            obtain ⟨_, rfl⟩ := mRW h
            exact a6
          · obtain ⟨V50, eV50, h⟩ := mLt_some h
            have a7 : mAv (wX5_minimise_0) V V50 := by rw [eV50]; exact mAv.F a5 (by unfold wX5_minimise_0; omega)
            obtain ⟨_, rfl⟩ := mRW h
            exact a7
        · obtain ⟨x38, _, h⟩ := mLt_some h
          exact mAv.tr a5 (ih _ _ _ h) (fun i z => by unfold wX5_minimise_0 at z; unfold wX5_minimise_0; omega)
set_option maxHeartbeats 4000000 in
theorem NX5_minimise {F : Nat} {V V1 : mV} {v : Unit} {l1I : Int32} (h : mX5_minimise F l1I V = some (v, V1)) : mAv (wX5_minimise) V V1 := by
  have ih := NX5_minimise_go (F := F) (v := v) (V1 := V1) F
  unfold mX5_minimise mX5_minimise_s at h
  exact mAv.tr mAv.rf (ih _ _ _ h) (fun i z => by unfold wX5_minimise_0 at z; unfold wX5_minimise; omega)
def wX5_writeLeast (l2A : Nat) (i : Nat) : Prop := i = 4 ∨ (36 ≤ i ∧ i ≤ 51) ∨ i = l2A ∨ i = l2A + 1
def wX5_writeLeast_0 (l2A : Nat) (i : Nat) : Prop := i = 4 ∨ (36 ≤ i ∧ i ≤ 51) ∨ i = l2A ∨ i = l2A + 1
def wX5_writeLeast_1 (l2A : Nat) (i : Nat) : Prop := i = l2A ∨ i = l2A + 1
def wX5_writeLeast_2 (l2A : Nat) (i : Nat) : Prop := i = l2A ∨ i = l2A + 1
set_option maxHeartbeats 4000000 in
theorem NX5_writeLeast_go {F : Nat} {v : Unit} {Ln1 : Nat → Nat} {V1 : mV} : ∀ k' : Nat, (∀ (l1I : Int32) (l2A : Nat) (l3I : Int32) (Ln : Nat → Nat) (V : mV), mX5_writeLeast_go F k' 0 Ln l1I l2A l3I 0 0 V = some (v, Ln1, V1) → mAv (wX5_writeLeast_0 l2A) V V1 ∧ mAl (wX5_writeLeast_0 l2A) Ln Ln1) ∧ (∀ (l1I : Int32) (l2A : Nat) (l3J : Int64) (l5I : Int32) (Ln : Nat → Nat) (V : mV), mX5_writeLeast_go F k' 1 Ln l1I l2A 0 l3J l5I V = some (v, Ln1, V1) → mAv (wX5_writeLeast_1 l2A) V V1 ∧ mAl (wX5_writeLeast_1 l2A) Ln Ln1) ∧ (∀ (l1I : Int32) (l2A : Nat) (l3J : Int64) (l5I : Int32) (Ln : Nat → Nat) (V : mV), mX5_writeLeast_go F k' 2 Ln l1I l2A 0 l3J l5I V = some (v, Ln1, V1) → mAv (wX5_writeLeast_2 l2A) V V1 ∧ mAl (wX5_writeLeast_2 l2A) Ln Ln1) := by
  intro k'
  induction k' with
  | zero => exact ⟨(fun _ _ _ _ _ h => by cases h), (fun _ _ _ _ _ _ h => by cases h), (fun _ _ _ _ _ _ h => by cases h)⟩
  | succ k' ih =>
    refine ⟨?_, ?_, ?_⟩
    · intro l1I l2A l3I Ln V h
      rw [mX5_writeLeast_go, if_pos rfl] at h
      unfold mX5_writeLeast_b0 at h
      rcases mIf_some h with ⟨_, h⟩ | ⟨_, h⟩
      · obtain ⟨x2, _, h⟩ := mLt_some h
        have y := ih.2.1 _ _ _ _ _ _ h
        exact ⟨mAv.tr mAv.rf y.1 (fun i z => by unfold wX5_writeLeast_1 at z; unfold wX5_writeLeast_0; omega), mAl.tr mAl.rf y.2 (fun i z => by unfold wX5_writeLeast_1 at z; unfold wX5_writeLeast_0; omega)⟩
      · obtain ⟨v3, V4, h1, h⟩ := mBW_some h
        have a1 : mAv (wX5_writeLeast_0 l2A) V V4 := mAv.tr mAv.rf (NX5_minimise h1) (fun i z => by unfold wX5_minimise at z; unfold wX5_writeLeast_0; omega)
        obtain ⟨x8, _, h⟩ := mLt_some h
        have y := ih.1 _ _ _ _ _ h
        exact ⟨mAv.tr a1 y.1 (fun i z => by unfold wX5_writeLeast_0 at z; unfold wX5_writeLeast_0; omega), mAl.tr mAl.rf y.2 (fun i z => by unfold wX5_writeLeast_0 at z; unfold wX5_writeLeast_0; omega)⟩
    · intro l1I l2A l3J l5I Ln V h
      rw [mX5_writeLeast_go, if_neg (by decide), if_pos rfl] at h
      unfold mX5_writeLeast_b1 at h
      rcases mIf_some h with ⟨_, h⟩ | ⟨_, h⟩
      · rcases mIf_some h with ⟨_, h⟩ | ⟨_, h⟩
        · obtain ⟨c2, h⟩ := mGd_some h
          obtain ⟨v12, L13, V13, h3, h⟩ := mBA_some h
          have y3 := NX9_add h3
          have a3 : mAv (wX5_writeLeast_1 l2A) V V13 := mAv.tr mAv.rf y3.1 (fun i z => by unfold wX9_add at z; unfold wX5_writeLeast_1; omega)
          have b3 : mAl (wX5_writeLeast_1 l2A) Ln L13 := mAl.tr mAl.rf y3.2 (fun i z => by unfold wX9_add at z; unfold wX5_writeLeast_1; omega)
          have y := ih.2.2 _ _ _ _ _ _ h
          exact ⟨mAv.tr a3 y.1 (fun i z => by unfold wX5_writeLeast_2 at z; unfold wX5_writeLeast_1; omega), mAl.tr b3 y.2 (fun i z => by unfold wX5_writeLeast_2 at z; unfold wX5_writeLeast_1; omega)⟩
        · obtain ⟨_, rfl, rfl⟩ := mRA3 h
          exact ⟨mAv.rf, mAl.rf⟩
      · obtain ⟨v17, _, h⟩ := mBN_some h
        obtain ⟨v22, _, h⟩ := mBN_some h
        obtain ⟨x27, _, h⟩ := mLt_some h
        have y := ih.2.1 _ _ _ _ _ _ h
        exact ⟨mAv.tr mAv.rf y.1 (fun i z => by unfold wX5_writeLeast_1 at z; unfold wX5_writeLeast_1; omega), mAl.tr mAl.rf y.2 (fun i z => by unfold wX5_writeLeast_1 at z; unfold wX5_writeLeast_1; omega)⟩
    · intro l1I l2A l3J l5I Ln V h
      rw [mX5_writeLeast_go, if_neg (by decide), if_neg (by decide), if_pos rfl] at h
      unfold mX5_writeLeast_b2 at h
      rcases mIf_some h with ⟨_, h⟩ | ⟨_, h⟩
      · obtain ⟨_, rfl, rfl⟩ := mRA3 h
        exact ⟨mAv.rf, mAl.rf⟩
      · obtain ⟨v29, _, h⟩ := mBN_some h
        obtain ⟨c4, h⟩ := mGd_some h
        obtain ⟨v35, L36, V36, h5, h⟩ := mBA_some h
        have y5 := NX9_add h5
        have a5 : mAv (wX5_writeLeast_2 l2A) V V36 := mAv.tr mAv.rf y5.1 (fun i z => by unfold wX9_add at z; unfold wX5_writeLeast_2; omega)
        have b5 : mAl (wX5_writeLeast_2 l2A) Ln L36 := mAl.tr mAl.rf y5.2 (fun i z => by unfold wX9_add at z; unfold wX5_writeLeast_2; omega)
        obtain ⟨x40, _, h⟩ := mLt_some h
        have y := ih.2.2 _ _ _ _ _ _ h
        exact ⟨mAv.tr a5 y.1 (fun i z => by unfold wX5_writeLeast_2 at z; unfold wX5_writeLeast_2; omega), mAl.tr b5 y.2 (fun i z => by unfold wX5_writeLeast_2 at z; unfold wX5_writeLeast_2; omega)⟩
set_option maxHeartbeats 4000000 in
theorem NX5_writeLeast {F : Nat} {Ln Ln1 : Nat → Nat} {V V1 : mV} {v : Unit} {l1I : Int32} {l2A : Nat} (h : mX5_writeLeast F Ln l1I l2A V = some (v, Ln1, V1)) : mAv (wX5_writeLeast l2A) V V1 ∧ mAl (wX5_writeLeast l2A) Ln Ln1 := by
  have ih := NX5_writeLeast_go (F := F) (v := v) (Ln1 := Ln1) (V1 := V1) F
  unfold mX5_writeLeast mX5_writeLeast_s at h
  have y := ih.1 _ _ _ _ _ h
  exact ⟨mAv.tr mAv.rf y.1 (fun i z => by unfold wX5_writeLeast_0 at z; unfold wX5_writeLeast; omega), mAl.tr mAl.rf y.2 (fun i z => by unfold wX5_writeLeast_0 at z; unfold wX5_writeLeast; omega)⟩
end
