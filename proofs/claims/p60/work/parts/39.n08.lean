/-! WHAT EACH METHOD LEAVES ALONE: X2_judgeCore, X4_carriesPairings, X4_bringBack, X5_solve, X6_solveMachines, X6_leastWay, X6_judgeGame, X7_solvePairings, X7_greatest, X8_findPoint, X8_writePrime, X8_writeParts. -/
section
def wX2_judgeCore (l1A : Nat) (l2A : Nat) (i : Nat) : Prop := i = 3 ∨ (27 ≤ i ∧ i ≤ 30) ∨ (33 ≤ i ∧ i ≤ 34)
def wX2_judgeCore_0 (l1A : Nat) (l2A : Nat) (i : Nat) : Prop := i = 3 ∨ (27 ≤ i ∧ i ≤ 30) ∨ (33 ≤ i ∧ i ≤ 34)
set_option maxHeartbeats 4000000 in
theorem NX2_judgeCore_go {F : Nat} {v : Int32} {V1 : mV} : ∀ k' : Nat, (∀ (l1A : Nat) (l2A : Nat) (l4I : Int32) (l5I : Int32) (l6I : Int32) (Ln : Nat → Nat) (V : mV), mX2_judgeCore_go F k' 0 Ln l1A l2A l4I l5I l6I V = some (v, V1) → mAv (wX2_judgeCore_0 l1A l2A) V V1) := by
  intro k'
  induction k' with
  | zero => exact (fun _ _ _ _ _ _ _ h => by cases h)
  | succ k' ih =>
    intro l1A l2A l4I l5I l6I Ln V h
    rw [mX2_judgeCore_go, if_pos rfl] at h
    unfold mX2_judgeCore_b0 at h
    rcases mIf_some h with ⟨_, h⟩ | ⟨_, h⟩
    · obtain ⟨v2, V3, h1, h⟩ := mBW_some h
      have a1 : mAv (wX2_judgeCore_0 l1A l2A) V V3 := mAv.tr mAv.rf (NX2_loadEdges h1) (fun i z => by unfold wX2_loadEdges at z; unfold wX2_judgeCore_0; omega)
      obtain ⟨v7, _, h⟩ := mBN_some h
      obtain ⟨v12, _, h⟩ := mBN_some h
      rcases mIf_some h with ⟨_, h⟩ | ⟨_, h⟩
      · obtain ⟨v18, _, h⟩ := mBN_some h
        rcases mIf_some h with ⟨_, h⟩ | ⟨_, h⟩
        · obtain ⟨_, rfl⟩ := mRW h
          exact a1
        · obtain ⟨v24, V25, h2, h⟩ := mBW_some h
          have a2 : mAv (wX2_judgeCore_0 l1A l2A) V V25 := mAv.tr a1 (NX2_areWaysOf h2) (fun i z => by unfold wX2_areWaysOf at z; unfold wX2_judgeCore_0; omega)
          rcases mIf_some h with ⟨_, h⟩ | ⟨_, h⟩
          · obtain ⟨_, rfl⟩ := mRW h
            exact a2
          · obtain ⟨_, rfl⟩ := mRW h
            exact a2
      · obtain ⟨_, rfl⟩ := mRW h
        exact a1
    · obtain ⟨v30, _, h⟩ := mBN_some h
      obtain ⟨x35, _, h⟩ := mLt_some h
      obtain ⟨x36, _, h⟩ := mLt_some h
      exact mAv.tr mAv.rf (ih _ _ _ _ _ _ _ h) (fun i z => by unfold wX2_judgeCore_0 at z; unfold wX2_judgeCore_0; omega)
set_option maxHeartbeats 4000000 in
theorem NX2_judgeCore {F : Nat} {Ln : Nat → Nat} {V V1 : mV} {v : Int32} {l1A : Nat} {l2A : Nat} (h : mX2_judgeCore F Ln l1A l2A V = some (v, V1)) : mAv (wX2_judgeCore l1A l2A) V V1 := by
  have ih := NX2_judgeCore_go (F := F) (v := v) (V1 := V1) F
  unfold mX2_judgeCore mX2_judgeCore_s at h
  obtain ⟨x37, _, h⟩ := mLt_some h
  obtain ⟨v38, _, h⟩ := mBN_some h
  rcases mIf_some h with ⟨_, h⟩ | ⟨_, h⟩
  · obtain ⟨_, rfl⟩ := mRW h
    exact mAv.rf
  · rcases mIf_some h with ⟨_, h⟩ | ⟨_, h⟩
    · obtain ⟨v45, _, h⟩ := mBN_some h
      rcases mIf_some h with ⟨_, h⟩ | ⟨_, h⟩
      · obtain ⟨_, rfl⟩ := mRW h
        exact mAv.rf
      · obtain ⟨v51, _, h⟩ := mBN_some h
        rcases mIf_some h with ⟨_, h⟩ | ⟨_, h⟩
        · obtain ⟨_, rfl⟩ := mRW h
          exact mAv.rf
        · exact mAv.tr mAv.rf (ih _ _ _ _ _ _ _ h) (fun i z => by unfold wX2_judgeCore_0 at z; unfold wX2_judgeCore; omega)
    · rcases mIf_some h with ⟨_, h⟩ | ⟨_, h⟩
      · obtain ⟨v58, _, h⟩ := mBN_some h
        rcases mIf_some h with ⟨_, h⟩ | ⟨_, h⟩
        · obtain ⟨_, rfl⟩ := mRW h
          exact mAv.rf
        · obtain ⟨v64, _, h⟩ := mBN_some h
          rcases mIf_some h with ⟨_, h⟩ | ⟨_, h⟩
          · obtain ⟨_, rfl⟩ := mRW h
            exact mAv.rf
          · exact mAv.tr mAv.rf (ih _ _ _ _ _ _ _ h) (fun i z => by unfold wX2_judgeCore_0 at z; unfold wX2_judgeCore; omega)
      · obtain ⟨_, rfl⟩ := mRW h
        exact mAv.rf
def wX4_carriesPairings (l1A : Nat) (l2A : Nat) (i : Nat) : Prop := i = 18 ∨ i = l2A ∨ i = l2A + 1
def wX4_carriesPairings_0 (l1A : Nat) (l2A : Nat) (i : Nat) : Prop := i = l2A ∨ i = l2A + 1
def wX4_carriesPairings_1 (l1A : Nat) (l2A : Nat) (i : Nat) : Prop := i = l2A ∨ i = l2A + 1
set_option maxHeartbeats 4000000 in
theorem NX4_carriesPairings_go {F : Nat} {v : Int32} {V1 : mV} : ∀ k' : Nat, (∀ (l1A : Nat) (l2A : Nat) (l3I : Int32) (l4I : Int32) (l6I : Int32) (V : mV), mX4_carriesPairings_go F k' 0 l1A l2A l3I l4I l6I V = some (v, V1) → mAv (wX4_carriesPairings_0 l1A l2A) V V1) ∧ (∀ (l1A : Nat) (l2A : Nat) (l4I : Int32) (l6I : Int32) (V : mV), mX4_carriesPairings_go F k' 1 l1A l2A 0 l4I l6I V = some (v, V1) → mAv (wX4_carriesPairings_1 l1A l2A) V V1) := by
  intro k'
  induction k' with
  | zero => exact ⟨(fun _ _ _ _ _ _ h => by cases h), (fun _ _ _ _ _ h => by cases h)⟩
  | succ k' ih =>
    refine ⟨?_, ?_⟩
    · intro l1A l2A l3I l4I l6I V h
      rw [mX4_carriesPairings_go, if_pos rfl] at h
      unfold mX4_carriesPairings_b0 at h
      rcases mIf_some h with ⟨_, h⟩ | ⟨_, h⟩
      · exact mAv.tr mAv.rf (ih.2 _ _ _ _ _ h) (fun i z => by unfold wX4_carriesPairings_1 at z; unfold wX4_carriesPairings_0; omega)
      · obtain ⟨v2, _, h⟩ := mBN_some h
        rcases mIf_some h with ⟨_, h⟩ | ⟨_, h⟩
        · obtain ⟨v8, V9, h1, h⟩ := mBW_some h
          have a1 : mAv (wX4_carriesPairings_0 l1A l2A) V V9 := mAv.tr mAv.rf (NX3_addItem h1) (fun i z => by unfold wX3_addItem at z; unfold wX4_carriesPairings_0; omega)
          obtain ⟨x13, _, h⟩ := mLt_some h
          exact mAv.tr a1 (ih.1 _ _ _ _ _ _ h) (fun i z => by unfold wX4_carriesPairings_0 at z; unfold wX4_carriesPairings_0; omega)
        · obtain ⟨v14, V15, h2, h⟩ := mBW_some h
          have a2 : mAv (wX4_carriesPairings_0 l1A l2A) V V15 := mAv.tr mAv.rf (NX3_addItem h2) (fun i z => by unfold wX3_addItem at z; unfold wX4_carriesPairings_0; omega)
          obtain ⟨x19, _, h⟩ := mLt_some h
          exact mAv.tr a2 (ih.1 _ _ _ _ _ _ h) (fun i z => by unfold wX4_carriesPairings_0 at z; unfold wX4_carriesPairings_0; omega)
    · intro l1A l2A l4I l6I V h
      rw [mX4_carriesPairings_go, if_neg (by decide), if_pos rfl] at h
      unfold mX4_carriesPairings_b1 at h
      rcases mIf_some h with ⟨_, h⟩ | ⟨_, h⟩
      · obtain ⟨_, rfl⟩ := mRW h
        exact mAv.rf
      · obtain ⟨v21, _, h⟩ := mBN_some h
        obtain ⟨x26, _, h⟩ := mLt_some h
        obtain ⟨v27, _, h⟩ := mBN_some h
        obtain ⟨x32, _, h⟩ := mLt_some h
        obtain ⟨v33, _, h⟩ := mBN_some h
        rcases mIf_some h with ⟨_, h⟩ | ⟨_, h⟩
        · rcases mIf_some h with ⟨_, h⟩ | ⟨_, h⟩
          · obtain ⟨v40, V41, h3, h⟩ := mBW_some h
            have a3 : mAv (wX4_carriesPairings_1 l1A l2A) V V41 := mAv.tr mAv.rf (NX3_addItem h3) (fun i z => by unfold wX3_addItem at z; unfold wX4_carriesPairings_1; omega)
            obtain ⟨x45, _, h⟩ := mLt_some h
            exact mAv.tr a3 (ih.2 _ _ _ _ _ h) (fun i z => by unfold wX4_carriesPairings_1 at z; unfold wX4_carriesPairings_1; omega)
          · obtain ⟨v46, V47, h4, h⟩ := mBW_some h
            have a4 : mAv (wX4_carriesPairings_1 l1A l2A) V V47 := mAv.tr mAv.rf (NX3_addItem h4) (fun i z => by unfold wX3_addItem at z; unfold wX4_carriesPairings_1; omega)
            obtain ⟨x51, _, h⟩ := mLt_some h
            exact mAv.tr a4 (ih.2 _ _ _ _ _ h) (fun i z => by unfold wX4_carriesPairings_1 at z; unfold wX4_carriesPairings_1; omega)
        · rcases mIf_some h with ⟨_, h⟩ | ⟨_, h⟩
          · obtain ⟨v53, V54, h5, h⟩ := mBW_some h
            have a5 : mAv (wX4_carriesPairings_1 l1A l2A) V V54 := mAv.tr mAv.rf (NX3_addItem h5) (fun i z => by unfold wX3_addItem at z; unfold wX4_carriesPairings_1; omega)
            obtain ⟨x58, _, h⟩ := mLt_some h
            exact mAv.tr a5 (ih.2 _ _ _ _ _ h) (fun i z => by unfold wX4_carriesPairings_1 at z; unfold wX4_carriesPairings_1; omega)
          · obtain ⟨v59, V60, h6, h⟩ := mBW_some h
            have a6 : mAv (wX4_carriesPairings_1 l1A l2A) V V60 := mAv.tr mAv.rf (NX3_addItem h6) (fun i z => by unfold wX3_addItem at z; unfold wX4_carriesPairings_1; omega)
            obtain ⟨x64, _, h⟩ := mLt_some h
            exact mAv.tr a6 (ih.2 _ _ _ _ _ h) (fun i z => by unfold wX4_carriesPairings_1 at z; unfold wX4_carriesPairings_1; omega)
set_option maxHeartbeats 4000000 in
theorem NX4_carriesPairings {F : Nat} {V V1 : mV} {v : Int32} {l1A : Nat} {l2A : Nat} (h : mX4_carriesPairings F l1A l2A V = some (v, V1)) : mAv (wX4_carriesPairings l1A l2A) V V1 := by
  have ih := NX4_carriesPairings_go (F := F) (v := v) (V1 := V1) F
  unfold mX4_carriesPairings mX4_carriesPairings_s at h
  obtain ⟨x65, _, h⟩ := mLt_some h
  obtain ⟨v66, V67, h7, h⟩ := mBW_some h
  have a7 : mAv (wX4_carriesPairings l1A l2A) V V67 := mAv.tr mAv.rf (NX4_leftSide h7) (fun i z => by unfold wX4_leftSide at z; unfold wX4_carriesPairings; omega)
  rcases mIf_some h with ⟨_, h⟩ | ⟨_, h⟩
  · obtain ⟨_, rfl⟩ := mRW h
    exact a7
  · obtain ⟨c8, h⟩ := mGd_some h
    rcases mIf_some h with ⟨_, h⟩ | ⟨_, h⟩
    · obtain ⟨_, rfl⟩ := mRW h
      exact a7
    · obtain ⟨c9, h⟩ := mGd_some h
      rcases mIf_some h with ⟨_, h⟩ | ⟨_, h⟩
      · obtain ⟨x76, _, h⟩ := mLt_some h
        obtain ⟨v77, V78, h10, h⟩ := mBW_some h
        have a10 : mAv (wX4_carriesPairings l1A l2A) V V78 := mAv.tr a7 (NX3_begin h10) (fun i z => by unfold wX3_begin at z; unfold wX4_carriesPairings; omega)
        exact mAv.tr a10 (ih.1 _ _ _ _ _ _ h) (fun i z => by unfold wX4_carriesPairings_0 at z; unfold wX4_carriesPairings; omega)
      · obtain ⟨_, rfl⟩ := mRW h
        exact a7
def wX4_bringBack (l1A : Nat) (l2A : Nat) (l3A : Nat) (i : Nat) : Prop := i = 18 ∨ i = l3A ∨ i = l3A + 1
def wX4_bringBack_0 (l1A : Nat) (l3A : Nat) (i : Nat) : Prop := i = l3A ∨ i = l3A + 1
set_option maxHeartbeats 4000000 in
theorem NX4_bringBack_go {F : Nat} {v : Unit} {Ln1 : Nat → Nat} {V1 : mV} : ∀ k' : Nat, (∀ (l1A : Nat) (l3A : Nat) (l4I : Int32) (Ln : Nat → Nat) (V : mV), mX4_bringBack_go F k' 0 Ln l1A l3A l4I V = some (v, Ln1, V1) → mAv (wX4_bringBack_0 l1A l3A) V V1 ∧ mAl (wX4_bringBack_0 l1A l3A) Ln Ln1) := by
  intro k'
  induction k' with
  | zero => exact (fun _ _ _ _ _ h => by cases h)
  | succ k' ih =>
    intro l1A l3A l4I Ln V h
    rw [mX4_bringBack_go, if_pos rfl] at h
    unfold mX4_bringBack_b0 at h
    rcases mIf_some h with ⟨_, h⟩ | ⟨_, h⟩
    · obtain ⟨_, rfl, rfl⟩ := mRA3 h
      exact ⟨mAv.rf, mAl.rf⟩
    · obtain ⟨v2, _, h⟩ := mBN_some h
      obtain ⟨v7, L8, V8, h1, h⟩ := mBA_some h
      have y1 := NX9_add h1
      have a1 : mAv (wX4_bringBack_0 l1A l3A) V V8 := mAv.tr mAv.rf y1.1 (fun i z => by unfold wX9_add at z; unfold wX4_bringBack_0; omega)
      have b1 : mAl (wX4_bringBack_0 l1A l3A) Ln L8 := mAl.tr mAl.rf y1.2 (fun i z => by unfold wX9_add at z; unfold wX4_bringBack_0; omega)
      obtain ⟨x12, _, h⟩ := mLt_some h
      have y := ih _ _ _ _ _ h
      exact ⟨mAv.tr a1 y.1 (fun i z => by unfold wX4_bringBack_0 at z; unfold wX4_bringBack_0; omega), mAl.tr b1 y.2 (fun i z => by unfold wX4_bringBack_0 at z; unfold wX4_bringBack_0; omega)⟩
set_option maxHeartbeats 4000000 in
theorem NX4_bringBack {F : Nat} {Ln Ln1 : Nat → Nat} {V V1 : mV} {v : Unit} {l1A : Nat} {l2A : Nat} {l3A : Nat} (h : mX4_bringBack F Ln l1A l2A l3A V = some (v, Ln1, V1)) : mAv (wX4_bringBack l1A l2A l3A) V V1 ∧ mAl (wX4_bringBack l1A l2A l3A) Ln Ln1 := by
  have ih := NX4_bringBack_go (F := F) (v := v) (Ln1 := Ln1) (V1 := V1) F
  unfold mX4_bringBack mX4_bringBack_s at h
  obtain ⟨v13, V14, h2, h⟩ := mBW_some h
  have a2 : mAv (wX4_bringBack l1A l2A l3A) V V14 := mAv.tr mAv.rf (NX9_clear h2) (fun i z => by unfold wX9_clear at z; unfold wX4_bringBack; omega)
  rcases mIf_some h with ⟨_, h⟩ | ⟨_, h⟩
  · have y := ih _ _ _ _ _ h
    exact ⟨mAv.tr a2 y.1 (fun i z => by unfold wX4_bringBack_0 at z; unfold wX4_bringBack; omega), mAl.tr mAl.rf y.2 (fun i z => by unfold wX4_bringBack_0 at z; unfold wX4_bringBack; omega)⟩
  · rcases mIf_some h with ⟨_, h⟩ | ⟨_, h⟩
    · rcases mIf_some h with ⟨_, h⟩ | ⟨_, h⟩
      · obtain ⟨x31, _, h⟩ := mLt_some h
        obtain ⟨v32, L33, V33, h3, h⟩ := mBA_some h
        have y3 := NX4_bringPairs h3
        have a3 : mAv (wX4_bringBack l1A l2A l3A) V V33 := mAv.tr a2 y3.1 (fun i z => by unfold wX4_bringPairs at z; unfold wX4_bringBack; omega)
        have b3 : mAl (wX4_bringBack l1A l2A l3A) Ln L33 := mAl.tr mAl.rf y3.2 (fun i z => by unfold wX4_bringPairs at z; unfold wX4_bringBack; omega)
        obtain ⟨_, rfl, rfl⟩ := mRA3 h
        exact ⟨a3, b3⟩
      · obtain ⟨v26, L27, V27, h4, h⟩ := mBA_some h
        have y4 := NX4_bringPairs h4
        have a4 : mAv (wX4_bringBack l1A l2A l3A) V V27 := mAv.tr a2 y4.1 (fun i z => by unfold wX4_bringPairs at z; unfold wX4_bringBack; omega)
        have b4 : mAl (wX4_bringBack l1A l2A l3A) Ln L27 := mAl.tr mAl.rf y4.2 (fun i z => by unfold wX4_bringPairs at z; unfold wX4_bringBack; omega)
        obtain ⟨_, rfl, rfl⟩ := mRA3 h
        exact ⟨a4, b4⟩
    · obtain ⟨v20, L21, V21, h5, h⟩ := mBA_some h
      have y5 := NX4_bringNodes h5
      have a5 : mAv (wX4_bringBack l1A l2A l3A) V V21 := mAv.tr a2 y5.1 (fun i z => by unfold wX4_bringNodes at z; unfold wX4_bringBack; omega)
      have b5 : mAl (wX4_bringBack l1A l2A l3A) Ln L21 := mAl.tr mAl.rf y5.2 (fun i z => by unfold wX4_bringNodes at z; unfold wX4_bringBack; omega)
      obtain ⟨_, rfl, rfl⟩ := mRA3 h
      exact ⟨a5, b5⟩
def wX5_solve (l1A : Nat) (i : Nat) : Prop := i = 4 ∨ (36 ≤ i ∧ i ≤ 51) ∨ i = l1A ∨ i = l1A + 2 ∨ i = l1A + 3
set_option maxHeartbeats 4000000 in
theorem NX5_solve {F : Nat} {Ln Ln1 : Nat → Nat} {V V1 : mV} {v : Unit} {l1A : Nat} (h : mX5_solve F Ln l1A V = some (v, Ln1, V1)) : mAv (wX5_solve l1A) V V1 ∧ mAl (wX5_solve l1A) Ln Ln1 := by
  unfold mX5_solve at h
  obtain ⟨x1, _, h⟩ := mLt_some h
  obtain ⟨v2, V3, h1, h⟩ := mBW_some h
  have a1 : mAv (wX5_solve l1A) V V3 := mAv.tr mAv.rf (NX5_loadUnknowns h1) (fun i z => by unfold wX5_loadUnknowns at z; unfold wX5_solve; omega)
  obtain ⟨v7, V8, h2, h⟩ := mBW_some h
  have a2 : mAv (wX5_solve l1A) V V8 := mAv.tr a1 (NX5_isFulfilled h2) (fun i z => by unfold wX5_isFulfilled at z; unfold wX5_solve; omega)
  rcases mIf_some h with ⟨_, h⟩ | ⟨_, h⟩
  · obtain ⟨v13, V14, h3, h⟩ := mBW_some h
    have a3 : mAv (wX5_solve l1A) V V14 := mAv.tr a2 (NX5_loadWeights h3) (fun i z => by unfold wX5_loadWeights at z; unfold wX5_solve; omega)
    obtain ⟨v18, V19, h4, h⟩ := mBW_some h
    have a4 : mAv (wX5_solve l1A) V V19 := mAv.tr a3 (NX5_isFulfilled h4) (fun i z => by unfold wX5_isFulfilled at z; unfold wX5_solve; omega)
    obtain ⟨v23, L24, V24, h5, h⟩ := mBA_some h
    have y5 := NX5_writeLeast h5
    have a5 : mAv (wX5_solve l1A) V V24 := mAv.tr a4 y5.1 (fun i z => by unfold wX5_writeLeast at z; unfold wX5_solve; omega)
    have b5 : mAl (wX5_solve l1A) Ln L24 := mAl.tr mAl.rf y5.2 (fun i z => by unfold wX5_writeLeast at z; unfold wX5_solve; omega)
    obtain ⟨v28, V29, h6, h⟩ := mBW_some h
    have a6 : mAv (wX5_solve l1A) V V29 := mAv.tr a5 (NX3_tell h6) (fun i z => by unfold wX3_tell at z; unfold wX5_solve; omega)
    obtain ⟨_, rfl, rfl⟩ := mRA3 h
    exact ⟨a6, b5⟩
  · obtain ⟨x33, _, h⟩ := mLt_some h
    obtain ⟨v34, V35, h7, h⟩ := mBW_some h
    have a7 : mAv (wX5_solve l1A) V V35 := mAv.tr a2 (NX5_minimise h7) (fun i z => by unfold wX5_minimise at z; unfold wX5_solve; omega)
    obtain ⟨v39, _, h⟩ := mBN_some h
    obtain ⟨x44, _, h⟩ := mLt_some h
    obtain ⟨v45, _, h⟩ := mBN_some h
    obtain ⟨v50, V51, h8, h⟩ := mBW_some h
    have a8 : mAv (wX5_solve l1A) V V51 := mAv.tr a7 (NX3_tell h8) (fun i z => by unfold wX3_tell at z; unfold wX5_solve; omega)
    obtain ⟨v55, V56, h9, h⟩ := mBW_some h
    have a9 : mAv (wX5_solve l1A) V V56 := mAv.tr a8 (NX5_loadUnknowns h9) (fun i z => by unfold wX5_loadUnknowns at z; unfold wX5_solve; omega)
    obtain ⟨v60, V61, h10, h⟩ := mBW_some h
    have a10 : mAv (wX5_solve l1A) V V61 := mAv.tr a9 (NX5_isFulfilled h10) (fun i z => by unfold wX5_isFulfilled at z; unfold wX5_solve; omega)
    obtain ⟨v65, L66, V66, h11, h⟩ := mBA_some h
    have y11 := NX5_writeLeast h11
    have a11 : mAv (wX5_solve l1A) V V66 := mAv.tr a10 y11.1 (fun i z => by unfold wX5_writeLeast at z; unfold wX5_solve; omega)
    have b11 : mAl (wX5_solve l1A) Ln L66 := mAl.tr mAl.rf y11.2 (fun i z => by unfold wX5_writeLeast at z; unfold wX5_solve; omega)
    obtain ⟨_, rfl, rfl⟩ := mRA3 h
    exact ⟨a11, b11⟩
def wX6_solveMachines (l1A : Nat) (i : Nat) : Prop := i = 8 ∨ (84 ≤ i ∧ i ≤ 87) ∨ i = l1A ∨ i = l1A + 2 ∨ i = l1A + 3
def wX6_solveMachines_0 (l1A : Nat) (i : Nat) : Prop := i = l1A ∨ i = l1A + 2 ∨ i = l1A + 3
def wX6_solveMachines_1 (l1A : Nat) (i : Nat) : Prop := i = l1A + 2 ∨ i = l1A + 3
set_option maxHeartbeats 4000000 in
theorem NX6_solveMachines_go {F : Nat} {v : Unit} {Ln1 : Nat → Nat} {V1 : mV} : ∀ k' : Nat, (∀ (l1A : Nat) (l2I : Int32) (l3I : Int32) (l4I : Int32) (Ln : Nat → Nat) (V : mV), mX6_solveMachines_go F k' 0 Ln l1A l2I l3I l4I 0 V = some (v, Ln1, V1) → mAv (wX6_solveMachines_0 l1A) V V1 ∧ mAl (wX6_solveMachines_0 l1A) Ln Ln1) ∧ (∀ (l1A : Nat) (l5I : Int32) (Ln : Nat → Nat) (V : mV), mX6_solveMachines_go F k' 1 Ln l1A 0 0 0 l5I V = some (v, Ln1, V1) → mAv (wX6_solveMachines_1 l1A) V V1 ∧ mAl (wX6_solveMachines_1 l1A) Ln Ln1) := by
  intro k'
  induction k' with
  | zero => exact ⟨(fun _ _ _ _ _ _ h => by cases h), (fun _ _ _ _ h => by cases h)⟩
  | succ k' ih =>
    refine ⟨?_, ?_⟩
    · intro l1A l2I l3I l4I Ln V h
      rw [mX6_solveMachines_go, if_pos rfl] at h
      unfold mX6_solveMachines_b0 at h
      rcases mIf_some h with ⟨_, h⟩ | ⟨_, h⟩
      · obtain ⟨v2, _, h⟩ := mBN_some h
        rcases mIf_some h with ⟨_, h⟩ | ⟨_, h⟩
        · obtain ⟨v8, V9, h1, h⟩ := mBW_some h
          have a1 : mAv (wX6_solveMachines_0 l1A) V V9 := mAv.tr mAv.rf (NX3_tell h1) (fun i z => by unfold wX3_tell at z; unfold wX6_solveMachines_0; omega)
          obtain ⟨v13, L14, V14, h2, h⟩ := mBA_some h
          have y2 := NX6_writeLetters h2
          have a2 : mAv (wX6_solveMachines_0 l1A) V V14 := mAv.tr a1 y2.1 (fun i z => by unfold wX6_writeLetters at z; unfold wX6_solveMachines_0; omega)
          have b2 : mAl (wX6_solveMachines_0 l1A) Ln L14 := mAl.tr mAl.rf y2.2 (fun i z => by unfold wX6_writeLetters at z; unfold wX6_solveMachines_0; omega)
          obtain ⟨_, rfl, rfl⟩ := mRA3 h
          exact ⟨a2, b2⟩
        · obtain ⟨v18, V19, h3, h⟩ := mBW_some h
          have a3 : mAv (wX6_solveMachines_0 l1A) V V19 := mAv.tr mAv.rf (NX3_tell h3) (fun i z => by unfold wX3_tell at z; unfold wX6_solveMachines_0; omega)
          have y := ih.2 _ _ _ _ h
          exact ⟨mAv.tr a3 y.1 (fun i z => by unfold wX6_solveMachines_1 at z; unfold wX6_solveMachines_0; omega), mAl.tr mAl.rf y.2 (fun i z => by unfold wX6_solveMachines_1 at z; unfold wX6_solveMachines_0; omega)⟩
      · obtain ⟨v23, _, h⟩ := mBN_some h
        rcases mIf_some h with ⟨_, h⟩ | ⟨_, h⟩
        · obtain ⟨x30, _, h⟩ := mLt_some h
          obtain ⟨x31, _, h⟩ := mLt_some h
          have y := ih.1 _ _ _ _ _ _ h
          exact ⟨mAv.tr mAv.rf y.1 (fun i z => by unfold wX6_solveMachines_0 at z; unfold wX6_solveMachines_0; omega), mAl.tr mAl.rf y.2 (fun i z => by unfold wX6_solveMachines_0 at z; unfold wX6_solveMachines_0; omega)⟩
        · obtain ⟨x29, _, h⟩ := mLt_some h
          have y := ih.1 _ _ _ _ _ _ h
          exact ⟨mAv.tr mAv.rf y.1 (fun i z => by unfold wX6_solveMachines_0 at z; unfold wX6_solveMachines_0; omega), mAl.tr mAl.rf y.2 (fun i z => by unfold wX6_solveMachines_0 at z; unfold wX6_solveMachines_0; omega)⟩
    · intro l1A l5I Ln V h
      rw [mX6_solveMachines_go, if_neg (by decide), if_pos rfl] at h
      unfold mX6_solveMachines_b1 at h
      rcases mIf_some h with ⟨_, h⟩ | ⟨_, h⟩
      · obtain ⟨_, rfl, rfl⟩ := mRA3 h
        exact ⟨mAv.rf, mAl.rf⟩
      · obtain ⟨v33, _, h⟩ := mBN_some h
        obtain ⟨v38, L39, V39, h4, h⟩ := mBA_some h
        have y4 := NX9_add h4
        have a4 : mAv (wX6_solveMachines_1 l1A) V V39 := mAv.tr mAv.rf y4.1 (fun i z => by unfold wX9_add at z; unfold wX6_solveMachines_1; omega)
        have b4 : mAl (wX6_solveMachines_1 l1A) Ln L39 := mAl.tr mAl.rf y4.2 (fun i z => by unfold wX9_add at z; unfold wX6_solveMachines_1; omega)
        obtain ⟨x43, _, h⟩ := mLt_some h
        have y := ih.2 _ _ _ _ h
        exact ⟨mAv.tr a4 y.1 (fun i z => by unfold wX6_solveMachines_1 at z; unfold wX6_solveMachines_1; omega), mAl.tr b4 y.2 (fun i z => by unfold wX6_solveMachines_1 at z; unfold wX6_solveMachines_1; omega)⟩
set_option maxHeartbeats 4000000 in
theorem NX6_solveMachines {F : Nat} {Ln Ln1 : Nat → Nat} {V V1 : mV} {v : Unit} {l1A : Nat} (h : mX6_solveMachines F Ln l1A V = some (v, Ln1, V1)) : mAv (wX6_solveMachines l1A) V V1 ∧ mAl (wX6_solveMachines l1A) Ln Ln1 := by
  have ih := NX6_solveMachines_go (F := F) (v := v) (Ln1 := Ln1) (V1 := V1) F
  unfold mX6_solveMachines mX6_solveMachines_s at h
  obtain ⟨v44, V45, h5, h⟩ := mBW_some h
  have a5 : mAv (wX6_solveMachines l1A) V V45 := mAv.tr mAv.rf (NX6_findLetters h5) (fun i z => by unfold wX6_findLetters at z; unfold wX6_solveMachines; omega)
  obtain ⟨v49, _, h⟩ := mBN_some h
  have y := ih.1 _ _ _ _ _ _ h
  exact ⟨mAv.tr a5 y.1 (fun i z => by unfold wX6_solveMachines_0 at z; unfold wX6_solveMachines; omega), mAl.tr mAl.rf y.2 (fun i z => by unfold wX6_solveMachines_0 at z; unfold wX6_solveMachines; omega)⟩
def wX6_leastWay (i : Nat) : Prop := i = 90
def wX6_leastWay_0 (i : Nat) : Prop := i = 90
set_option maxHeartbeats 4000000 in
theorem NX6_leastWay_go {F : Nat} {v : Int32} {V1 : mV} : ∀ k' : Nat, (∀ (l1I : Int32) (l2I : Int32) (l3I : Int32) (l4I : Int32) (l5I : Int32) (V : mV), mX6_leastWay_go F k' 0 l1I l2I l3I l4I l5I V = some (v, V1) → mAv (wX6_leastWay_0) V V1) := by
  intro k'
  induction k' with
  | zero => exact (fun _ _ _ _ _ _ h => by cases h)
  | succ k' ih =>
    intro l1I l2I l3I l4I l5I V h
    rw [mX6_leastWay_go, if_pos rfl] at h
    unfold mX6_leastWay_b0 at h
    rcases mIf_some h with ⟨_, h⟩ | ⟨_, h⟩
    · obtain ⟨c1, h⟩ := mGd_some h
      obtain ⟨V3, eV3, h⟩ := mLt_some h
      have a2 : mAv (wX6_leastWay_0) V V3 := by rw [eV3]; exact mAv.I mAv.rf (by unfold wX6_leastWay_0; omega)
      obtain ⟨v4, _, h⟩ := mBN_some h
      obtain ⟨_, rfl⟩ := mRW h
      exact a2
    · obtain ⟨v9, _, h⟩ := mBN_some h
      rcases mIf_some h with ⟨_, h⟩ | ⟨_, h⟩
      · obtain ⟨x15, _, h⟩ := mLt_some h
        exact mAv.tr mAv.rf (ih _ _ _ _ _ _ h) (fun i z => by unfold wX6_leastWay_0 at z; unfold wX6_leastWay_0; omega)
      · obtain ⟨c3, h⟩ := mGd_some h
        obtain ⟨V17, eV17, h⟩ := mLt_some h
        have a4 : mAv (wX6_leastWay_0) V V17 := by rw [eV17]; exact mAv.I mAv.rf (by unfold wX6_leastWay_0; omega)
        obtain ⟨v18, _, h⟩ := mBN_some h
        obtain ⟨v23, _, h⟩ := mBN_some h
        rcases mIf_some h with ⟨_, h⟩ | ⟨_, h⟩
        · rcases mIf_some h with ⟨_, h⟩ | ⟨_, h⟩
          · obtain ⟨_, rfl⟩ := mRW h
            exact a4
          · obtain ⟨x32, _, h⟩ := mLt_some h
            exact mAv.tr a4 (ih _ _ _ _ _ _ h) (fun i z => by unfold wX6_leastWay_0 at z; unfold wX6_leastWay_0; omega)
        · rcases mIf_some h with ⟨_, h⟩ | ⟨_, h⟩
          · obtain ⟨_, rfl⟩ := mRW h
            exact a4
          · obtain ⟨x30, _, h⟩ := mLt_some h
            exact mAv.tr a4 (ih _ _ _ _ _ _ h) (fun i z => by unfold wX6_leastWay_0 at z; unfold wX6_leastWay_0; omega)
set_option maxHeartbeats 4000000 in
theorem NX6_leastWay {F : Nat} {V V1 : mV} {v : Int32} {l1I : Int32} {l2I : Int32} {l3I : Int32} (h : mX6_leastWay F l1I l2I l3I V = some (v, V1)) : mAv (wX6_leastWay) V V1 := by
  have ih := NX6_leastWay_go (F := F) (v := v) (V1 := V1) F
  unfold mX6_leastWay mX6_leastWay_s at h
  obtain ⟨c5, h⟩ := mGd_some h
  obtain ⟨x34, _, h⟩ := mLt_some h
  exact mAv.tr mAv.rf (ih _ _ _ _ _ _ h) (fun i z => by unfold wX6_leastWay_0 at z; unfold wX6_leastWay; omega)
def wX6_judgeGame (l1A : Nat) (l2A : Nat) (i : Nat) : Prop := i = 8 ∨ (88 ≤ i ∧ i ≤ 90)
def wX6_judgeGame_0 (l1A : Nat) (l2A : Nat) (i : Nat) : Prop := i = 90
set_option maxHeartbeats 4000000 in
theorem NX6_judgeGame_go {F : Nat} {v : Int32} {V1 : mV} : ∀ k' : Nat, (∀ (l1A : Nat) (l2A : Nat) (l3I : Int32) (l4I : Int32) (Ln : Nat → Nat) (V : mV), mX6_judgeGame_go F k' 0 Ln l1A l2A l3I l4I V = some (v, V1) → mAv (wX6_judgeGame_0 l1A l2A) V V1) := by
  intro k'
  induction k' with
  | zero => exact (fun _ _ _ _ _ _ h => by cases h)
  | succ k' ih =>
    intro l1A l2A l3I l4I Ln V h
    rw [mX6_judgeGame_go, if_pos rfl] at h
    unfold mX6_judgeGame_b0 at h
    rcases mIf_some h with ⟨_, h⟩ | ⟨_, h⟩
    · obtain ⟨v2, _, h⟩ := mBN_some h
      obtain ⟨v7, _, h⟩ := mBN_some h
      rcases mIf_some h with ⟨_, h⟩ | ⟨_, h⟩
      · obtain ⟨_, rfl⟩ := mRW h
        exact mAv.rf
      · obtain ⟨_, rfl⟩ := mRW h
        exact mAv.rf
    · obtain ⟨v13, _, h⟩ := mBN_some h
      obtain ⟨c1, h⟩ := mGd_some h
      rcases mIf_some h with ⟨_, h⟩ | ⟨_, h⟩
      · rcases mIf_some h with ⟨_, h⟩ | ⟨_, h⟩
        · obtain ⟨_, rfl⟩ := mRW h
          exact mAv.rf
        · rcases mIf_some h with ⟨_, h⟩ | ⟨_, h⟩
          · obtain ⟨_, rfl⟩ := mRW h
            exact mAv.rf
          · obtain ⟨c2, h⟩ := mGd_some h
            obtain ⟨v23, _, h⟩ := mBN_some h
            rcases mIf_some h with ⟨_, h⟩ | ⟨_, h⟩
            · obtain ⟨_, rfl⟩ := mRW h
              exact mAv.rf
            · obtain ⟨c3, h⟩ := mGd_some h
              obtain ⟨V30, eV30, h⟩ := mLt_some h
              have a4 : mAv (wX6_judgeGame_0 l1A l2A) V V30 := by rw [eV30]; exact mAv.I mAv.rf (by unfold wX6_judgeGame_0; omega)
              obtain ⟨x31, _, h⟩ := mLt_some h
              exact mAv.tr a4 (ih _ _ _ _ _ _ h) (fun i z => by unfold wX6_judgeGame_0 at z; unfold wX6_judgeGame_0; omega)
      · rcases mIf_some h with ⟨_, h⟩ | ⟨_, h⟩
        · obtain ⟨x33, _, h⟩ := mLt_some h
          exact mAv.tr mAv.rf (ih _ _ _ _ _ _ h) (fun i z => by unfold wX6_judgeGame_0 at z; unfold wX6_judgeGame_0; omega)
        · obtain ⟨_, rfl⟩ := mRW h
          exact mAv.rf
set_option maxHeartbeats 4000000 in
theorem NX6_judgeGame {F : Nat} {Ln : Nat → Nat} {V V1 : mV} {v : Int32} {l1A : Nat} {l2A : Nat} {l3I : Int32} (h : mX6_judgeGame F Ln l1A l2A l3I V = some (v, V1)) : mAv (wX6_judgeGame l1A l2A) V V1 := by
  have ih := NX6_judgeGame_go (F := F) (v := v) (V1 := V1) F
  unfold mX6_judgeGame mX6_judgeGame_s at h
  obtain ⟨v34, V35, h5, h⟩ := mBW_some h
  have a5 : mAv (wX6_judgeGame l1A l2A) V V35 := mAv.tr mAv.rf (NX6_loadNodes h5) (fun i z => by unfold wX6_loadNodes at z; unfold wX6_judgeGame; omega)
  rcases mIf_some h with ⟨_, h⟩ | ⟨_, h⟩
  · exact mAv.tr a5 (ih _ _ _ _ _ _ h) (fun i z => by unfold wX6_judgeGame_0 at z; unfold wX6_judgeGame; omega)
  · obtain ⟨_, rfl⟩ := mRW h
    exact a5
def wX7_solvePairings (l1A : Nat) (i : Nat) : Prop := (19 ≤ i ∧ i ≤ 20) ∨ i = l1A ∨ i = l1A + 2 ∨ i = l1A + 3
set_option maxHeartbeats 4000000 in
theorem NX7_solvePairings {F : Nat} {Ln Ln1 : Nat → Nat} {V V1 : mV} {v : Unit} {l1A : Nat} (h : mX7_solvePairings F Ln l1A V = some (v, Ln1, V1)) : mAv (wX7_solvePairings l1A) V V1 ∧ mAl (wX7_solvePairings l1A) Ln Ln1 := by
  unfold mX7_solvePairings at h
  obtain ⟨v1, V2, h1, h⟩ := mBW_some h
  have a1 : mAv (wX7_solvePairings l1A) V V2 := mAv.tr mAv.rf (NX7_countPairs h1) (fun i z => by unfold wX7_countPairs at z; unfold wX7_solvePairings; omega)
  obtain ⟨x6, _, h⟩ := mLt_some h
  obtain ⟨c2, h⟩ := mGd_some h
  obtain ⟨x8, _, h⟩ := mLt_some h
  rcases mIf_some h with ⟨_, h⟩ | ⟨_, h⟩
  · obtain ⟨v10, V11, h3, h⟩ := mBW_some h
    have a3 : mAv (wX7_solvePairings l1A) V V11 := mAv.tr a1 (NX3_tell h3) (fun i z => by unfold wX3_tell at z; unfold wX7_solvePairings; omega)
    obtain ⟨v15, L16, V16, h4, h⟩ := mBA_some h
    have y4 := NX7_writeNodes h4
    have a4 : mAv (wX7_solvePairings l1A) V V16 := mAv.tr a3 y4.1 (fun i z => by unfold wX7_writeNodes at z; unfold wX7_solvePairings; omega)
    have b4 : mAl (wX7_solvePairings l1A) Ln L16 := mAl.tr mAl.rf y4.2 (fun i z => by unfold wX7_writeNodes at z; unfold wX7_solvePairings; omega)
    obtain ⟨_, rfl, rfl⟩ := mRA3 h
    exact ⟨a4, b4⟩
  · obtain ⟨v20, V21, h5, h⟩ := mBW_some h
    have a5 : mAv (wX7_solvePairings l1A) V V21 := mAv.tr a1 (NX3_tell h5) (fun i z => by unfold wX3_tell at z; unfold wX7_solvePairings; omega)
    obtain ⟨v25, L26, V26, h6, h⟩ := mBA_some h
    have y6 := NX7_writePairing h6
    have a6 : mAv (wX7_solvePairings l1A) V V26 := mAv.tr a5 y6.1 (fun i z => by unfold wX7_writePairing at z; unfold wX7_solvePairings; omega)
    have b6 : mAl (wX7_solvePairings l1A) Ln L26 := mAl.tr mAl.rf y6.2 (fun i z => by unfold wX7_writePairing at z; unfold wX7_solvePairings; omega)
    obtain ⟨_, rfl, rfl⟩ := mRA3 h
    exact ⟨a6, b6⟩
def wX7_greatest (i : Nat) : Prop := i = 2 ∨ (24 ≤ i ∧ i ≤ 25)
def wX7_greatest_0 (i : Nat) : Prop := i = 2 ∨ (24 ≤ i ∧ i ≤ 25)
set_option maxHeartbeats 4000000 in
theorem NX7_greatest_go {F : Nat} {v : Int32} {V1 : mV} : ∀ k' : Nat, (∀ (l1I : Int32) (V : mV), mX7_greatest_go F k' 0 l1I V = some (v, V1) → mAv (wX7_greatest_0) V V1) := by
  intro k'
  induction k' with
  | zero => exact (fun _ _ h => by cases h)
  | succ k' ih =>
    intro l1I V h
    rw [mX7_greatest_go, if_pos rfl] at h
    unfold mX7_greatest_b0 at h
    rcases mIf_some h with ⟨_, h⟩ | ⟨_, h⟩
    · obtain ⟨_, rfl⟩ := mRW h
      exact mAv.rf
    · obtain ⟨v2, V3, h1, h⟩ := mBW_some h
      have a1 : mAv (wX7_greatest_0) V V3 := mAv.tr mAv.rf (NX7_leadsOn h1) (fun i z => by unfold wX7_leadsOn at z; unfold wX7_greatest_0; omega)
      rcases mIf_some h with ⟨_, h⟩ | ⟨_, h⟩
      · obtain ⟨_, rfl⟩ := mRW h
        exact a1
      · obtain ⟨x8, _, h⟩ := mLt_some h
        exact mAv.tr a1 (ih _ _ h) (fun i z => by unfold wX7_greatest_0 at z; unfold wX7_greatest_0; omega)
set_option maxHeartbeats 4000000 in
theorem NX7_greatest {F : Nat} {V V1 : mV} {v : Int32} (h : mX7_greatest F V = some (v, V1)) : mAv (wX7_greatest) V V1 := by
  have ih := NX7_greatest_go (F := F) (v := v) (V1 := V1) F
  unfold mX7_greatest mX7_greatest_s at h
  obtain ⟨v9, V10, h2, h⟩ := mBW_some h
  have a2 : mAv (wX7_greatest) V V10 := mAv.tr mAv.rf (NJ7_fill_53178 h2) (fun i z => by unfold wJ7_fill_53178 at z; unfold wX7_greatest; omega)
  exact mAv.tr a2 (ih _ _ h) (fun i z => by unfold wX7_greatest_0 at z; unfold wX7_greatest; omega)
def wX8_findPoint (l1A : Nat) (i : Nat) : Prop := i = 6 ∨ i = 54 ∨ (56 ≤ i ∧ i ≤ 60)
def wX8_findPoint_0 (l1A : Nat) (i : Nat) : Prop := i = 6 ∨ i = 54 ∨ (56 ≤ i ∧ i ≤ 60)
def wX8_findPoint_1 (l1A : Nat) (i : Nat) : Prop := i = 6 ∨ i = 54 ∨ (56 ≤ i ∧ i ≤ 60)
set_option maxHeartbeats 4000000 in
theorem NX8_findPoint_go {F : Nat} {v : Int32} {V1 : mV} : ∀ k' : Nat, (∀ (l1A : Nat) (l2I : Int32) (V : mV), mX8_findPoint_go F k' 0 l1A l2I V = some (v, V1) → mAv (wX8_findPoint_0 l1A) V V1) ∧ (∀ (l1A : Nat) (l2I : Int32) (V : mV), mX8_findPoint_go F k' 1 l1A l2I V = some (v, V1) → mAv (wX8_findPoint_1 l1A) V V1) := by
  intro k'
  induction k' with
  | zero => exact ⟨(fun _ _ _ h => by cases h), (fun _ _ _ h => by cases h)⟩
  | succ k' ih =>
    refine ⟨?_, ?_⟩
    · intro l1A l2I V h
      rw [mX8_findPoint_go, if_pos rfl] at h
      unfold mX8_findPoint_b0 at h
      rcases mIf_some h with ⟨_, h⟩ | ⟨_, h⟩
      · exact mAv.tr mAv.rf (ih.2 _ _ _ h) (fun i z => by unfold wX8_findPoint_1 at z; unfold wX8_findPoint_0; omega)
      · obtain ⟨c1, h⟩ := mGd_some h
        obtain ⟨v4, V5, h2, h⟩ := mBW_some h
        have z2_0 := (Nat.lt_of_not_le (fun z => c1 (Or.inr z)))
        have a2 : mAv (wX8_findPoint_0 l1A) V V5 := mAv.tr mAv.rf (NJ7_fill_d0a16 h2) (fun i z => by unfold wJ7_fill_d0a16 at z; unfold wX8_findPoint_0; omega)
        obtain ⟨c3, h⟩ := mGd_some h
        obtain ⟨c4, h⟩ := mGd_some h
        obtain ⟨V12, eV12, h⟩ := mLt_some h
        have z5 := (Nat.lt_of_not_le (fun z => c4 (Or.inr z)))
        have a5 : mAv (wX8_findPoint_0 l1A) V V12 := by rw [eV12]; exact mAv.J a2 (by unfold wX8_findPoint_0; omega)
        obtain ⟨x13, _, h⟩ := mLt_some h
        exact mAv.tr a5 (ih.1 _ _ _ h) (fun i z => by unfold wX8_findPoint_0 at z; unfold wX8_findPoint_0; omega)
    · intro l1A l2I V h
      rw [mX8_findPoint_go, if_neg (by decide), if_pos rfl] at h
      unfold mX8_findPoint_b1 at h
      rcases mIf_some h with ⟨_, h⟩ | ⟨_, h⟩
      · obtain ⟨_, rfl⟩ := mRW h
        exact mAv.rf
      · obtain ⟨v15, V16, h6, h⟩ := mBW_some h
        have a6 : mAv (wX8_findPoint_1 l1A) V V16 := mAv.tr mAv.rf (NX8_fulfilItem h6) (fun i z => by unfold wX8_fulfilItem at z; unfold wX8_findPoint_1; omega)
        rcases mIf_some h with ⟨_, h⟩ | ⟨_, h⟩
        · obtain ⟨_, rfl⟩ := mRW h
          exact a6
        · obtain ⟨x21, _, h⟩ := mLt_some h
          exact mAv.tr a6 (ih.2 _ _ _ h) (fun i z => by unfold wX8_findPoint_1 at z; unfold wX8_findPoint_1; omega)
set_option maxHeartbeats 4000000 in
theorem NX8_findPoint {F : Nat} {V V1 : mV} {v : Int32} {l1A : Nat} (h : mX8_findPoint F l1A V = some (v, V1)) : mAv (wX8_findPoint l1A) V V1 := by
  have ih := NX8_findPoint_go (F := F) (v := v) (V1 := V1) F
  unfold mX8_findPoint mX8_findPoint_s at h
  obtain ⟨V22, eV22, h⟩ := mLt_some h
  have a7 : mAv (wX8_findPoint l1A) V V22 := by rw [eV22]; exact mAv.F mAv.rf (by unfold wX8_findPoint; omega)
  obtain ⟨v23, V24, h8, h⟩ := mBW_some h
  have a8 : mAv (wX8_findPoint l1A) V V24 := mAv.tr a7 (NJ7_fill_d0a16 h8) (fun i z => by unfold wJ7_fill_d0a16 at z; unfold wX8_findPoint; omega)
  exact mAv.tr a8 (ih.1 _ _ _ h) (fun i z => by unfold wX8_findPoint_0 at z; unfold wX8_findPoint; omega)
def wX8_writePrime (l1A : Nat) (i : Nat) : Prop := i = l1A ∨ i = l1A + 1
def wX8_writePrime_0 (l1A : Nat) (i : Nat) : Prop := i = l1A ∨ i = l1A + 1
set_option maxHeartbeats 4000000 in
theorem NX8_writePrime_go {rc : (Nat → Nat) → Int32 → Nat → Int32 → mV → Option (Unit × (Nat → Nat) × mV)} (hrc : ∀ {Ln Ln1 : Nat → Nat} {V V1 : mV} {v : Unit} {l0I : Int32} {l1A : Nat} {l2I : Int32}, rc Ln l0I l1A l2I V = some (v, Ln1, V1) → mAv (wX8_writePrime l1A) V V1 ∧ mAl (wX8_writePrime l1A) Ln Ln1) {F : Nat} {v : Unit} {Ln1 : Nat → Nat} {V1 : mV} : ∀ k' : Nat, (∀ (l1A : Nat) (l2I : Int32) (l3I : Int32) (l4I : Int32) (Ln : Nat → Nat) (V : mV), mX8_writePrime_go F rc k' 0 Ln l1A l2I l3I l4I V = some (v, Ln1, V1) → mAv (wX8_writePrime_0 l1A) V V1 ∧ mAl (wX8_writePrime_0 l1A) Ln Ln1) := by
  intro k'
  induction k' with
  | zero => exact (fun _ _ _ _ _ _ h => by cases h)
  | succ k' ih =>
    intro l1A l2I l3I l4I Ln V h
    rw [mX8_writePrime_go, if_pos rfl] at h
    unfold mX8_writePrime_b0 at h
    rcases mIf_some h with ⟨_, h⟩ | ⟨_, h⟩
    · obtain ⟨_, rfl, rfl⟩ := mRA3 h
      exact ⟨mAv.rf, mAl.rf⟩
    · rcases mIf_some h with ⟨_, h⟩ | ⟨_, h⟩
      · obtain ⟨_, rfl, rfl⟩ := mRA3 h
        exact ⟨mAv.rf, mAl.rf⟩
      · obtain ⟨v3, _, h⟩ := mBN_some h
        obtain ⟨v8, L9, V9, h1, h⟩ := mBA_some h
        have y1 := hrc h1
        have a1 : mAv (wX8_writePrime_0 l1A) V V9 := mAv.tr mAv.rf y1.1 (fun i z => by unfold wX8_writePrime at z; unfold wX8_writePrime_0; omega)
        have b1 : mAl (wX8_writePrime_0 l1A) Ln L9 := mAl.tr mAl.rf y1.2 (fun i z => by unfold wX8_writePrime at z; unfold wX8_writePrime_0; omega)
        obtain ⟨v13, _, h⟩ := mBN_some h
        obtain ⟨x18, _, h⟩ := mLt_some h
        have y := ih _ _ _ _ _ _ h
        exact ⟨mAv.tr a1 y.1 (fun i z => by unfold wX8_writePrime_0 at z; unfold wX8_writePrime_0; omega), mAl.tr b1 y.2 (fun i z => by unfold wX8_writePrime_0 at z; unfold wX8_writePrime_0; omega)⟩
set_option maxHeartbeats 4000000 in
theorem NX8_writePrime_a {rc : (Nat → Nat) → Int32 → Nat → Int32 → mV → Option (Unit × (Nat → Nat) × mV)} (hrc : ∀ {Ln Ln1 : Nat → Nat} {V V1 : mV} {v : Unit} {l0I : Int32} {l1A : Nat} {l2I : Int32}, rc Ln l0I l1A l2I V = some (v, Ln1, V1) → mAv (wX8_writePrime l1A) V V1 ∧ mAl (wX8_writePrime l1A) Ln Ln1) {F : Nat} {Ln Ln1 : Nat → Nat} {V V1 : mV} {v : Unit} {l0I : Int32} {l1A : Nat} {l2I : Int32} (h : mX8_writePrime_a F rc Ln l0I l1A l2I V = some (v, Ln1, V1)) : mAv (wX8_writePrime l1A) V V1 ∧ mAl (wX8_writePrime l1A) Ln Ln1 := by
  have ih := NX8_writePrime_go (rc := rc) @hrc (F := F) (v := v) (Ln1 := Ln1) (V1 := V1) F
  unfold mX8_writePrime_a mX8_writePrime_s at h
  obtain ⟨v19, L20, V20, h2, h⟩ := mBA_some h
  have y2 := NX9_add h2
  have a2 : mAv (wX8_writePrime l1A) V V20 := mAv.tr mAv.rf y2.1 (fun i z => by unfold wX9_add at z; unfold wX8_writePrime; omega)
  have b2 : mAl (wX8_writePrime l1A) Ln L20 := mAl.tr mAl.rf y2.2 (fun i z => by unfold wX9_add at z; unfold wX8_writePrime; omega)
  rcases mIf_some h with ⟨_, h⟩ | ⟨_, h⟩
  · obtain ⟨_, rfl, rfl⟩ := mRA3 h
    exact ⟨a2, b2⟩
  · rcases mIf_some h with ⟨_, h⟩ | ⟨_, h⟩
    · obtain ⟨v26, _, h⟩ := mBN_some h
      obtain ⟨v31, L32, V32, h3, h⟩ := mBA_some h
      have y3 := NX9_add h3
      have a3 : mAv (wX8_writePrime l1A) V V32 := mAv.tr a2 y3.1 (fun i z => by unfold wX9_add at z; unfold wX8_writePrime; omega)
      have b3 : mAl (wX8_writePrime l1A) Ln L32 := mAl.tr b2 y3.2 (fun i z => by unfold wX9_add at z; unfold wX8_writePrime; omega)
      obtain ⟨x36, _, h⟩ := mLt_some h
      have y := ih _ _ _ _ _ _ h
      exact ⟨mAv.tr a3 y.1 (fun i z => by unfold wX8_writePrime_0 at z; unfold wX8_writePrime; omega), mAl.tr b3 y.2 (fun i z => by unfold wX8_writePrime_0 at z; unfold wX8_writePrime; omega)⟩
    · obtain ⟨_, rfl, rfl⟩ := mRA3 h
      exact ⟨a2, b2⟩
theorem NX8_writePrime_d {F : Nat} : ∀ (j : Nat) {Ln Ln1 : Nat → Nat} {V V1 : mV} {v : Unit} {l0I : Int32} {l1A : Nat} {l2I : Int32}, mX8_writePrime F j Ln l0I l1A l2I V = some (v, Ln1, V1) → mAv (wX8_writePrime l1A) V V1 ∧ mAl (wX8_writePrime l1A) Ln Ln1 := by
  intro j
  induction j with
  | zero => intro _ _ _ _ _ _ _ _ h; cases h
  | succ j ih => intro _ _ _ _ _ _ _ _ h; exact NX8_writePrime_a (rc := mX8_writePrime F j) (hrc := fun h => ih h) h
theorem NX8_writePrime {F j : Nat} {Ln Ln1 : Nat → Nat} {V V1 : mV} {v : Unit} {l0I : Int32} {l1A : Nat} {l2I : Int32} (h : mX8_writePrime F j Ln l0I l1A l2I V = some (v, Ln1, V1)) : mAv (wX8_writePrime l1A) V V1 ∧ mAl (wX8_writePrime l1A) Ln Ln1 := NX8_writePrime_d j h
def wX8_writeParts (l3A : Nat) (i : Nat) : Prop := i = l3A ∨ i = l3A + 1
set_option maxHeartbeats 4000000 in
theorem NX8_writeParts_a {rc : (Nat → Nat) → Int32 → Int32 → Nat → mV → Option (Unit × (Nat → Nat) × mV)} (hrc : ∀ {Ln Ln1 : Nat → Nat} {V V1 : mV} {v : Unit} {l1I : Int32} {l2I : Int32} {l3A : Nat}, rc Ln l1I l2I l3A V = some (v, Ln1, V1) → mAv (wX8_writeParts l3A) V V1 ∧ mAl (wX8_writeParts l3A) Ln Ln1) {F : Nat} {Ln Ln1 : Nat → Nat} {V V1 : mV} {v : Unit} {l1I : Int32} {l2I : Int32} {l3A : Nat} (h : mX8_writeParts_a F rc Ln l1I l2I l3A V = some (v, Ln1, V1)) : mAv (wX8_writeParts l3A) V V1 ∧ mAl (wX8_writeParts l3A) Ln Ln1 := by
  unfold mX8_writeParts_a at h
  obtain ⟨v1, _, h⟩ := mBN_some h
  rcases mIf_some h with ⟨_, h⟩ | ⟨_, h⟩
  · obtain ⟨v19, L20, V20, h1, h⟩ := mBA_some h
    have y1 := NX9_add h1
    have a1 : mAv (wX8_writeParts l3A) V V20 := mAv.tr mAv.rf y1.1 (fun i z => by unfold wX9_add at z; unfold wX8_writeParts; omega)
    have b1 : mAl (wX8_writeParts l3A) Ln L20 := mAl.tr mAl.rf y1.2 (fun i z => by unfold wX9_add at z; unfold wX8_writeParts; omega)
    obtain ⟨v24, L25, V25, h2, h⟩ := mBA_some h
    have y2 := NX9_add h2
    have a2 : mAv (wX8_writeParts l3A) V V25 := mAv.tr a1 y2.1 (fun i z => by unfold wX9_add at z; unfold wX8_writeParts; omega)
    have b2 : mAl (wX8_writeParts l3A) Ln L25 := mAl.tr b1 y2.2 (fun i z => by unfold wX9_add at z; unfold wX8_writeParts; omega)
    obtain ⟨_, rfl, rfl⟩ := mRA3 h
    exact ⟨a2, b2⟩
  · rcases mIf_some h with ⟨_, h⟩ | ⟨_, h⟩
    · obtain ⟨_, rfl, rfl⟩ := mRA3 h
      exact ⟨mAv.rf, mAl.rf⟩
    · rcases mIf_some h with ⟨_, h⟩ | ⟨_, h⟩
      · obtain ⟨_, rfl, rfl⟩ := mRA3 h
        exact ⟨mAv.rf, mAl.rf⟩
      · obtain ⟨v9, L10, V10, h3, h⟩ := mBA_some h
        have y3 := hrc h3
        have a3 : mAv (wX8_writeParts l3A) V V10 := mAv.tr mAv.rf y3.1 (fun i z => by unfold wX8_writeParts at z; unfold wX8_writeParts; omega)
        have b3 : mAl (wX8_writeParts l3A) Ln L10 := mAl.tr mAl.rf y3.2 (fun i z => by unfold wX8_writeParts at z; unfold wX8_writeParts; omega)
        obtain ⟨v14, L15, V15, h4, h⟩ := mBA_some h
        have y4 := hrc h4
        have a4 : mAv (wX8_writeParts l3A) V V15 := mAv.tr a3 y4.1 (fun i z => by unfold wX8_writeParts at z; unfold wX8_writeParts; omega)
        have b4 : mAl (wX8_writeParts l3A) Ln L15 := mAl.tr b3 y4.2 (fun i z => by unfold wX8_writeParts at z; unfold wX8_writeParts; omega)
        obtain ⟨_, rfl, rfl⟩ := mRA3 h
        exact ⟨a4, b4⟩
theorem NX8_writeParts_d {F : Nat} : ∀ (j : Nat) {Ln Ln1 : Nat → Nat} {V V1 : mV} {v : Unit} {l1I : Int32} {l2I : Int32} {l3A : Nat}, mX8_writeParts F j Ln l1I l2I l3A V = some (v, Ln1, V1) → mAv (wX8_writeParts l3A) V V1 ∧ mAl (wX8_writeParts l3A) Ln Ln1 := by
  intro j
  induction j with
  | zero => intro _ _ _ _ _ _ _ _ h; cases h
  | succ j ih => intro _ _ _ _ _ _ _ _ h; exact NX8_writeParts_a (rc := mX8_writeParts F j) (hrc := fun h => ih h) h
theorem NX8_writeParts {F j : Nat} {Ln Ln1 : Nat → Nat} {V V1 : mV} {v : Unit} {l1I : Int32} {l2I : Int32} {l3A : Nat} (h : mX8_writeParts F j Ln l1I l2I l3A V = some (v, Ln1, V1)) : mAv (wX8_writeParts l3A) V V1 ∧ mAl (wX8_writeParts l3A) Ln Ln1 := NX8_writeParts_d j h
end
