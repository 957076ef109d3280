/-! WHAT EACH METHOD LEAVES ALONE: X6_leastWay, X6_judgeGame, X7_solvePairings, X7_greatest, X8_findPoint, X8_writePrime, X8_writeParts, X8_continueChain, X10_reachAll, X10_judgeRows, X10_stepFrom, X10_judgeSteps, X1_solve. -/
section
def wX6_leastWay (i : Nat) : Prop := i = 90
def wX6_leastWay_0 (i : Nat) : Prop := i = 90
set_option maxHeartbeats 4000000 in
theorem NX6_leastWay_go {F : Nat} {v : Int32} {V1 : mV} : ∀ k' : Nat, (∀ (l1I : Int32) (l2I : Int32) (l3I : Int32) (l4I : Int32) (l5I : Int32) (V : mV), mX6_leastWay_go F k' 0 l1I l2I l3I l4I l5I V = some (v, V1) → mAv (wX6_leastWay_0) V V1) := by
  intro k'
  induction k' with
  | zero => exact (fun _ _ _ _ _ _ h => by cases h)
  | succ k' ih =>
    intro l1I l2I l3I l4I l5I V h
    rw [mX6_leastWay_go, if_pos rfl] at h
    unfold mX6_leastWay_b0 at h
    rcases mIf_some h with ⟨_, h⟩ | ⟨_, h⟩
    · obtain ⟨c1, h⟩ := mGd_some h
      obtain ⟨V3, eV3, h⟩ := mLt_some h
      have a2 : mAv (wX6_leastWay_0) V V3 := by rw [eV3]; exact mAv.I mAv.rf (by unfold wX6_leastWay_0; omega)
      obtain ⟨v4, _, h⟩ := mBN_some h
      obtain ⟨_, rfl⟩ := mRW h
      exact a2
    · obtain ⟨v9, _, h⟩ := mBN_some h
      rcases mIf_some h with ⟨_, h⟩ | ⟨_, h⟩
      · obtain ⟨x15, _, h⟩ := mLt_some h
        exact mAv.tr mAv.rf (ih _ _ _ _ _ _ h) (fun i z => by unfold wX6_leastWay_0 at z; unfold wX6_leastWay_0; omega)
      · obtain ⟨c3, h⟩ := mGd_some h
        obtain ⟨V17, eV17, h⟩ := mLt_some h
        have a4 : mAv (wX6_leastWay_0) V V17 := by rw [eV17]; exact mAv.I mAv.rf (by unfold wX6_leastWay_0; omega)
        obtain ⟨v18, _, h⟩ := mBN_some h
        obtain ⟨v23, _, h⟩ := mBN_some h
        rcases mIf_some h with ⟨_, h⟩ | ⟨_, h⟩
        · rcases mIf_some h with ⟨_, h⟩ | ⟨_, h⟩
          · obtain ⟨_, rfl⟩ := mRW h
            exact a4
          · obtain ⟨x32, _, h⟩ := mLt_some h
            exact mAv.tr a4 (ih _ _ _ _ _ _ h) (fun i z => by unfold wX6_leastWay_0 at z; unfold wX6_leastWay_0; omega)
        · rcases mIf_some h with ⟨_, h⟩ | ⟨_, h⟩
          · obtain ⟨_, rfl⟩ := mRW h
            exact a4
          · obtain ⟨x30, _, h⟩ := mLt_some h
            exact mAv.tr a4 (ih _ _ _ _ _ _ h) (fun i z => by unfold wX6_leastWay_0 at z; unfold wX6_leastWay_0; omega)
set_option maxHeartbeats 4000000 in
theorem NX6_leastWay {F : Nat} {V V1 : mV} {v : Int32} {l1I : Int32} {l2I : Int32} {l3I : Int32} (h : mX6_leastWay F l1I l2I l3I V = some (v, V1)) : mAv (wX6_leastWay) V V1 := by
  have ih := NX6_leastWay_go (F := F) (v := v) (V1 := V1) F
  unfold mX6_leastWay mX6_leastWay_s at h
  obtain ⟨c5, h⟩ := mGd_some h
  obtain ⟨x34, _, h⟩ := mLt_some h
  exact mAv.tr mAv.rf (ih _ _ _ _ _ _ h) (fun i z => by unfold wX6_leastWay_0 at z; unfold wX6_leastWay; omega)
def wX6_judgeGame (l1A : Nat) (l2A : Nat) (i : Nat) : Prop := i = 8 ∨ (88 ≤ i ∧ i ≤ 90)
def wX6_judgeGame_0 (l1A : Nat) (l2A : Nat) (i : Nat) : Prop := i = 90
set_option maxHeartbeats 4000000 in
theorem NX6_judgeGame_go {F : Nat} {v : Int32} {V1 : mV} : ∀ k' : Nat, (∀ (l1A : Nat) (l2A : Nat) (l3I : Int32) (l4I : Int32) (Ln : Nat → Nat) (V : mV), mX6_judgeGame_go F k' 0 Ln l1A l2A l3I l4I V = some (v, V1) → mAv (wX6_judgeGame_0 l1A l2A) V V1) := by
  intro k'
  induction k' with
  | zero => exact (fun _ _ _ _ _ _ h => by cases h)
  | succ k' ih =>
    intro l1A l2A l3I l4I Ln V h
    rw [mX6_judgeGame_go, if_pos rfl] at h
    unfold mX6_judgeGame_b0 at h
    rcases mIf_some h with ⟨_, h⟩ | ⟨_, h⟩
    · obtain ⟨v2, _, h⟩ := mBN_some h
      obtain ⟨v7, _, h⟩ := mBN_some h
      rcases mIf_some h with ⟨_, h⟩ | ⟨_, h⟩
      · obtain ⟨_, rfl⟩ := mRW h
        exact mAv.rf
      · obtain ⟨_, rfl⟩ := mRW h
        exact mAv.rf
    · obtain ⟨v13, _, h⟩ := mBN_some h
      obtain ⟨c1, h⟩ := mGd_some h
      rcases mIf_some h with ⟨_, h⟩ | ⟨_, h⟩
      · rcases mIf_some h with ⟨_, h⟩ | ⟨_, h⟩
        · obtain ⟨_, rfl⟩ := mRW h
          exact mAv.rf
        · rcases mIf_some h with ⟨_, h⟩ | ⟨_, h⟩
          · obtain ⟨_, rfl⟩ := mRW h
            exact mAv.rf
          · obtain ⟨c2, h⟩ := mGd_some h
            obtain ⟨v23, _, h⟩ := mBN_some h
            rcases mIf_some h with ⟨_, h⟩ | ⟨_, h⟩
            · obtain ⟨_, rfl⟩ := mRW h
              exact mAv.rf
            · obtain ⟨c3, h⟩ := mGd_some h
              obtain ⟨V30, eV30, h⟩ := mLt_some h
              have a4 : mAv (wX6_judgeGame_0 l1A l2A) V V30 := by rw [eV30]; exact mAv.I mAv.rf (by unfold wX6_judgeGame_0; omega)
              obtain ⟨x31, _, h⟩ := mLt_some h
              exact mAv.tr a4 (ih _ _ _ _ _ _ h) (fun i z => by unfold wX6_judgeGame_0 at z; unfold wX6_judgeGame_0; omega)
      · rcases mIf_some h with ⟨_, h⟩ | ⟨_, h⟩
        · obtain ⟨x33, _, h⟩ := mLt_some h
          exact mAv.tr mAv.rf (ih _ _ _ _ _ _ h) (fun i z => by unfold wX6_judgeGame_0 at z; unfold wX6_judgeGame_0; omega)
        · obtain ⟨_, rfl⟩ := mRW h
          exact mAv.rf
set_option maxHeartbeats 4000000 in
theorem NX6_judgeGame {F : Nat} {Ln : Nat → Nat} {V V1 : mV} {v : Int32} {l1A : Nat} {l2A : Nat} {l3I : Int32} (h : mX6_judgeGame F Ln l1A l2A l3I V = some (v, V1)) : mAv (wX6_judgeGame l1A l2A) V V1 := by
  have ih := NX6_judgeGame_go (F := F) (v := v) (V1 := V1) F
  unfold mX6_judgeGame mX6_judgeGame_s at h
  obtain ⟨v34, V35, h5, h⟩ := mBW_some h
  have a5 : mAv (wX6_judgeGame l1A l2A) V V35 := mAv.tr mAv.rf (NX6_loadNodes h5) (fun i z => by unfold wX6_loadNodes at z; unfold wX6_judgeGame; omega)
  rcases mIf_some h with ⟨_, h⟩ | ⟨_, h⟩
  · exact mAv.tr a5 (ih _ _ _ _ _ _ h) (fun i z => by unfold wX6_judgeGame_0 at z; unfold wX6_judgeGame; omega)
  · obtain ⟨_, rfl⟩ := mRW h
    exact a5
def wX7_solvePairings (l1A : Nat) (i : Nat) : Prop := (19 ≤ i ∧ i ≤ 20) ∨ i = 3000 ∨ i = l1A ∨ i = l1A + 2 ∨ i = l1A + 3
set_option maxHeartbeats 4000000 in
theorem NX7_solvePairings {F : Nat} {Ln Ln1 : Nat → Nat} {V V1 : mV} {v : Unit} {l1A : Nat} (h : mX7_solvePairings F Ln l1A V = some (v, Ln1, V1)) : mAv (wX7_solvePairings l1A) V V1 ∧ mAl (wX7_solvePairings l1A) Ln Ln1 := by
  unfold mX7_solvePairings at h
  obtain ⟨v1, V2, h1, h⟩ := mBW_some h
  have a1 : mAv (wX7_solvePairings l1A) V V2 := mAv.tr mAv.rf (NX7_countPairs h1) (fun i z => by unfold wX7_countPairs at z; unfold wX7_solvePairings; omega)
  obtain ⟨x6, _, h⟩ := mLt_some h
  obtain ⟨c2, h⟩ := mGd_some h
  obtain ⟨x8, _, h⟩ := mLt_some h
  rcases mIf_some h with ⟨_, h⟩ | ⟨_, h⟩
  · obtain ⟨v10, V11, h3, h⟩ := mBW_some h
    have a3 : mAv (wX7_solvePairings l1A) V V11 := mAv.tr a1 (NX3_tell h3) (fun i z => by unfold wX3_tell at z; unfold wX7_solvePairings; omega)
    obtain ⟨v15, L16, V16, h4, h⟩ := mBA_some h
    have y4 := NX7_writeNodes h4
    have a4 : mAv (wX7_solvePairings l1A) V V16 := mAv.tr a3 y4.1 (fun i z => by unfold wX7_writeNodes at z; unfold wX7_solvePairings; omega)
    have b4 : mAl (wX7_solvePairings l1A) Ln L16 := mAl.tr mAl.rf y4.2 (fun i z => by unfold wX7_writeNodes at z; unfold wX7_solvePairings; omega)
    obtain ⟨_, rfl, rfl⟩ := mRA3 h
    exact ⟨a4, b4⟩
  · obtain ⟨v20, V21, h5, h⟩ := mBW_some h
    have a5 : mAv (wX7_solvePairings l1A) V V21 := mAv.tr a1 (NX3_tell h5) (fun i z => by unfold wX3_tell at z; unfold wX7_solvePairings; omega)
    obtain ⟨v25, L26, V26, h6, h⟩ := mBA_some h
    have y6 := NX7_writePairing h6
    have a6 : mAv (wX7_solvePairings l1A) V V26 := mAv.tr a5 y6.1 (fun i z => by unfold wX7_writePairing at z; unfold wX7_solvePairings; omega)
    have b6 : mAl (wX7_solvePairings l1A) Ln L26 := mAl.tr mAl.rf y6.2 (fun i z => by unfold wX7_writePairing at z; unfold wX7_solvePairings; omega)
    obtain ⟨_, rfl, rfl⟩ := mRA3 h
    exact ⟨a6, b6⟩
def wX7_greatest (i : Nat) : Prop := i = 2 ∨ (24 ≤ i ∧ i ≤ 25)
def wX7_greatest_0 (i : Nat) : Prop := i = 2 ∨ (24 ≤ i ∧ i ≤ 25)
set_option maxHeartbeats 4000000 in
theorem NX7_greatest_go {F : Nat} {v : Int32} {V1 : mV} : ∀ k' : Nat, (∀ (l1I : Int32) (V : mV), mX7_greatest_go F k' 0 l1I V = some (v, V1) → mAv (wX7_greatest_0) V V1) := by
  intro k'
  induction k' with
  | zero => exact (fun _ _ h => by cases h)
  | succ k' ih =>
    intro l1I V h
    rw [mX7_greatest_go, if_pos rfl] at h
    unfold mX7_greatest_b0 at h
    rcases mIf_some h with ⟨_, h⟩ | ⟨_, h⟩
    · obtain ⟨_, rfl⟩ := mRW h
      exact mAv.rf
    · obtain ⟨v2, V3, h1, h⟩ := mBW_some h
      have a1 : mAv (wX7_greatest_0) V V3 := mAv.tr mAv.rf (NX7_leadsOn h1) (fun i z => by unfold wX7_leadsOn at z; unfold wX7_greatest_0; omega)
      rcases mIf_some h with ⟨_, h⟩ | ⟨_, h⟩
      · obtain ⟨_, rfl⟩ := mRW h
        exact a1
      · obtain ⟨x8, _, h⟩ := mLt_some h
        exact mAv.tr a1 (ih _ _ h) (fun i z => by unfold wX7_greatest_0 at z; unfold wX7_greatest_0; omega)
set_option maxHeartbeats 4000000 in
theorem NX7_greatest {F : Nat} {V V1 : mV} {v : Int32} (h : mX7_greatest F V = some (v, V1)) : mAv (wX7_greatest) V V1 := by
  have ih := NX7_greatest_go (F := F) (v := v) (V1 := V1) F
  unfold mX7_greatest mX7_greatest_s at h
  obtain ⟨v9, V10, h2, h⟩ := mBW_some h
  have a2 : mAv (wX7_greatest) V V10 := mAv.tr mAv.rf (NJ7_fill_53178 h2) (fun i z => by unfold wJ7_fill_53178 at z; unfold wX7_greatest; omega)
  exact mAv.tr a2 (ih _ _ h) (fun i z => by unfold wX7_greatest_0 at z; unfold wX7_greatest; omega)
def wX8_findPoint (l1A : Nat) (i : Nat) : Prop := i = 6 ∨ i = 54 ∨ (56 ≤ i ∧ i ≤ 60)
def wX8_findPoint_0 (l1A : Nat) (i : Nat) : Prop := i = 6 ∨ i = 54 ∨ (56 ≤ i ∧ i ≤ 60)
def wX8_findPoint_1 (l1A : Nat) (i : Nat) : Prop := i = 6 ∨ i = 54 ∨ (56 ≤ i ∧ i ≤ 60)
set_option maxHeartbeats 4000000 in
theorem NX8_findPoint_go {F : Nat} {v : Int32} {V1 : mV} : ∀ k' : Nat, (∀ (l1A : Nat) (l2I : Int32) (V : mV), mX8_findPoint_go F k' 0 l1A l2I V = some (v, V1) → mAv (wX8_findPoint_0 l1A) V V1) ∧ (∀ (l1A : Nat) (l2I : Int32) (V : mV), mX8_findPoint_go F k' 1 l1A l2I V = some (v, V1) → mAv (wX8_findPoint_1 l1A) V V1) := by
  intro k'
  induction k' with
  | zero => exact ⟨(fun _ _ _ h => by cases h), (fun _ _ _ h => by cases h)⟩
  | succ k' ih =>
    refine ⟨?_, ?_⟩
    · intro l1A l2I V h
      rw [mX8_findPoint_go, if_pos rfl] at h
      unfold mX8_findPoint_b0 at h
      rcases mIf_some h with ⟨_, h⟩ | ⟨_, h⟩
      · exact mAv.tr mAv.rf (ih.2 _ _ _ h) (fun i z => by unfold wX8_findPoint_1 at z; unfold wX8_findPoint_0; omega)
      · obtain ⟨c1, h⟩ := mGd_some h
        obtain ⟨v4, V5, h2, h⟩ := mBW_some h
        have z2_0 := (Nat.lt_of_not_le (fun z => c1 (Or.inr z)))
        have a2 : mAv (wX8_findPoint_0 l1A) V V5 := mAv.tr mAv.rf (NJ7_fill_d0a16 h2) (fun i z => by unfold wJ7_fill_d0a16 at z; unfold wX8_findPoint_0; omega)
        obtain ⟨c3, h⟩ := mGd_some h
        obtain ⟨c4, h⟩ := mGd_some h
        obtain ⟨V12, eV12, h⟩ := mLt_some h
        have z5 := (Nat.lt_of_not_le (fun z => c4 (Or.inr z)))
        have a5 : mAv (wX8_findPoint_0 l1A) V V12 := by rw [eV12]; exact mAv.J a2 (by unfold wX8_findPoint_0; omega)
        obtain ⟨x13, _, h⟩ := mLt_some h
        exact mAv.tr a5 (ih.1 _ _ _ h) (fun i z => by unfold wX8_findPoint_0 at z; unfold wX8_findPoint_0; omega)
    · intro l1A l2I V h
      rw [mX8_findPoint_go, if_neg (by decide), if_pos rfl] at h
      unfold mX8_findPoint_b1 at h
      rcases mIf_some h with ⟨_, h⟩ | ⟨_, h⟩
      · obtain ⟨_, rfl⟩ := mRW h
        exact mAv.rf
      · obtain ⟨v15, V16, h6, h⟩ := mBW_some h
        have a6 : mAv (wX8_findPoint_1 l1A) V V16 := mAv.tr mAv.rf (NX8_fulfilItem h6) (fun i z => by unfold wX8_fulfilItem at z; unfold wX8_findPoint_1; omega)
        rcases mIf_some h with ⟨_, h⟩ | ⟨_, h⟩
        · obtain ⟨_, rfl⟩ := mRW h
          exact a6
        · obtain ⟨x21, _, h⟩ := mLt_some h
          exact mAv.tr a6 (ih.2 _ _ _ h) (fun i z => by unfold wX8_findPoint_1 at z; unfold wX8_findPoint_1; omega)
set_option maxHeartbeats 4000000 in
theorem NX8_findPoint {F : Nat} {V V1 : mV} {v : Int32} {l1A : Nat} (h : mX8_findPoint F l1A V = some (v, V1)) : mAv (wX8_findPoint l1A) V V1 := by
  have ih := NX8_findPoint_go (F := F) (v := v) (V1 := V1) F
  unfold mX8_findPoint mX8_findPoint_s at h
  obtain ⟨V22, eV22, h⟩ := mLt_some h
  have a7 : mAv (wX8_findPoint l1A) V V22 := by rw [eV22]; exact mAv.F mAv.rf (by unfold wX8_findPoint; omega)
  obtain ⟨v23, V24, h8, h⟩ := mBW_some h
  have a8 : mAv (wX8_findPoint l1A) V V24 := mAv.tr a7 (NJ7_fill_d0a16 h8) (fun i z => by unfold wJ7_fill_d0a16 at z; unfold wX8_findPoint; omega)
  exact mAv.tr a8 (ih.1 _ _ _ h) (fun i z => by unfold wX8_findPoint_0 at z; unfold wX8_findPoint; omega)
def wX8_writePrime (l1A : Nat) (i : Nat) : Prop := i = 3000 ∨ i = l1A ∨ i = l1A + 1
def wX8_writePrime_0 (l1A : Nat) (i : Nat) : Prop := i = 3000 ∨ i = l1A ∨ i = l1A + 1
set_option maxHeartbeats 4000000 in
theorem NX8_writePrime_go {rc : (Nat → Nat) → Int32 → Nat → Int32 → mV → Option (Unit × (Nat → Nat) × mV)} (hrc : ∀ {Ln Ln1 : Nat → Nat} {V V1 : mV} {v : Unit} {l0I : Int32} {l1A : Nat} {l2I : Int32}, rc Ln l0I l1A l2I V = some (v, Ln1, V1) → mAv (wX8_writePrime l1A) V V1 ∧ mAl (wX8_writePrime l1A) Ln Ln1) {F : Nat} {v : Unit} {Ln1 : Nat → Nat} {V1 : mV} : ∀ k' : Nat, (∀ (l1A : Nat) (l2I : Int32) (l3I : Int32) (l4I : Int32) (Ln : Nat → Nat) (V : mV), mX8_writePrime_go F rc k' 0 Ln l1A l2I l3I l4I V = some (v, Ln1, V1) → mAv (wX8_writePrime_0 l1A) V V1 ∧ mAl (wX8_writePrime_0 l1A) Ln Ln1) := by
  intro k'
  induction k' with
  | zero => exact (fun _ _ _ _ _ _ h => by cases h)
  | succ k' ih =>
    intro l1A l2I l3I l4I Ln V h
    rw [mX8_writePrime_go, if_pos rfl] at h
    unfold mX8_writePrime_b0 at h
    rcases mIf_some h with ⟨_, h⟩ | ⟨_, h⟩
    · obtain ⟨_, rfl, rfl⟩ := mRA3 h
      exact ⟨mAv.rf, mAl.rf⟩
    · rcases mIf_some h with ⟨_, h⟩ | ⟨_, h⟩
      · obtain ⟨_, rfl, rfl⟩ := mRA3 h
        exact ⟨mAv.rf, mAl.rf⟩
      · obtain ⟨v3, _, h⟩ := mBN_some h
        obtain ⟨v8, L9, V9, h1, h⟩ := mBA_some h
        have y1 := hrc h1
        have a1 : mAv (wX8_writePrime_0 l1A) V V9 := mAv.tr mAv.rf y1.1 (fun i z => by unfold wX8_writePrime at z; unfold wX8_writePrime_0; omega)
        have b1 : mAl (wX8_writePrime_0 l1A) Ln L9 := mAl.tr mAl.rf y1.2 (fun i z => by unfold wX8_writePrime at z; unfold wX8_writePrime_0; omega)
        obtain ⟨v13, _, h⟩ := mBN_some h
        obtain ⟨x18, _, h⟩ := mLt_some h
        have y := ih _ _ _ _ _ _ h
        exact ⟨mAv.tr a1 y.1 (fun i z => by unfold wX8_writePrime_0 at z; unfold wX8_writePrime_0; omega), mAl.tr b1 y.2 (fun i z => by unfold wX8_writePrime_0 at z; unfold wX8_writePrime_0; omega)⟩
set_option maxHeartbeats 4000000 in
theorem NX8_writePrime_a {rc : (Nat → Nat) → Int32 → Nat → Int32 → mV → Option (Unit × (Nat → Nat) × mV)} (hrc : ∀ {Ln Ln1 : Nat → Nat} {V V1 : mV} {v : Unit} {l0I : Int32} {l1A : Nat} {l2I : Int32}, rc Ln l0I l1A l2I V = some (v, Ln1, V1) → mAv (wX8_writePrime l1A) V V1 ∧ mAl (wX8_writePrime l1A) Ln Ln1) {F : Nat} {Ln Ln1 : Nat → Nat} {V V1 : mV} {v : Unit} {l0I : Int32} {l1A : Nat} {l2I : Int32} (h : mX8_writePrime_a F rc Ln l0I l1A l2I V = some (v, Ln1, V1)) : mAv (wX8_writePrime l1A) V V1 ∧ mAl (wX8_writePrime l1A) Ln Ln1 := by
  have ih := NX8_writePrime_go (rc := rc) @hrc (F := F) (v := v) (Ln1 := Ln1) (V1 := V1) F
  unfold mX8_writePrime_a mX8_writePrime_s at h
  obtain ⟨v19, L20, V20, h2, h⟩ := mBA_some h
  have y2 := NX9_add h2
  have a2 : mAv (wX8_writePrime l1A) V V20 := mAv.tr mAv.rf y2.1 (fun i z => by unfold wX9_add at z; unfold wX8_writePrime; omega)
  have b2 : mAl (wX8_writePrime l1A) Ln L20 := mAl.tr mAl.rf y2.2 (fun i z => by unfold wX9_add at z; unfold wX8_writePrime; omega)
  rcases mIf_some h with ⟨_, h⟩ | ⟨_, h⟩
  · obtain ⟨_, rfl, rfl⟩ := mRA3 h
    exact ⟨a2, b2⟩
  · rcases mIf_some h with ⟨_, h⟩ | ⟨_, h⟩
    · obtain ⟨v26, _, h⟩ := mBN_some h
      obtain ⟨v31, L32, V32, h3, h⟩ := mBA_some h
      have y3 := NX9_add h3
      have a3 : mAv (wX8_writePrime l1A) V V32 := mAv.tr a2 y3.1 (fun i z => by unfold wX9_add at z; unfold wX8_writePrime; omega)
      have b3 : mAl (wX8_writePrime l1A) Ln L32 := mAl.tr b2 y3.2 (fun i z => by unfold wX9_add at z; unfold wX8_writePrime; omega)
      obtain ⟨x36, _, h⟩ := mLt_some h
      have y := ih _ _ _ _ _ _ h
      exact ⟨mAv.tr a3 y.1 (fun i z => by unfold wX8_writePrime_0 at z; unfold wX8_writePrime; omega), mAl.tr b3 y.2 (fun i z => by unfold wX8_writePrime_0 at z; unfold wX8_writePrime; omega)⟩
    · obtain ⟨_, rfl, rfl⟩ := mRA3 h
      exact ⟨a2, b2⟩
theorem NX8_writePrime_d {F : Nat} : ∀ (j : Nat) {Ln Ln1 : Nat → Nat} {V V1 : mV} {v : Unit} {l0I : Int32} {l1A : Nat} {l2I : Int32}, mX8_writePrime F j Ln l0I l1A l2I V = some (v, Ln1, V1) → mAv (wX8_writePrime l1A) V V1 ∧ mAl (wX8_writePrime l1A) Ln Ln1 := by
  intro j
  induction j with
  | zero => intro _ _ _ _ _ _ _ _ h; cases h
  | succ j ih => intro _ _ _ _ _ _ _ _ h; exact NX8_writePrime_a (rc := mX8_writePrime F j) (hrc := fun h => ih h) h
theorem NX8_writePrime {F j : Nat} {Ln Ln1 : Nat → Nat} {V V1 : mV} {v : Unit} {l0I : Int32} {l1A : Nat} {l2I : Int32} (h : mX8_writePrime F j Ln l0I l1A l2I V = some (v, Ln1, V1)) : mAv (wX8_writePrime l1A) V V1 ∧ mAl (wX8_writePrime l1A) Ln Ln1 := NX8_writePrime_d j h
def wX8_writeParts (l3A : Nat) (i : Nat) : Prop := i = 3000 ∨ i = l3A ∨ i = l3A + 1
set_option maxHeartbeats 4000000 in
theorem NX8_writeParts_a {rc : (Nat → Nat) → Int32 → Int32 → Nat → mV → Option (Unit × (Nat → Nat) × mV)} (hrc : ∀ {Ln Ln1 : Nat → Nat} {V V1 : mV} {v : Unit} {l1I : Int32} {l2I : Int32} {l3A : Nat}, rc Ln l1I l2I l3A V = some (v, Ln1, V1) → mAv (wX8_writeParts l3A) V V1 ∧ mAl (wX8_writeParts l3A) Ln Ln1) {F : Nat} {Ln Ln1 : Nat → Nat} {V V1 : mV} {v : Unit} {l1I : Int32} {l2I : Int32} {l3A : Nat} (h : mX8_writeParts_a F rc Ln l1I l2I l3A V = some (v, Ln1, V1)) : mAv (wX8_writeParts l3A) V V1 ∧ mAl (wX8_writeParts l3A) Ln Ln1 := by
  unfold mX8_writeParts_a at h
  obtain ⟨v1, _, h⟩ := mBN_some h
  rcases mIf_some h with ⟨_, h⟩ | ⟨_, h⟩
  · obtain ⟨v19, L20, V20, h1, h⟩ := mBA_some h
    have y1 := NX9_add h1
    have a1 : mAv (wX8_writeParts l3A) V V20 := mAv.tr mAv.rf y1.1 (fun i z => by unfold wX9_add at z; unfold wX8_writeParts; omega)
    have b1 : mAl (wX8_writeParts l3A) Ln L20 := mAl.tr mAl.rf y1.2 (fun i z => by unfold wX9_add at z; unfold wX8_writeParts; omega)
    obtain ⟨v24, L25, V25, h2, h⟩ := mBA_some h
    have y2 := NX9_add h2
    have a2 : mAv (wX8_writeParts l3A) V V25 := mAv.tr a1 y2.1 (fun i z => by unfold wX9_add at z; unfold wX8_writeParts; omega)
    have b2 : mAl (wX8_writeParts l3A) Ln L25 := mAl.tr b1 y2.2 (fun i z => by unfold wX9_add at z; unfold wX8_writeParts; omega)
    obtain ⟨_, rfl, rfl⟩ := mRA3 h
    exact ⟨a2, b2⟩
  · rcases mIf_some h with ⟨_, h⟩ | ⟨_, h⟩
    · obtain ⟨_, rfl, rfl⟩ := mRA3 h
      exact ⟨mAv.rf, mAl.rf⟩
    · rcases mIf_some h with ⟨_, h⟩ | ⟨_, h⟩
      · obtain ⟨_, rfl, rfl⟩ := mRA3 h
        exact ⟨mAv.rf, mAl.rf⟩
      · obtain ⟨v9, L10, V10, h3, h⟩ := mBA_some h
        have y3 := hrc h3
        have a3 : mAv (wX8_writeParts l3A) V V10 := mAv.tr mAv.rf y3.1 (fun i z => by unfold wX8_writeParts at z; unfold wX8_writeParts; omega)
        have b3 : mAl (wX8_writeParts l3A) Ln L10 := mAl.tr mAl.rf y3.2 (fun i z => by unfold wX8_writeParts at z; unfold wX8_writeParts; omega)
        obtain ⟨v14, L15, V15, h4, h⟩ := mBA_some h
        have y4 := hrc h4
        have a4 : mAv (wX8_writeParts l3A) V V15 := mAv.tr a3 y4.1 (fun i z => by unfold wX8_writeParts at z; unfold wX8_writeParts; omega)
        have b4 : mAl (wX8_writeParts l3A) Ln L15 := mAl.tr b3 y4.2 (fun i z => by unfold wX8_writeParts at z; unfold wX8_writeParts; omega)
        obtain ⟨_, rfl, rfl⟩ := mRA3 h
        exact ⟨a4, b4⟩
theorem NX8_writeParts_d {F : Nat} : ∀ (j : Nat) {Ln Ln1 : Nat → Nat} {V V1 : mV} {v : Unit} {l1I : Int32} {l2I : Int32} {l3A : Nat}, mX8_writeParts F j Ln l1I l2I l3A V = some (v, Ln1, V1) → mAv (wX8_writeParts l3A) V V1 ∧ mAl (wX8_writeParts l3A) Ln Ln1 := by
  intro j
  induction j with
  | zero => intro _ _ _ _ _ _ _ _ h; cases h
  | succ j ih => intro _ _ _ _ _ _ _ _ h; exact NX8_writeParts_a (rc := mX8_writeParts F j) (hrc := fun h => ih h) h
theorem NX8_writeParts {F j : Nat} {Ln Ln1 : Nat → Nat} {V V1 : mV} {v : Unit} {l1I : Int32} {l2I : Int32} {l3A : Nat} (h : mX8_writeParts F j Ln l1I l2I l3A V = some (v, Ln1, V1)) : mAv (wX8_writeParts l3A) V V1 ∧ mAl (wX8_writeParts l3A) Ln Ln1 := NX8_writeParts_d j h
def wX8_continueChain (i : Nat) : Prop := i = 6 ∨ (62 ≤ i ∧ i ≤ 69)
def wX8_continueChain_0 (i : Nat) : Prop := i = 6 ∨ (62 ≤ i ∧ i ≤ 69)
def wX8_continueChain_1 (i : Nat) : Prop := i = 6 ∨ (62 ≤ i ∧ i ≤ 69)
set_option maxHeartbeats 4000000 in
theorem NX8_continueChain_go {F : Nat} {v : Unit} {V1 : mV} : ∀ k' : Nat, (∀ (l1I : Int32) (V : mV), mX8_continueChain_go F k' 0 l1I V = some (v, V1) → mAv (wX8_continueChain_0) V V1) ∧ (∀ (V : mV), mX8_continueChain_go F k' 1 0 V = some (v, V1) → mAv (wX8_continueChain_1) V V1) := by
  intro k'
  induction k' with
  | zero => exact ⟨(fun _ _ h => by cases h), (fun _ h => by cases h)⟩
  | succ k' ih =>
    refine ⟨?_, ?_⟩
    · intro l1I V h
      rw [mX8_continueChain_go, if_pos rfl] at h
      unfold mX8_continueChain_b0 at h
      rcases mIf_some h with ⟨_, h⟩ | ⟨_, h⟩
      · obtain ⟨c1, h⟩ := mGd_some h
        obtain ⟨v4, V5, h2, h⟩ := mBW_some h
        have z2_0 := (Nat.lt_of_not_le (fun z => c1 (Or.inr z)))
        have a2 : mAv (wX8_continueChain_0) V V5 := mAv.tr mAv.rf (NX8_makeFree h2) (fun i z => by unfold wX8_makeFree at z; unfold wX8_continueChain_0; omega)
        obtain ⟨c3, h⟩ := mGd_some h
        obtain ⟨c4, h⟩ := mGd_some h
        obtain ⟨V11, eV11, h⟩ := mLt_some h
        have a5 : mAv (wX8_continueChain_0) V V11 := by rw [eV11]; exact mAv.I a2 (by unfold wX8_continueChain_0; omega)
        obtain ⟨V12, eV12, h⟩ := mLt_some h
        have a6 : mAv (wX8_continueChain_0) V V12 := by rw [eV12]; exact mAv.F a5 (by unfold wX8_continueChain_0; omega)
        exact mAv.tr a6 (ih.2 _ h) (fun i z => by unfold wX8_continueChain_1 at z; unfold wX8_continueChain_0; omega)
      · obtain ⟨c7, h⟩ := mGd_some h
        obtain ⟨c8, h⟩ := mGd_some h
        obtain ⟨c9, h⟩ := mGd_some h
        obtain ⟨c10, h⟩ := mGd_some h
        obtain ⟨V19, eV19, h⟩ := mLt_some h
        have z11 := (Nat.lt_of_not_le (fun z => c7 (Or.inr z)))
        have a11 : mAv (wX8_continueChain_0) V V19 := by rw [eV19]; exact mAv.J mAv.rf (by unfold wX8_continueChain_0; omega)
        obtain ⟨x20, _, h⟩ := mLt_some h
        exact mAv.tr a11 (ih.1 _ _ h) (fun i z => by unfold wX8_continueChain_0 at z; unfold wX8_continueChain_0; omega)
    · intro V h
      rw [mX8_continueChain_go, if_neg (by decide), if_pos rfl] at h
      unfold mX8_continueChain_b1 at h
      rcases mIf_some h with ⟨_, h⟩ | ⟨_, h⟩
      · obtain ⟨_, rfl⟩ := mRW h
        exact mAv.rf
      · obtain ⟨c12, h⟩ := mGd_some h
        rcases mIf_some h with ⟨_, h⟩ | ⟨_, h⟩
        · obtain ⟨_, rfl⟩ := mRW h
          exact mAv.rf
        · obtain ⟨v24, V25, h13, h⟩ := mBW_some h
          have a13 : mAv (wX8_continueChain_1) V V25 := mAv.tr mAv.rf (NX8_addRest h13) (fun i z => by unfold wX8_addRest at z; unfold wX8_continueChain_1; omega)
          rcases mIf_some h with ⟨_, h⟩ | ⟨_, h⟩
          · obtain ⟨_, rfl⟩ := mRW h
            exact a13
          · obtain ⟨c14, h⟩ := mGd_some h
            obtain ⟨v32, V33, h15, h⟩ := mBW_some h
            have z15_0 := (Nat.lt_of_not_le (fun z => c14 (Or.inr z)))
            have a15 : mAv (wX8_continueChain_1) V V33 := mAv.tr a13 (NX8_makeFree h15) (fun i z => by unfold wX8_makeFree at z; unfold wX8_continueChain_1; omega)
            obtain ⟨V37, eV37, h⟩ := mLt_some h
            have a16 : mAv (wX8_continueChain_1) V V37 := by rw [eV37]; exact mAv.F a15 (by unfold wX8_continueChain_1; omega)
            exact mAv.tr a16 (ih.2 _ h) (fun i z => by unfold wX8_continueChain_1 at z; unfold wX8_continueChain_1; omega)
set_option maxHeartbeats 4000000 in
theorem NX8_continueChain {F : Nat} {V V1 : mV} {v : Unit} (h : mX8_continueChain F V = some (v, V1)) : mAv (wX8_continueChain) V V1 := by
  have ih := NX8_continueChain_go (F := F) (v := v) (V1 := V1) F
  unfold mX8_continueChain mX8_continueChain_s at h
  obtain ⟨V38, eV38, h⟩ := mLt_some h
  have a17 : mAv (wX8_continueChain) V V38 := by rw [eV38]; exact mAv.F mAv.rf (by unfold wX8_continueChain; omega)
  obtain ⟨c18, h⟩ := mGd_some h
  rcases mIf_some h with ⟨_, h⟩ | ⟨_, h⟩
  · obtain ⟨_, rfl⟩ := mRW h
    exact a17
  · obtain ⟨c19, h⟩ := mGd_some h
    obtain ⟨v43, V44, h20, h⟩ := mBW_some h
    have z20_0 := (Nat.lt_of_not_le (fun z => c19 (Or.inr z)))
    have a20 : mAv (wX8_continueChain) V V44 := mAv.tr a17 (NJ7_fill_d0a16 h20) (fun i z => by unfold wJ7_fill_d0a16 at z; unfold wX8_continueChain; omega)
    exact mAv.tr a20 (ih.1 _ _ h) (fun i z => by unfold wX8_continueChain_0 at z; unfold wX8_continueChain; omega)
def wX10_reachAll (l1A : Nat) (i : Nat) : Prop := i = 7 ∨ (71 ≤ i ∧ i ≤ 81)
def wX10_reachAll_0 (i : Nat) : Prop := (77 ≤ i ∧ i ≤ 81)
def wX10_reachAll_1 (i : Nat) : Prop := (77 ≤ i ∧ i ≤ 81)
def wX10_reachAll_2 (i : Nat) : Prop := (77 ≤ i ∧ i ≤ 81)
set_option maxHeartbeats 4000000 in
theorem NX10_reachAll_go {F : Nat} {v : Int32} {V1 : mV} : ∀ k' : Nat, (∀ (l2I : Int32) (l3I : Int32) (V : mV), mX10_reachAll_go F k' 0 l2I l3I 0 0 V = some (v, V1) → mAv (wX10_reachAll_0) V V1) ∧ (∀ (l2I : Int32) (l3I : Int32) (l4I : Int32) (V : mV), mX10_reachAll_go F k' 1 l2I l3I l4I 0 V = some (v, V1) → mAv (wX10_reachAll_1) V V1) ∧ (∀ (l2I : Int32) (l3I : Int32) (l4I : Int32) (l5I : Int32) (V : mV), mX10_reachAll_go F k' 2 l2I l3I l4I l5I V = some (v, V1) → mAv (wX10_reachAll_2) V V1) := by
  intro k'
  induction k' with
  | zero => exact ⟨(fun _ _ _ h => by cases h), (fun _ _ _ _ h => by cases h), (fun _ _ _ _ _ h => by cases h)⟩
  | succ k' ih =>
    refine ⟨?_, ?_, ?_⟩
    · intro l2I l3I V h
      rw [mX10_reachAll_go, if_pos rfl] at h
      unfold mX10_reachAll_b0 at h
      rcases mIf_some h with ⟨_, h⟩ | ⟨_, h⟩
      · obtain ⟨_, rfl⟩ := mRW h
        exact mAv.rf
      · obtain ⟨c1, h⟩ := mGd_some h
        obtain ⟨v3, V4, h2, h⟩ := mBW_some h
        have a2 : mAv (wX10_reachAll_0) V V4 := mAv.tr mAv.rf (NX10_writePoints h2) (fun i z => by unfold wX10_writePoints at z; unfold wX10_reachAll_0; omega)
        exact mAv.tr a2 (ih.2.1 _ _ _ _ h) (fun i z => by unfold wX10_reachAll_1 at z; unfold wX10_reachAll_0; omega)
    · intro l2I l3I l4I V h
      rw [mX10_reachAll_go, if_neg (by decide), if_pos rfl] at h
      unfold mX10_reachAll_b1 at h
      rcases mIf_some h with ⟨_, h⟩ | ⟨_, h⟩
      · obtain ⟨x9, _, h⟩ := mLt_some h
        exact mAv.tr mAv.rf (ih.1 _ _ _ h) (fun i z => by unfold wX10_reachAll_0 at z; unfold wX10_reachAll_1; omega)
      · exact mAv.tr mAv.rf (ih.2.2 _ _ _ _ _ h) (fun i z => by unfold wX10_reachAll_2 at z; unfold wX10_reachAll_1; omega)
    · intro l2I l3I l4I l5I V h
      rw [mX10_reachAll_go, if_neg (by decide), if_neg (by decide), if_pos rfl] at h
      unfold mX10_reachAll_b2 at h
      rcases mIf_some h with ⟨_, h⟩ | ⟨_, h⟩
      · obtain ⟨v11, _, h⟩ := mBN_some h
        obtain ⟨c3, h⟩ := mGd_some h
        rcases mIf_some h with ⟨_, h⟩ | ⟨_, h⟩
        · obtain ⟨x18, _, h⟩ := mLt_some h
          exact mAv.tr mAv.rf (ih.2.1 _ _ _ _ h) (fun i z => by unfold wX10_reachAll_1 at z; unfold wX10_reachAll_2; omega)
        · rcases mIf_some h with ⟨_, h⟩ | ⟨_, h⟩
          · obtain ⟨x20, _, h⟩ := mLt_some h
            exact mAv.tr mAv.rf (ih.2.1 _ _ _ _ h) (fun i z => by unfold wX10_reachAll_1 at z; unfold wX10_reachAll_2; omega)
          · obtain ⟨c4, h⟩ := mGd_some h
            obtain ⟨V22, eV22, h⟩ := mLt_some h
            have a5 : mAv (wX10_reachAll_2) V V22 := by rw [eV22]; exact mAv.I mAv.rf (by unfold wX10_reachAll_2; omega)
            obtain ⟨c6, h⟩ := mGd_some h
            obtain ⟨c7, h⟩ := mGd_some h
            obtain ⟨V25, eV25, h⟩ := mLt_some h
            have a8 : mAv (wX10_reachAll_2) V V25 := by rw [eV25]; exact mAv.I a5 (by unfold wX10_reachAll_2; omega)
            obtain ⟨c9, h⟩ := mGd_some h
            obtain ⟨V27, eV27, h⟩ := mLt_some h
            have a10 : mAv (wX10_reachAll_2) V V27 := by rw [eV27]; exact mAv.I a8 (by unfold wX10_reachAll_2; omega)
            obtain ⟨x28, _, h⟩ := mLt_some h
            obtain ⟨x29, _, h⟩ := mLt_some h
            exact mAv.tr a10 (ih.2.1 _ _ _ _ h) (fun i z => by unfold wX10_reachAll_1 at z; unfold wX10_reachAll_2; omega)
      · obtain ⟨c11, h⟩ := mGd_some h
        obtain ⟨c12, h⟩ := mGd_some h
        obtain ⟨c13, h⟩ := mGd_some h
        obtain ⟨c14, h⟩ := mGd_some h
        obtain ⟨V35, eV35, h⟩ := mLt_some h
        have a15 : mAv (wX10_reachAll_2) V V35 := by rw [eV35]; exact mAv.I mAv.rf (by unfold wX10_reachAll_2; omega)
        obtain ⟨x36, _, h⟩ := mLt_some h
        exact mAv.tr a15 (ih.2.2 _ _ _ _ _ h) (fun i z => by unfold wX10_reachAll_2 at z; unfold wX10_reachAll_2; omega)
set_option maxHeartbeats 4000000 in
theorem NX10_reachAll {F : Nat} {V V1 : mV} {v : Int32} {l1A : Nat} (h : mX10_reachAll F l1A V = some (v, V1)) : mAv (wX10_reachAll l1A) V V1 := by
  have ih := NX10_reachAll_go (F := F) (v := v) (V1 := V1) F
  unfold mX10_reachAll mX10_reachAll_s at h
  obtain ⟨v37, V38, h16, h⟩ := mBW_some h
  have a16 : mAv (wX10_reachAll l1A) V V38 := mAv.tr mAv.rf (NX10_loadItems h16) (fun i z => by unfold wX10_loadItems at z; unfold wX10_reachAll; omega)
  obtain ⟨v42, V43, h17, h⟩ := mBW_some h
  have a17 : mAv (wX10_reachAll l1A) V V43 := mAv.tr a16 (NJ7_fill_53178 h17) (fun i z => by unfold wJ7_fill_53178 at z; unfold wX10_reachAll; omega)
  obtain ⟨c18, h⟩ := mGd_some h
  obtain ⟨V48, eV48, h⟩ := mLt_some h
  have a19 : mAv (wX10_reachAll l1A) V V48 := by rw [eV48]; exact mAv.I a17 (by unfold wX10_reachAll; omega)
  obtain ⟨c20, h⟩ := mGd_some h
  obtain ⟨V50, eV50, h⟩ := mLt_some h
  have a21 : mAv (wX10_reachAll l1A) V V50 := by rw [eV50]; exact mAv.I a19 (by unfold wX10_reachAll; omega)
  exact mAv.tr a21 (ih.1 _ _ _ h) (fun i z => by unfold wX10_reachAll_0 at z; unfold wX10_reachAll; omega)
def wX10_judgeRows (l1A : Nat) (l2A : Nat) (i : Nat) : Prop := i = 7 ∨ (71 ≤ i ∧ i ≤ 78)
def wX10_judgeRows_0 (l2A : Nat) (i : Nat) : Prop := (77 ≤ i ∧ i ≤ 78)
def wX10_judgeRows_1 (l2A : Nat) (i : Nat) : Prop := (77 ≤ i ∧ i ≤ 78)
set_option maxHeartbeats 4000000 in
theorem NX10_judgeRows_go {F : Nat} {v : Int32} {V1 : mV} : ∀ k' : Nat, (∀ (l2A : Nat) (l3I : Int32) (l4I : Int32) (Ln : Nat → Nat) (V : mV), mX10_judgeRows_go F k' 0 Ln l2A l3I l4I V = some (v, V1) → mAv (wX10_judgeRows_0 l2A) V V1) ∧ (∀ (l2A : Nat) (l3I : Int32) (l4I : Int32) (Ln : Nat → Nat) (V : mV), mX10_judgeRows_go F k' 1 Ln l2A l3I l4I V = some (v, V1) → mAv (wX10_judgeRows_1 l2A) V V1) := by
  intro k'
  induction k' with
  | zero => exact ⟨(fun _ _ _ _ _ h => by cases h), (fun _ _ _ _ _ h => by cases h)⟩
  | succ k' ih =>
    refine ⟨?_, ?_⟩
    · intro l2A l3I l4I Ln V h
      rw [mX10_judgeRows_go, if_pos rfl] at h
      unfold mX10_judgeRows_b0 at h
      rcases mIf_some h with ⟨_, h⟩ | ⟨_, h⟩
      · obtain ⟨v2, _, h⟩ := mBN_some h
        obtain ⟨v7, _, h⟩ := mBN_some h
        rcases mIf_some h with ⟨_, h⟩ | ⟨_, h⟩
        · obtain ⟨_, rfl⟩ := mRW h
          exact mAv.rf
        · exact mAv.tr mAv.rf (ih.2 _ _ _ _ _ h) (fun i z => by unfold wX10_judgeRows_1 at z; unfold wX10_judgeRows_0; omega)
      · obtain ⟨c1, h⟩ := mGd_some h
        obtain ⟨V14, eV14, h⟩ := mLt_some h
        have a2 : mAv (wX10_judgeRows_0 l2A) V V14 := by rw [eV14]; exact mAv.I mAv.rf (by unfold wX10_judgeRows_0; omega)
        obtain ⟨x15, _, h⟩ := mLt_some h
        exact mAv.tr a2 (ih.1 _ _ _ _ _ h) (fun i z => by unfold wX10_judgeRows_0 at z; unfold wX10_judgeRows_0; omega)
    · intro l2A l3I l4I Ln V h
      rw [mX10_judgeRows_go, if_neg (by decide), if_pos rfl] at h
      unfold mX10_judgeRows_b1 at h
      rcases mIf_some h with ⟨_, h⟩ | ⟨_, h⟩
      · obtain ⟨v17, _, h⟩ := mBN_some h
        obtain ⟨v22, _, h⟩ := mBN_some h
        rcases mIf_some h with ⟨_, h⟩ | ⟨_, h⟩
        · obtain ⟨_, rfl⟩ := mRW h
          exact mAv.rf
        · obtain ⟨_, rfl⟩ := mRW h
          exact mAv.rf
      · obtain ⟨v28, V29, h3, h⟩ := mBW_some h
        have a3 : mAv (wX10_judgeRows_1 l2A) V V29 := mAv.tr mAv.rf (NX10_isLedWithin h3) (fun i z => by unfold wX10_isLedWithin at z; unfold wX10_judgeRows_1; omega)
        rcases mIf_some h with ⟨_, h⟩ | ⟨_, h⟩
        · obtain ⟨_, rfl⟩ := mRW h
          exact a3
        · obtain ⟨x34, _, h⟩ := mLt_some h
          exact mAv.tr a3 (ih.2 _ _ _ _ _ h) (fun i z => by unfold wX10_judgeRows_1 at z; unfold wX10_judgeRows_1; omega)
set_option maxHeartbeats 4000000 in
theorem NX10_judgeRows {F : Nat} {Ln : Nat → Nat} {V V1 : mV} {v : Int32} {l1A : Nat} {l2A : Nat} (h : mX10_judgeRows F Ln l1A l2A V = some (v, V1)) : mAv (wX10_judgeRows l1A l2A) V V1 := by
  have ih := NX10_judgeRows_go (F := F) (v := v) (V1 := V1) F
  unfold mX10_judgeRows mX10_judgeRows_s at h
  obtain ⟨v35, V36, h4, h⟩ := mBW_some h
  have a4 : mAv (wX10_judgeRows l1A l2A) V V36 := mAv.tr mAv.rf (NX10_loadItems h4) (fun i z => by unfold wX10_loadItems at z; unfold wX10_judgeRows; omega)
  obtain ⟨v40, _, h⟩ := mBN_some h
  rcases mIf_some h with ⟨_, h⟩ | ⟨_, h⟩
  · obtain ⟨_, rfl⟩ := mRW h
    exact a4
  · rcases mIf_some h with ⟨_, h⟩ | ⟨_, h⟩
    · obtain ⟨_, rfl⟩ := mRW h
      exact a4
    · rcases mIf_some h with ⟨_, h⟩ | ⟨_, h⟩
      · obtain ⟨_, rfl⟩ := mRW h
        exact a4
      · obtain ⟨v48, _, h⟩ := mBN_some h
        rcases mIf_some h with ⟨_, h⟩ | ⟨_, h⟩
        · obtain ⟨_, rfl⟩ := mRW h
          exact a4
        · obtain ⟨v54, V55, h5, h⟩ := mBW_some h
          have a5 : mAv (wX10_judgeRows l1A l2A) V V55 := mAv.tr a4 (NX10_areRowsOf h5) (fun i z => by unfold wX10_areRowsOf at z; unfold wX10_judgeRows; omega)
          rcases mIf_some h with ⟨_, h⟩ | ⟨_, h⟩
          · obtain ⟨_, rfl⟩ := mRW h
            exact a5
          · exact mAv.tr a5 (ih.1 _ _ _ _ _ h) (fun i z => by unfold wX10_judgeRows_0 at z; unfold wX10_judgeRows; omega)
def wX10_stepFrom (l1A : Nat) (i : Nat) : Prop := i = 7 ∨ i = 79 ∨ (82 ≤ i ∧ i ≤ 83)
def wX10_stepFrom_0 (l1A : Nat) (i : Nat) : Prop := i = 7 ∨ i = 79 ∨ (82 ≤ i ∧ i ≤ 83)
def wX10_stepFrom_1 (l1A : Nat) (i : Nat) : Prop := i = 7 ∨ i = 79 ∨ (82 ≤ i ∧ i ≤ 83)
set_option maxHeartbeats 4000000 in
theorem NX10_stepFrom_go {F : Nat} {v : Int32} {V1 : mV} : ∀ k' : Nat, (∀ (l1A : Nat) (l3I : Int32) (l4I : Int32) (V : mV), mX10_stepFrom_go F k' 0 l1A l3I l4I 0 V = some (v, V1) → mAv (wX10_stepFrom_0 l1A) V V1) ∧ (∀ (l1A : Nat) (l3I : Int32) (l4I : Int32) (l5I : Int32) (V : mV), mX10_stepFrom_go F k' 1 l1A l3I l4I l5I V = some (v, V1) → mAv (wX10_stepFrom_1 l1A) V V1) := by
  intro k'
  induction k' with
  | zero => exact ⟨(fun _ _ _ _ h => by cases h), (fun _ _ _ _ _ h => by cases h)⟩
  | succ k' ih =>
    refine ⟨?_, ?_⟩
    · intro l1A l3I l4I V h
      rw [mX10_stepFrom_go, if_pos rfl] at h
      unfold mX10_stepFrom_b0 at h
      rcases mIf_some h with ⟨_, h⟩ | ⟨_, h⟩
      · obtain ⟨_, rfl⟩ := mRW h
        exact mAv.rf
      · obtain ⟨c1, h⟩ := mGd_some h
        obtain ⟨v3, V4, h2, h⟩ := mBW_some h
        have a2 : mAv (wX10_stepFrom_0 l1A) V V4 := mAv.tr mAv.rf (NX10_findNext h2) (fun i z => by unfold wX10_findNext at z; unfold wX10_stepFrom_0; omega)
        exact mAv.tr a2 (ih.2 _ _ _ _ _ h) (fun i z => by unfold wX10_stepFrom_1 at z; unfold wX10_stepFrom_0; omega)
    · intro l1A l3I l4I l5I V h
      rw [mX10_stepFrom_go, if_neg (by decide), if_pos rfl] at h
      unfold mX10_stepFrom_b1 at h
      rcases mIf_some h with ⟨_, h⟩ | ⟨_, h⟩
      · obtain ⟨x9, _, h⟩ := mLt_some h
        exact mAv.tr mAv.rf (ih.1 _ _ _ _ h) (fun i z => by unfold wX10_stepFrom_0 at z; unfold wX10_stepFrom_1; omega)
      · obtain ⟨c3, h⟩ := mGd_some h
        obtain ⟨c4, h⟩ := mGd_some h
        rcases mIf_some h with ⟨_, h⟩ | ⟨_, h⟩
        · obtain ⟨x13, _, h⟩ := mLt_some h
          exact mAv.tr mAv.rf (ih.2 _ _ _ _ _ h) (fun i z => by unfold wX10_stepFrom_1 at z; unfold wX10_stepFrom_1; omega)
        · rcases mIf_some h with ⟨_, h⟩ | ⟨_, h⟩
          · obtain ⟨x15, _, h⟩ := mLt_some h
            exact mAv.tr mAv.rf (ih.2 _ _ _ _ _ h) (fun i z => by unfold wX10_stepFrom_1 at z; unfold wX10_stepFrom_1; omega)
          · obtain ⟨c5, h⟩ := mGd_some h
            obtain ⟨c6, h⟩ := mGd_some h
            obtain ⟨c7, h⟩ := mGd_some h
            obtain ⟨c8, h⟩ := mGd_some h
            obtain ⟨V20, eV20, h⟩ := mLt_some h
            have a9 : mAv (wX10_stepFrom_1 l1A) V V20 := by rw [eV20]; exact mAv.I mAv.rf (by unfold wX10_stepFrom_1; omega)
            obtain ⟨c10, h⟩ := mGd_some h
            obtain ⟨c11, h⟩ := mGd_some h
            obtain ⟨V23, eV23, h⟩ := mLt_some h
            have a12 : mAv (wX10_stepFrom_1 l1A) V V23 := by rw [eV23]; exact mAv.I a9 (by unfold wX10_stepFrom_1; omega)
            obtain ⟨x24, _, h⟩ := mLt_some h
            obtain ⟨x25, _, h⟩ := mLt_some h
            exact mAv.tr a12 (ih.2 _ _ _ _ _ h) (fun i z => by unfold wX10_stepFrom_1 at z; unfold wX10_stepFrom_1; omega)
set_option maxHeartbeats 4000000 in
theorem NX10_stepFrom {F : Nat} {V V1 : mV} {v : Int32} {l1A : Nat} {l2I : Int32} (h : mX10_stepFrom F l1A l2I V = some (v, V1)) : mAv (wX10_stepFrom l1A) V V1 := by
  have ih := NX10_stepFrom_go (F := F) (v := v) (V1 := V1) F
  unfold mX10_stepFrom mX10_stepFrom_s at h
  obtain ⟨v26, V27, h13, h⟩ := mBW_some h
  have a13 : mAv (wX10_stepFrom l1A) V V27 := mAv.tr mAv.rf (NJ7_fill_53178 h13) (fun i z => by unfold wJ7_fill_53178 at z; unfold wX10_stepFrom; omega)
  obtain ⟨c14, h⟩ := mGd_some h
  obtain ⟨V32, eV32, h⟩ := mLt_some h
  have a15 : mAv (wX10_stepFrom l1A) V V32 := by rw [eV32]; exact mAv.I a13 (by unfold wX10_stepFrom; omega)
  obtain ⟨c16, h⟩ := mGd_some h
  obtain ⟨V34, eV34, h⟩ := mLt_some h
  have a17 : mAv (wX10_stepFrom l1A) V V34 := by rw [eV34]; exact mAv.I a15 (by unfold wX10_stepFrom; omega)
  exact mAv.tr a17 (ih.1 _ _ _ _ h) (fun i z => by unfold wX10_stepFrom_0 at z; unfold wX10_stepFrom; omega)
def wX10_judgeSteps (l1A : Nat) (l2A : Nat) (i : Nat) : Prop := i = 7 ∨ i = 83
def wX10_judgeSteps_0 (l1A : Nat) (l2A : Nat) (i : Nat) : Prop := i = 7 ∨ i = 83
set_option maxHeartbeats 4000000 in
theorem NX10_judgeSteps_go {F : Nat} {v : Int32} {V1 : mV} : ∀ k' : Nat, (∀ (l1A : Nat) (l2A : Nat) (l3I : Int32) (l4I : Int32) (Ln : Nat → Nat) (V : mV), mX10_judgeSteps_go F k' 0 Ln l1A l2A l3I l4I V = some (v, V1) → mAv (wX10_judgeSteps_0 l1A l2A) V V1) := by
  intro k'
  induction k' with
  | zero => exact (fun _ _ _ _ _ _ h => by cases h)
  | succ k' ih =>
    intro l1A l2A l3I l4I Ln V h
    rw [mX10_judgeSteps_go, if_pos rfl] at h
    unfold mX10_judgeSteps_b0 at h
    rcases mIf_some h with ⟨_, h⟩ | ⟨_, h⟩
    · obtain ⟨_, rfl⟩ := mRW h
      exact mAv.rf
    · obtain ⟨v2, _, h⟩ := mBN_some h
      obtain ⟨v7, _, h⟩ := mBN_some h
      obtain ⟨v12, V13, h1, h⟩ := mBW_some h
      have a1 : mAv (wX10_judgeSteps_0 l1A l2A) V V13 := mAv.tr mAv.rf (NX10_isNext h1) (fun i z => by unfold wX10_isNext at z; unfold wX10_judgeSteps_0; omega)
      rcases mIf_some h with ⟨_, h⟩ | ⟨_, h⟩
      · obtain ⟨_, rfl⟩ := mRW h
        exact a1
      · obtain ⟨x18, _, h⟩ := mLt_some h
        exact mAv.tr a1 (ih _ _ _ _ _ _ h) (fun i z => by unfold wX10_judgeSteps_0 at z; unfold wX10_judgeSteps_0; omega)
set_option maxHeartbeats 4000000 in
theorem NX10_judgeSteps {F : Nat} {Ln : Nat → Nat} {V V1 : mV} {v : Int32} {l1A : Nat} {l2A : Nat} (h : mX10_judgeSteps F Ln l1A l2A V = some (v, V1)) : mAv (wX10_judgeSteps l1A l2A) V V1 := by
  have ih := NX10_judgeSteps_go (F := F) (v := v) (V1 := V1) F
  unfold mX10_judgeSteps mX10_judgeSteps_s at h
  obtain ⟨x19, _, h⟩ := mLt_some h
  rcases mIf_some h with ⟨_, h⟩ | ⟨_, h⟩
  · obtain ⟨_, rfl⟩ := mRW h
    exact mAv.rf
  · obtain ⟨v21, _, h⟩ := mBN_some h
    obtain ⟨v26, _, h⟩ := mBN_some h
    rcases mIf_some h with ⟨_, h⟩ | ⟨_, h⟩
    · obtain ⟨_, rfl⟩ := mRW h
      exact mAv.rf
    · obtain ⟨v32, _, h⟩ := mBN_some h
      obtain ⟨v37, _, h⟩ := mBN_some h
      rcases mIf_some h with ⟨_, h⟩ | ⟨_, h⟩
      · obtain ⟨v43, _, h⟩ := mBN_some h
        obtain ⟨v48, _, h⟩ := mBN_some h
        rcases mIf_some h with ⟨_, h⟩ | ⟨_, h⟩
        · exact mAv.tr mAv.rf (ih _ _ _ _ _ _ h) (fun i z => by unfold wX10_judgeSteps_0 at z; unfold wX10_judgeSteps; omega)
        · obtain ⟨_, rfl⟩ := mRW h
          exact mAv.rf
      · obtain ⟨_, rfl⟩ := mRW h
        exact mAv.rf
def wX1_solve (l1A : Nat) (i : Nat) : Prop := i = 5 ∨ (52 ≤ i ∧ i ≤ 53) ∨ i = 3000 ∨ i = l1A ∨ i = l1A + 2 ∨ i = l1A + 3
def wX1_solve_0 (l1A : Nat) (i : Nat) : Prop := i = 5 ∨ (52 ≤ i ∧ i ≤ 53) ∨ i = 3000 ∨ i = l1A ∨ i = l1A + 2 ∨ i = l1A + 3
set_option maxHeartbeats 4000000 in
theorem NX1_solve_go {F : Nat} {v : Unit} {Ln1 : Nat → Nat} {V1 : mV} : ∀ k' : Nat, (∀ (l1A : Nat) (l2I : Int32) (l3I : Int32) (l4I : Int32) (Ln : Nat → Nat) (V : mV), mX1_solve_go F k' 0 Ln l1A l2I l3I l4I V = some (v, Ln1, V1) → mAv (wX1_solve_0 l1A) V V1 ∧ mAl (wX1_solve_0 l1A) Ln Ln1) := by
  intro k'
  induction k' with
  | zero => exact (fun _ _ _ _ _ _ h => by cases h)
  | succ k' ih =>
    intro l1A l2I l3I l4I Ln V h
    rw [mX1_solve_go, if_pos rfl] at h
    unfold mX1_solve_b0 at h
    rcases mIf_some h with ⟨_, h⟩ | ⟨_, h⟩
    · rcases mIf_some h with ⟨_, h⟩ | ⟨_, h⟩
      · obtain ⟨v3, V4, h1, h⟩ := mBW_some h
        have a1 : mAv (wX1_solve_0 l1A) V V4 := mAv.tr mAv.rf (NX3_tell h1) (fun i z => by unfold wX3_tell at z; unfold wX1_solve_0; omega)
        rcases mIf_some h with ⟨_, h⟩ | ⟨_, h⟩
        · obtain ⟨v9, L10, V10, h2, h⟩ := mBA_some h
          have y2 := NX1_goThrough h2
          have a2 : mAv (wX1_solve_0 l1A) V V10 := mAv.tr a1 y2.1 (fun i z => by unfold wX1_goThrough at z; unfold wX1_solve_0; omega)
          have b2 : mAl (wX1_solve_0 l1A) Ln L10 := mAl.tr mAl.rf y2.2 (fun i z => by unfold wX1_goThrough at z; unfold wX1_solve_0; omega)
          obtain ⟨_, rfl, rfl⟩ := mRA3 h
          exact ⟨a2, b2⟩
        · obtain ⟨_, rfl, rfl⟩ := mRA3 h
          exact ⟨a1, mAl.rf⟩
      · obtain ⟨v14, V15, h3, h⟩ := mBW_some h
        have a3 : mAv (wX1_solve_0 l1A) V V15 := mAv.tr mAv.rf (NX3_tell h3) (fun i z => by unfold wX3_tell at z; unfold wX1_solve_0; omega)
        rcases mIf_some h with ⟨_, h⟩ | ⟨_, h⟩
        · obtain ⟨v20, L21, V21, h4, h⟩ := mBA_some h
          have y4 := NX1_goThrough h4
          have a4 : mAv (wX1_solve_0 l1A) V V21 := mAv.tr a3 y4.1 (fun i z => by unfold wX1_goThrough at z; unfold wX1_solve_0; omega)
          have b4 : mAl (wX1_solve_0 l1A) Ln L21 := mAl.tr mAl.rf y4.2 (fun i z => by unfold wX1_goThrough at z; unfold wX1_solve_0; omega)
          obtain ⟨_, rfl, rfl⟩ := mRA3 h
          exact ⟨a4, b4⟩
        · obtain ⟨_, rfl, rfl⟩ := mRA3 h
          exact ⟨a3, mAl.rf⟩
    · obtain ⟨v25, V26, h5, h⟩ := mBW_some h
      have a5 : mAv (wX1_solve_0 l1A) V V26 := mAv.tr mAv.rf (NX1_isFulfilled h5) (fun i z => by unfold wX1_isFulfilled at z; unfold wX1_solve_0; omega)
      rcases mIf_some h with ⟨_, h⟩ | ⟨_, h⟩
      · obtain ⟨x31, _, h⟩ := mLt_some h
        have y := ih _ _ _ _ _ _ h
        exact ⟨mAv.tr a5 y.1 (fun i z => by unfold wX1_solve_0 at z; unfold wX1_solve_0; omega), mAl.tr mAl.rf y.2 (fun i z => by unfold wX1_solve_0 at z; unfold wX1_solve_0; omega)⟩
      · rcases mIf_some h with ⟨_, h⟩ | ⟨_, h⟩
        · obtain ⟨v35, L36, V36, h6, h⟩ := mBA_some h
          have y6 := NX1_writeTruths h6
          have a6 : mAv (wX1_solve_0 l1A) V V36 := mAv.tr a5 y6.1 (fun i z => by unfold wX1_writeTruths at z; unfold wX1_solve_0; omega)
          have b6 : mAl (wX1_solve_0 l1A) Ln L36 := mAl.tr mAl.rf y6.2 (fun i z => by unfold wX1_writeTruths at z; unfold wX1_solve_0; omega)
          obtain ⟨x40, _, h⟩ := mLt_some h
          obtain ⟨x41, _, h⟩ := mLt_some h
          have y := ih _ _ _ _ _ _ h
          exact ⟨mAv.tr a6 y.1 (fun i z => by unfold wX1_solve_0 at z; unfold wX1_solve_0; omega), mAl.tr b6 y.2 (fun i z => by unfold wX1_solve_0 at z; unfold wX1_solve_0; omega)⟩
        · obtain ⟨x33, _, h⟩ := mLt_some h
          obtain ⟨x34, _, h⟩ := mLt_some h
          have y := ih _ _ _ _ _ _ h
          exact ⟨mAv.tr a5 y.1 (fun i z => by unfold wX1_solve_0 at z; unfold wX1_solve_0; omega), mAl.tr mAl.rf y.2 (fun i z => by unfold wX1_solve_0 at z; unfold wX1_solve_0; omega)⟩
set_option maxHeartbeats 4000000 in
theorem NX1_solve {F : Nat} {Ln Ln1 : Nat → Nat} {V V1 : mV} {v : Unit} {l1A : Nat} (h : mX1_solve F Ln l1A V = some (v, Ln1, V1)) : mAv (wX1_solve l1A) V V1 ∧ mAl (wX1_solve l1A) Ln Ln1 := by
  have ih := NX1_solve_go (F := F) (v := v) (Ln1 := Ln1) (V1 := V1) F
  unfold mX1_solve mX1_solve_s at h
  obtain ⟨x42, _, h⟩ := mLt_some h
  have y := ih _ _ _ _ _ _ h
  exact ⟨mAv.tr mAv.rf y.1 (fun i z => by unfold wX1_solve_0 at z; unfold wX1_solve; omega), mAl.tr mAl.rf y.2 (fun i z => by unfold wX1_solve_0 at z; unfold wX1_solve; omega)⟩
end
