/-! WHAT EACH METHOD LEAVES ALONE: X10_judgeClosure, X11_settleEntry, X1_isFulfilled, X2_fillsFrom, X2_writeCore, X2_judgeCore, X4_carriesPairings, X4_bringBack, X5_solve, X6_solveMachines. -/
section
def wX10_judgeClosure (l1A : Nat) (l2A : Nat) (i : Nat) : Prop := i = 7 ∨ i = 83
def wX10_judgeClosure_0 (l1A : Nat) (l2A : Nat) (i : Nat) : Prop := i = 7 ∨ i = 83
def wX10_judgeClosure_1 (l1A : Nat) (l2A : Nat) (i : Nat) : Prop := i = 7 ∨ i = 83
set_option maxHeartbeats 4000000 in
theorem NX10_judgeClosure_go {F : Nat} {v : Int32} {V1 : mV} : ∀ k' : Nat, (∀ (l1A : Nat) (l2A : Nat) (l5I : Int32) (Ln : Nat → Nat) (V : mV), mX10_judgeClosure_go F k' 0 Ln l1A l2A l5I 0 V = some (v, V1) → mAv (wX10_judgeClosure_0 l1A l2A) V V1) ∧ (∀ (l1A : Nat) (l2A : Nat) (l5I : Int32) (l6I : Int32) (Ln : Nat → Nat) (V : mV), mX10_judgeClosure_go F k' 1 Ln l1A l2A l5I l6I V = some (v, V1) → mAv (wX10_judgeClosure_1 l1A l2A) V V1) := by
  intro k'
  induction k' with
  | zero => exact ⟨(fun _ _ _ _ _ h => by cases h), (fun _ _ _ _ _ _ h => by cases h)⟩
  | succ k' ih =>
    refine ⟨?_, ?_⟩
    · intro l1A l2A l5I Ln V h
      rw [mX10_judgeClosure_go, if_pos rfl] at h
      unfold mX10_judgeClosure_b0 at h
      rcases mIf_some h with ⟨_, h⟩ | ⟨_, h⟩
      · obtain ⟨_, rfl⟩ := mRW h
        exact mAv.rf
      · obtain ⟨v2, _, h⟩ := mBN_some h
        obtain ⟨v7, V8, h1, h⟩ := mBW_some h
        have a1 : mAv (wX10_judgeClosure_0 l1A l2A) V V8 := mAv.tr mAv.rf (NX10_findNext h1) (fun i z => by unfold wX10_findNext at z; unfold wX10_judgeClosure_0; omega)
        exact mAv.tr a1 (ih.2 _ _ _ _ _ _ h) (fun i z => by unfold wX10_judgeClosure_1 at z; unfold wX10_judgeClosure_0; omega)
    · intro l1A l2A l5I l6I Ln V h
      rw [mX10_judgeClosure_go, if_neg (by decide), if_pos rfl] at h
      unfold mX10_judgeClosure_b1 at h
      rcases mIf_some h with ⟨_, h⟩ | ⟨_, h⟩
      · obtain ⟨x13, _, h⟩ := mLt_some h
        exact mAv.tr mAv.rf (ih.1 _ _ _ _ _ h) (fun i z => by unfold wX10_judgeClosure_0 at z; unfold wX10_judgeClosure_1; omega)
      · obtain ⟨c2, h⟩ := mGd_some h
        obtain ⟨v15, _, h⟩ := mBN_some h
        rcases mIf_some h with ⟨_, h⟩ | ⟨_, h⟩
        · obtain ⟨_, rfl⟩ := mRW h
          exact mAv.rf
        · obtain ⟨x21, _, h⟩ := mLt_some h
          exact mAv.tr mAv.rf (ih.2 _ _ _ _ _ _ h) (fun i z => by unfold wX10_judgeClosure_1 at z; unfold wX10_judgeClosure_1; omega)
set_option maxHeartbeats 4000000 in
theorem NX10_judgeClosure {F : Nat} {Ln : Nat → Nat} {V V1 : mV} {v : Int32} {l1A : Nat} {l2A : Nat} (h : mX10_judgeClosure F Ln l1A l2A V = some (v, V1)) : mAv (wX10_judgeClosure l1A l2A) V V1 := by
  have ih := NX10_judgeClosure_go (F := F) (v := v) (V1 := V1) F
  unfold mX10_judgeClosure mX10_judgeClosure_s at h
  obtain ⟨v22, _, h⟩ := mBN_some h
  obtain ⟨v27, _, h⟩ := mBN_some h
  rcases mIf_some h with ⟨_, h⟩ | ⟨_, h⟩
  · obtain ⟨_, rfl⟩ := mRW h
    exact mAv.rf
  · obtain ⟨v33, _, h⟩ := mBN_some h
    rcases mIf_some h with ⟨_, h⟩ | ⟨_, h⟩
    · obtain ⟨_, rfl⟩ := mRW h
      exact mAv.rf
    · obtain ⟨v39, _, h⟩ := mBN_some h
      rcases mIf_some h with ⟨_, h⟩ | ⟨_, h⟩
      · obtain ⟨v45, _, h⟩ := mBN_some h
        obtain ⟨v50, _, h⟩ := mBN_some h
        rcases mIf_some h with ⟨_, h⟩ | ⟨_, h⟩
        · exact mAv.tr mAv.rf (ih.1 _ _ _ _ _ h) (fun i z => by unfold wX10_judgeClosure_0 at z; unfold wX10_judgeClosure; omega)
        · obtain ⟨_, rfl⟩ := mRW h
          exact mAv.rf
      · obtain ⟨v56, _, h⟩ := mBN_some h
        rcases mIf_some h with ⟨_, h⟩ | ⟨_, h⟩
        · obtain ⟨_, rfl⟩ := mRW h
          exact mAv.rf
        · obtain ⟨v62, _, h⟩ := mBN_some h
          obtain ⟨v67, _, h⟩ := mBN_some h
          rcases mIf_some h with ⟨_, h⟩ | ⟨_, h⟩
          · exact mAv.tr mAv.rf (ih.1 _ _ _ _ _ h) (fun i z => by unfold wX10_judgeClosure_0 at z; unfold wX10_judgeClosure; omega)
          · obtain ⟨_, rfl⟩ := mRW h
            exact mAv.rf
def wX11_settleEntry (l2A : Nat) (i : Nat) : Prop := i = 0 ∨ i = 9 ∨ i = 3000 ∨ i = l2A ∨ i = l2A + 4 ∨ i = l2A + 5
def wX11_settleEntry_0 (l2A : Nat) (i : Nat) : Prop := i = 0 ∨ i = 9 ∨ i = 3000 ∨ i = l2A ∨ i = l2A + 4 ∨ i = l2A + 5
set_option maxHeartbeats 4000000 in
theorem NX11_settleEntry_go {F : Nat} {v : Unit} {Ln1 : Nat → Nat} {V1 : mV} : ∀ k' : Nat, (∀ (l1I : Int32) (l2A : Nat) (Ln : Nat → Nat) (V : mV), mX11_settleEntry_go F k' 0 Ln l1I l2A V = some (v, Ln1, V1) → mAv (wX11_settleEntry_0 l2A) V V1 ∧ mAl (wX11_settleEntry_0 l2A) Ln Ln1) := by
  intro k'
  induction k' with
  | zero => exact (fun _ _ _ _ h => by cases h)
  | succ k' ih =>
    intro l1I l2A Ln V h
    rw [mX11_settleEntry_go, if_pos rfl] at h
    unfold mX11_settleEntry_b0 at h
    rcases mIf_some h with ⟨_, h⟩ | ⟨_, h⟩
    · obtain ⟨V2, eV2, h⟩ := mLt_some h
      have a1 : mAv (wX11_settleEntry_0 l2A) V V2 := by rw [eV2]; exact mAv.F mAv.rf (by unfold wX11_settleEntry_0; omega)
      obtain ⟨c2, h⟩ := mGd_some h
      obtain ⟨V4, eV4, h⟩ := mLt_some h
      have a3 : mAv (wX11_settleEntry_0 l2A) V V4 := by rw [eV4]; exact mAv.F a1 (by unfold wX11_settleEntry_0; omega)
      obtain ⟨v5, L6, V6, h4, h⟩ := mBA_some h
      have y4 := NX9_copy h4
      have a4 : mAv (wX11_settleEntry_0 l2A) V V6 := mAv.tr a3 y4.1 (fun i z => by unfold wX9_copy at z; unfold wX11_settleEntry_0; omega)
      have b4 : mAl (wX11_settleEntry_0 l2A) Ln L6 := mAl.tr mAl.rf y4.2 (fun i z => by unfold wX9_copy at z; unfold wX11_settleEntry_0; omega)
      obtain ⟨_, rfl, rfl⟩ := mRA3 h
      exact ⟨a4, b4⟩
    · obtain ⟨v10, _, h⟩ := mBN_some h
      rcases mIf_some h with ⟨_, h⟩ | ⟨_, h⟩
      · obtain ⟨v24, _, h⟩ := mBN_some h
        obtain ⟨v29, L30, V30, h5, h⟩ := mBA_some h
        have y5 := NX11_addError h5
        have a5 : mAv (wX11_settleEntry_0 l2A) V V30 := mAv.tr mAv.rf y5.1 (fun i z => by unfold wX11_addError at z; unfold wX11_settleEntry_0; omega)
        have b5 : mAl (wX11_settleEntry_0 l2A) Ln L30 := mAl.tr mAl.rf y5.2 (fun i z => by unfold wX11_addError at z; unfold wX11_settleEntry_0; omega)
        obtain ⟨V34, eV34, h⟩ := mLt_some h
        have a6 : mAv (wX11_settleEntry_0 l2A) V V34 := by rw [eV34]; exact mAv.F a5 (by unfold wX11_settleEntry_0; omega)
        obtain ⟨c7, h⟩ := mGd_some h
        obtain ⟨V36, eV36, h⟩ := mLt_some h
        have a8 : mAv (wX11_settleEntry_0 l2A) V V36 := by rw [eV36]; exact mAv.F a6 (by unfold wX11_settleEntry_0; omega)
        obtain ⟨v37, L38, V38, h9, h⟩ := mBA_some h
        have y9 := NX9_copy h9
        have a9 : mAv (wX11_settleEntry_0 l2A) V V38 := mAv.tr a8 y9.1 (fun i z => by unfold wX9_copy at z; unfold wX11_settleEntry_0; omega)
        have b9 : mAl (wX11_settleEntry_0 l2A) Ln L38 := mAl.tr b5 y9.2 (fun i z => by unfold wX9_copy at z; unfold wX11_settleEntry_0; omega)
        obtain ⟨_, rfl, rfl⟩ := mRA3 h
        exact ⟨a9, b9⟩
      · obtain ⟨V16, eV16, h⟩ := mLt_some h
        have a10 : mAv (wX11_settleEntry_0 l2A) V V16 := by rw [eV16]; exact mAv.F mAv.rf (by unfold wX11_settleEntry_0; omega)
        obtain ⟨c11, h⟩ := mGd_some h
        obtain ⟨V18, eV18, h⟩ := mLt_some h
        have a12 : mAv (wX11_settleEntry_0 l2A) V V18 := by rw [eV18]; exact mAv.F a10 (by unfold wX11_settleEntry_0; omega)
        obtain ⟨v19, L20, V20, h13, h⟩ := mBA_some h
        have y13 := NX9_copy h13
        have a13 : mAv (wX11_settleEntry_0 l2A) V V20 := mAv.tr a12 y13.1 (fun i z => by unfold wX9_copy at z; unfold wX11_settleEntry_0; omega)
        have b13 : mAl (wX11_settleEntry_0 l2A) Ln L20 := mAl.tr mAl.rf y13.2 (fun i z => by unfold wX9_copy at z; unfold wX11_settleEntry_0; omega)
        obtain ⟨_, rfl, rfl⟩ := mRA3 h
        exact ⟨a13, b13⟩
set_option maxHeartbeats 4000000 in
theorem NX11_settleEntry {F : Nat} {Ln Ln1 : Nat → Nat} {V V1 : mV} {v : Unit} {l1I : Int32} {l2A : Nat} (h : mX11_settleEntry F Ln l1I l2A V = some (v, Ln1, V1)) : mAv (wX11_settleEntry l2A) V V1 ∧ mAl (wX11_settleEntry l2A) Ln Ln1 := by
  have ih := NX11_settleEntry_go (F := F) (v := v) (Ln1 := Ln1) (V1 := V1) F
  unfold mX11_settleEntry mX11_settleEntry_s at h
  rcases mIf_some h with ⟨_, h⟩ | ⟨_, h⟩
  · have y := ih _ _ _ _ h
    exact ⟨mAv.tr mAv.rf y.1 (fun i z => by unfold wX11_settleEntry_0 at z; unfold wX11_settleEntry; omega), mAl.tr mAl.rf y.2 (fun i z => by unfold wX11_settleEntry_0 at z; unfold wX11_settleEntry; omega)⟩
  · rcases mIf_some h with ⟨_, h⟩ | ⟨_, h⟩
    · have y := ih _ _ _ _ h
      exact ⟨mAv.tr mAv.rf y.1 (fun i z => by unfold wX11_settleEntry_0 at z; unfold wX11_settleEntry; omega), mAl.tr mAl.rf y.2 (fun i z => by unfold wX11_settleEntry_0 at z; unfold wX11_settleEntry; omega)⟩
    · obtain ⟨v44, L45, V45, h14, h⟩ := mBA_some h
      have y14 := NX11_addError h14
      have a14 : mAv (wX11_settleEntry l2A) V V45 := mAv.tr mAv.rf y14.1 (fun i z => by unfold wX11_addError at z; unfold wX11_settleEntry; omega)
      have b14 : mAl (wX11_settleEntry l2A) Ln L45 := mAl.tr mAl.rf y14.2 (fun i z => by unfold wX11_addError at z; unfold wX11_settleEntry; omega)
      obtain ⟨V49, eV49, h⟩ := mLt_some h
      have a15 : mAv (wX11_settleEntry l2A) V V49 := by rw [eV49]; exact mAv.F a14 (by unfold wX11_settleEntry; omega)
      obtain ⟨c16, h⟩ := mGd_some h
      obtain ⟨V51, eV51, h⟩ := mLt_some h
      have a17 : mAv (wX11_settleEntry l2A) V V51 := by rw [eV51]; exact mAv.F a15 (by unfold wX11_settleEntry; omega)
      obtain ⟨v52, L53, V53, h18, h⟩ := mBA_some h
      have y18 := NX9_copy h18
      have a18 : mAv (wX11_settleEntry l2A) V V53 := mAv.tr a17 y18.1 (fun i z => by unfold wX9_copy at z; unfold wX11_settleEntry; omega)
      have b18 : mAl (wX11_settleEntry l2A) Ln L53 := mAl.tr b14 y18.2 (fun i z => by unfold wX9_copy at z; unfold wX11_settleEntry; omega)
      obtain ⟨_, rfl, rfl⟩ := mRA3 h
      exact ⟨a18, b18⟩
def wX1_isFulfilled (l1A : Nat) (i : Nat) : Prop := i = 5
def wX1_isFulfilled_0 (l1A : Nat) (i : Nat) : Prop := i = 5
set_option maxHeartbeats 4000000 in
theorem NX1_isFulfilled_go {F : Nat} {v : Int32} {V1 : mV} : ∀ k' : Nat, (∀ (l1A : Nat) (l2I : Int32) (l3I : Int32) (V : mV), mX1_isFulfilled_go F k' 0 l1A l2I l3I V = some (v, V1) → mAv (wX1_isFulfilled_0 l1A) V V1) := by
  intro k'
  induction k' with
  | zero => exact (fun _ _ _ _ h => by cases h)
  | succ k' ih =>
    intro l1A l2I l3I V h
    rw [mX1_isFulfilled_go, if_pos rfl] at h
    unfold mX1_isFulfilled_b0 at h
    rcases mIf_some h with ⟨_, h⟩ | ⟨_, h⟩
    · obtain ⟨v2, _, h⟩ := mBN_some h
      rcases mIf_some h with ⟨_, h⟩ | ⟨_, h⟩
      · obtain ⟨_, rfl⟩ := mRW h
        exact mAv.rf
      · obtain ⟨v8, _, h⟩ := mBN_some h
        rcases mIf_some h with ⟨_, h⟩ | ⟨_, h⟩
        · obtain ⟨_, rfl⟩ := mRW h
          exact mAv.rf
        · obtain ⟨_, rfl⟩ := mRW h
          exact mAv.rf
    · obtain ⟨v14, _, h⟩ := mBN_some h
      rcases mIf_some h with ⟨_, h⟩ | ⟨_, h⟩
      · obtain ⟨x20, _, h⟩ := mLt_some h
        exact mAv.tr mAv.rf (ih _ _ _ _ h) (fun i z => by unfold wX1_isFulfilled_0 at z; unfold wX1_isFulfilled_0; omega)
      · obtain ⟨V21, eV21, h⟩ := mLt_some h
        have a1 : mAv (wX1_isFulfilled_0 l1A) V V21 := by rw [eV21]; exact mAv.F mAv.rf (by unfold wX1_isFulfilled_0; omega)
        obtain ⟨x22, _, h⟩ := mLt_some h
        exact mAv.tr a1 (ih _ _ _ _ h) (fun i z => by unfold wX1_isFulfilled_0 at z; unfold wX1_isFulfilled_0; omega)
set_option maxHeartbeats 4000000 in
theorem NX1_isFulfilled {F : Nat} {V V1 : mV} {v : Int32} {l1A : Nat} {l2I : Int32} (h : mX1_isFulfilled F l1A l2I V = some (v, V1)) : mAv (wX1_isFulfilled l1A) V V1 := by
  have ih := NX1_isFulfilled_go (F := F) (v := v) (V1 := V1) F
  unfold mX1_isFulfilled mX1_isFulfilled_s at h
  obtain ⟨V23, eV23, h⟩ := mLt_some h
  have a2 : mAv (wX1_isFulfilled l1A) V V23 := by rw [eV23]; exact mAv.F mAv.rf (by unfold wX1_isFulfilled; omega)
  obtain ⟨V24, eV24, h⟩ := mLt_some h
  have a3 : mAv (wX1_isFulfilled l1A) V V24 := by rw [eV24]; exact mAv.F a2 (by unfold wX1_isFulfilled; omega)
  exact mAv.tr a3 (ih _ _ _ _ h) (fun i z => by unfold wX1_isFulfilled_0 at z; unfold wX1_isFulfilled; omega)
def wX2_fillsFrom (i : Nat) : Prop := i = 28 ∨ (31 ≤ i ∧ i ≤ 32)
def wX2_fillsFrom_0 (i : Nat) : Prop := i = 28 ∨ (31 ≤ i ∧ i ≤ 32)
def wX2_fillsFrom_1 (i : Nat) : Prop := i = 28 ∨ (31 ≤ i ∧ i ≤ 32)
set_option maxHeartbeats 4000000 in
theorem NX2_fillsFrom_go {rc : Int32 → mV → Option (Int32 × mV)} (hrc : ∀ {V V1 : mV} {v : Int32} {l1I : Int32}, rc l1I V = some (v, V1) → mAv (wX2_fillsFrom) V V1) {F : Nat} {v : Int32} {V1 : mV} : ∀ k' : Nat, (∀ (l1I : Int32) (s0I : Int32) (V : mV), mX2_fillsFrom_go F rc k' 0 l1I 0 0 s0I V = some (v, V1) → mAv (wX2_fillsFrom_0) V V1) ∧ (∀ (l1I : Int32) (l3I : Int32) (l4I : Int32) (V : mV), mX2_fillsFrom_go F rc k' 1 l1I l3I l4I 0 V = some (v, V1) → mAv (wX2_fillsFrom_1) V V1) := by
  intro k'
  induction k' with
  | zero => exact ⟨(fun _ _ _ h => by cases h), (fun _ _ _ _ h => by cases h)⟩
  | succ k' ih =>
    refine ⟨?_, ?_⟩
    · intro l1I s0I V h
      rw [mX2_fillsFrom_go, if_pos rfl] at h
      unfold mX2_fillsFrom_b0 at h
      rcases mIf_some h with ⟨_, h⟩ | ⟨_, h⟩
      · rcases mIf_some h with ⟨_, h⟩ | ⟨_, h⟩
        · obtain ⟨c1, h⟩ := mGd_some h
          obtain ⟨x4, _, h⟩ := mLt_some h
          exact mAv.tr mAv.rf (ih.2 _ _ _ _ h) (fun i z => by unfold wX2_fillsFrom_1 at z; unfold wX2_fillsFrom_0; omega)
        · obtain ⟨_, rfl⟩ := mRW h
          exact mAv.rf
      · obtain ⟨c2, h⟩ := mGd_some h
        obtain ⟨v6, _, h⟩ := mBN_some h
        obtain ⟨c3, h⟩ := mGd_some h
        obtain ⟨c4, h⟩ := mGd_some h
        rcases mIf_some h with ⟨_, h⟩ | ⟨_, h⟩
        · rcases mIf_some h with ⟨_, h⟩ | ⟨_, h⟩
          · obtain ⟨c5, h⟩ := mGd_some h
            obtain ⟨x16, _, h⟩ := mLt_some h
            exact mAv.tr mAv.rf (ih.2 _ _ _ _ h) (fun i z => by unfold wX2_fillsFrom_1 at z; unfold wX2_fillsFrom_0; omega)
          · obtain ⟨_, rfl⟩ := mRW h
            exact mAv.rf
        · obtain ⟨_, rfl⟩ := mRW h
          exact mAv.rf
    · intro l1I l3I l4I V h
      rw [mX2_fillsFrom_go, if_neg (by decide), if_pos rfl] at h
      unfold mX2_fillsFrom_b1 at h
      rcases mIf_some h with ⟨_, h⟩ | ⟨_, h⟩
      · obtain ⟨_, rfl⟩ := mRW h
        exact mAv.rf
      · obtain ⟨c6, h⟩ := mGd_some h
        obtain ⟨c7, h⟩ := mGd_some h
        obtain ⟨v20, _, h⟩ := mBN_some h
        rcases mIf_some h with ⟨_, h⟩ | ⟨_, h⟩
        · obtain ⟨x26, _, h⟩ := mLt_some h
          exact mAv.tr mAv.rf (ih.2 _ _ _ _ h) (fun i z => by unfold wX2_fillsFrom_1 at z; unfold wX2_fillsFrom_1; omega)
        · obtain ⟨v27, V28, h8, h⟩ := mBW_some h
          have a8 : mAv (wX2_fillsFrom_1) V V28 := mAv.tr mAv.rf (NX2_setPlace h8) (fun i z => by unfold wX2_setPlace at z; unfold wX2_fillsFrom_1; omega)
          obtain ⟨c9, h⟩ := mGd_some h
          obtain ⟨c10, h⟩ := mGd_some h
          obtain ⟨V34, eV34, h⟩ := mLt_some h
          have a11 : mAv (wX2_fillsFrom_1) V V34 := by rw [eV34]; exact mAv.I a8 (by unfold wX2_fillsFrom_1; omega)
          obtain ⟨v35, V36, h12, h⟩ := mBW_some h
          have a12 : mAv (wX2_fillsFrom_1) V V36 := mAv.tr a11 (hrc h12) (fun i z => by unfold wX2_fillsFrom at z; unfold wX2_fillsFrom_1; omega)
          rcases mIf_some h with ⟨_, h⟩ | ⟨_, h⟩
          · obtain ⟨c13, h⟩ := mGd_some h
            obtain ⟨c14, h⟩ := mGd_some h
            obtain ⟨V43, eV43, h⟩ := mLt_some h
            have a15 : mAv (wX2_fillsFrom_1) V V43 := by rw [eV43]; exact mAv.I a12 (by unfold wX2_fillsFrom_1; omega)
            obtain ⟨c16, h⟩ := mGd_some h
            rcases mIf_some h with ⟨_, h⟩ | ⟨_, h⟩
            · obtain ⟨_, rfl⟩ := mRW h
              exact a15
            · obtain ⟨x46, _, h⟩ := mLt_some h
              exact mAv.tr a15 (ih.2 _ _ _ _ h) (fun i z => by unfold wX2_fillsFrom_1 at z; unfold wX2_fillsFrom_1; omega)
          · obtain ⟨_, rfl⟩ := mRW h
            exact a12
set_option maxHeartbeats 4000000 in
theorem NX2_fillsFrom_a {rc : Int32 → mV → Option (Int32 × mV)} (hrc : ∀ {V V1 : mV} {v : Int32} {l1I : Int32}, rc l1I V = some (v, V1) → mAv (wX2_fillsFrom) V V1) {F : Nat} {V V1 : mV} {v : Int32} {l1I : Int32} (h : mX2_fillsFrom_a F rc l1I V = some (v, V1)) : mAv (wX2_fillsFrom) V V1 := by
  have ih := NX2_fillsFrom_go (rc := rc) @hrc (F := F) (v := v) (V1 := V1) F
  unfold mX2_fillsFrom_a mX2_fillsFrom_s at h
  rcases mIf_some h with ⟨_, h⟩ | ⟨_, h⟩
  · exact mAv.tr mAv.rf (ih.1 _ _ _ h) (fun i z => by unfold wX2_fillsFrom_0 at z; unfold wX2_fillsFrom; omega)
  · rcases mIf_some h with ⟨_, h⟩ | ⟨_, h⟩
    · exact mAv.tr mAv.rf (ih.1 _ _ _ h) (fun i z => by unfold wX2_fillsFrom_0 at z; unfold wX2_fillsFrom; omega)
    · obtain ⟨c17, h⟩ := mGd_some h
      obtain ⟨c18, h⟩ := mGd_some h
      rcases mIf_some h with ⟨_, h⟩ | ⟨_, h⟩
      · exact mAv.tr mAv.rf (ih.1 _ _ _ h) (fun i z => by unfold wX2_fillsFrom_0 at z; unfold wX2_fillsFrom; omega)
      · exact mAv.tr mAv.rf (ih.1 _ _ _ h) (fun i z => by unfold wX2_fillsFrom_0 at z; unfold wX2_fillsFrom; omega)
theorem NX2_fillsFrom_d {F : Nat} : ∀ (j : Nat) {V V1 : mV} {v : Int32} {l1I : Int32}, mX2_fillsFrom F j l1I V = some (v, V1) → mAv (wX2_fillsFrom) V V1 := by
  intro j
  induction j with
  | zero => intro _ _ _ _ h; cases h
  | succ j ih => intro _ _ _ _ h; exact NX2_fillsFrom_a (rc := mX2_fillsFrom F j) (hrc := fun h => ih h) h
theorem NX2_fillsFrom {F j : Nat} {V V1 : mV} {v : Int32} {l1I : Int32} (h : mX2_fillsFrom F j l1I V = some (v, V1)) : mAv (wX2_fillsFrom) V V1 := NX2_fillsFrom_d j h
def wX2_writeCore (l1A : Nat) (i : Nat) : Prop := i = 3 ∨ (27 ≤ i ∧ i ≤ 33) ∨ i = 3000 ∨ i = l1A + 2 ∨ i = l1A + 3
def wX2_writeCore_0 (l1A : Nat) (i : Nat) : Prop := i = 3 ∨ (27 ≤ i ∧ i ≤ 33) ∨ i = 3000 ∨ i = l1A + 2 ∨ i = l1A + 3
def wX2_writeCore_1 (l1A : Nat) (i : Nat) : Prop := i = 3000 ∨ i = l1A + 2 ∨ i = l1A + 3
set_option maxHeartbeats 4000000 in
theorem NX2_writeCore_go {F : Nat} {v : Unit} {Ln1 : Nat → Nat} {V1 : mV} : ∀ k' : Nat, (∀ (l1A : Nat) (l3I : Int32) (l4I : Int32) (Ln : Nat → Nat) (V : mV), mX2_writeCore_go F k' 0 Ln l1A l3I l4I V = some (v, Ln1, V1) → mAv (wX2_writeCore_0 l1A) V V1 ∧ mAl (wX2_writeCore_0 l1A) Ln Ln1) ∧ (∀ (l1A : Nat) (l3I : Int32) (l4I : Int32) (Ln : Nat → Nat) (V : mV), mX2_writeCore_go F k' 1 Ln l1A l3I l4I V = some (v, Ln1, V1) → mAv (wX2_writeCore_1 l1A) V V1 ∧ mAl (wX2_writeCore_1 l1A) Ln Ln1) := by
  intro k'
  induction k' with
  | zero => exact ⟨(fun _ _ _ _ _ h => by cases h), (fun _ _ _ _ _ h => by cases h)⟩
  | succ k' ih =>
    refine ⟨?_, ?_⟩
    · intro l1A l3I l4I Ln V h
      rw [mX2_writeCore_go, if_pos rfl] at h
      unfold mX2_writeCore_b0 at h
      rcases mIf_some h with ⟨_, h⟩ | ⟨_, h⟩
      · obtain ⟨v2, V3, h1, h⟩ := mBW_some h
        have a1 : mAv (wX2_writeCore_0 l1A) V V3 := mAv.tr mAv.rf (NX2_loadEdges h1) (fun i z => by unfold wX2_loadEdges at z; unfold wX2_writeCore_0; omega)
        obtain ⟨v7, _, h⟩ := mBN_some h
        rcases mIf_some h with ⟨_, h⟩ | ⟨_, h⟩
        · obtain ⟨v18, L19, V19, h2, h⟩ := mBA_some h
          have y2 := NX9_add h2
          have a2 : mAv (wX2_writeCore_0 l1A) V V19 := mAv.tr a1 y2.1 (fun i z => by unfold wX9_add at z; unfold wX2_writeCore_0; omega)
          have b2 : mAl (wX2_writeCore_0 l1A) Ln L19 := mAl.tr mAl.rf y2.2 (fun i z => by unfold wX9_add at z; unfold wX2_writeCore_0; omega)
          have y := ih.2 _ _ _ _ _ h
          exact ⟨mAv.tr a2 y.1 (fun i z => by unfold wX2_writeCore_1 at z; unfold wX2_writeCore_0; omega), mAl.tr b2 y.2 (fun i z => by unfold wX2_writeCore_1 at z; unfold wX2_writeCore_0; omega)⟩
        · obtain ⟨v13, L14, V14, h3, h⟩ := mBA_some h
          have y3 := NX9_add h3
          have a3 : mAv (wX2_writeCore_0 l1A) V V14 := mAv.tr a1 y3.1 (fun i z => by unfold wX9_add at z; unfold wX2_writeCore_0; omega)
          have b3 : mAl (wX2_writeCore_0 l1A) Ln L14 := mAl.tr mAl.rf y3.2 (fun i z => by unfold wX9_add at z; unfold wX2_writeCore_0; omega)
          have y := ih.2 _ _ _ _ _ h
          exact ⟨mAv.tr a3 y.1 (fun i z => by unfold wX2_writeCore_1 at z; unfold wX2_writeCore_0; omega), mAl.tr b3 y.2 (fun i z => by unfold wX2_writeCore_1 at z; unfold wX2_writeCore_0; omega)⟩
      · obtain ⟨v23, _, h⟩ := mBN_some h
        rcases mIf_some h with ⟨_, h⟩ | ⟨_, h⟩
        · obtain ⟨x29, _, h⟩ := mLt_some h
          have y := ih.1 _ _ _ _ _ h
          exact ⟨mAv.tr mAv.rf y.1 (fun i z => by unfold wX2_writeCore_0 at z; unfold wX2_writeCore_0; omega), mAl.tr mAl.rf y.2 (fun i z => by unfold wX2_writeCore_0 at z; unfold wX2_writeCore_0; omega)⟩
        · obtain ⟨v30, V31, h4, h⟩ := mBW_some h
          have a4 : mAv (wX2_writeCore_0 l1A) V V31 := mAv.tr mAv.rf (NX2_loadEdges h4) (fun i z => by unfold wX2_loadEdges at z; unfold wX2_writeCore_0; omega)
          obtain ⟨v35, V36, h5, h⟩ := mBW_some h
          have a5 : mAv (wX2_writeCore_0 l1A) V V36 := mAv.tr a4 (NX2_fillsFrom h5) (fun i z => by unfold wX2_fillsFrom at z; unfold wX2_writeCore_0; omega)
          rcases mIf_some h with ⟨_, h⟩ | ⟨_, h⟩
          · obtain ⟨x42, _, h⟩ := mLt_some h
            obtain ⟨x43, _, h⟩ := mLt_some h
            have y := ih.1 _ _ _ _ _ h
            exact ⟨mAv.tr a5 y.1 (fun i z => by unfold wX2_writeCore_0 at z; unfold wX2_writeCore_0; omega), mAl.tr mAl.rf y.2 (fun i z => by unfold wX2_writeCore_0 at z; unfold wX2_writeCore_0; omega)⟩
          · obtain ⟨x41, _, h⟩ := mLt_some h
            have y := ih.1 _ _ _ _ _ h
            exact ⟨mAv.tr a5 y.1 (fun i z => by unfold wX2_writeCore_0 at z; unfold wX2_writeCore_0; omega), mAl.tr mAl.rf y.2 (fun i z => by unfold wX2_writeCore_0 at z; unfold wX2_writeCore_0; omega)⟩
    · intro l1A l3I l4I Ln V h
      rw [mX2_writeCore_go, if_neg (by decide), if_pos rfl] at h
      unfold mX2_writeCore_b1 at h
      rcases mIf_some h with ⟨_, h⟩ | ⟨_, h⟩
      · obtain ⟨_, rfl, rfl⟩ := mRA3 h
        exact ⟨mAv.rf, mAl.rf⟩
      · obtain ⟨v45, _, h⟩ := mBN_some h
        rcases mIf_some h with ⟨_, h⟩ | ⟨_, h⟩
        · obtain ⟨x51, _, h⟩ := mLt_some h
          have y := ih.2 _ _ _ _ _ h
          exact ⟨mAv.tr mAv.rf y.1 (fun i z => by unfold wX2_writeCore_1 at z; unfold wX2_writeCore_1; omega), mAl.tr mAl.rf y.2 (fun i z => by unfold wX2_writeCore_1 at z; unfold wX2_writeCore_1; omega)⟩
        · obtain ⟨v52, L53, V53, h6, h⟩ := mBA_some h
          have y6 := NX9_add h6
          have a6 : mAv (wX2_writeCore_1 l1A) V V53 := mAv.tr mAv.rf y6.1 (fun i z => by unfold wX9_add at z; unfold wX2_writeCore_1; omega)
          have b6 : mAl (wX2_writeCore_1 l1A) Ln L53 := mAl.tr mAl.rf y6.2 (fun i z => by unfold wX9_add at z; unfold wX2_writeCore_1; omega)
          obtain ⟨x57, _, h⟩ := mLt_some h
          have y := ih.2 _ _ _ _ _ h
          exact ⟨mAv.tr a6 y.1 (fun i z => by unfold wX2_writeCore_1 at z; unfold wX2_writeCore_1; omega), mAl.tr b6 y.2 (fun i z => by unfold wX2_writeCore_1 at z; unfold wX2_writeCore_1; omega)⟩
set_option maxHeartbeats 4000000 in
theorem NX2_writeCore {F : Nat} {Ln Ln1 : Nat → Nat} {V V1 : mV} {v : Unit} {l1A : Nat} {l2I : Int32} (h : mX2_writeCore F Ln l1A l2I V = some (v, Ln1, V1)) : mAv (wX2_writeCore l1A) V V1 ∧ mAl (wX2_writeCore l1A) Ln Ln1 := by
  have ih := NX2_writeCore_go (F := F) (v := v) (Ln1 := Ln1) (V1 := V1) F
  unfold mX2_writeCore mX2_writeCore_s at h
  obtain ⟨x58, _, h⟩ := mLt_some h
  have y := ih.1 _ _ _ _ _ h
  exact ⟨mAv.tr mAv.rf y.1 (fun i z => by unfold wX2_writeCore_0 at z; unfold wX2_writeCore; omega), mAl.tr mAl.rf y.2 (fun i z => by unfold wX2_writeCore_0 at z; unfold wX2_writeCore; omega)⟩
def wX2_judgeCore (l1A : Nat) (l2A : Nat) (i : Nat) : Prop := i = 3 ∨ (27 ≤ i ∧ i ≤ 30) ∨ (33 ≤ i ∧ i ≤ 34)
def wX2_judgeCore_0 (l1A : Nat) (l2A : Nat) (i : Nat) : Prop := i = 3 ∨ (27 ≤ i ∧ i ≤ 30) ∨ (33 ≤ i ∧ i ≤ 34)
set_option maxHeartbeats 4000000 in
theorem NX2_judgeCore_go {F : Nat} {v : Int32} {V1 : mV} : ∀ k' : Nat, (∀ (l1A : Nat) (l2A : Nat) (l4I : Int32) (l5I : Int32) (l6I : Int32) (Ln : Nat → Nat) (V : mV), mX2_judgeCore_go F k' 0 Ln l1A l2A l4I l5I l6I V = some (v, V1) → mAv (wX2_judgeCore_0 l1A l2A) V V1) := by
  intro k'
  induction k' with
  | zero => exact (fun _ _ _ _ _ _ _ h => by cases h)
  | succ k' ih =>
    intro l1A l2A l4I l5I l6I Ln V h
    rw [mX2_judgeCore_go, if_pos rfl] at h
    unfold mX2_judgeCore_b0 at h
    rcases mIf_some h with ⟨_, h⟩ | ⟨_, h⟩
    · obtain ⟨v2, V3, h1, h⟩ := mBW_some h
      have a1 : mAv (wX2_judgeCore_0 l1A l2A) V V3 := mAv.tr mAv.rf (NX2_loadEdges h1) (fun i z => by unfold wX2_loadEdges at z; unfold wX2_judgeCore_0; omega)
      obtain ⟨v7, _, h⟩ := mBN_some h
      obtain ⟨v12, _, h⟩ := mBN_some h
      rcases mIf_some h with ⟨_, h⟩ | ⟨_, h⟩
      · obtain ⟨v18, _, h⟩ := mBN_some h
        rcases mIf_some h with ⟨_, h⟩ | ⟨_, h⟩
        · obtain ⟨_, rfl⟩ := mRW h
          exact a1
        · obtain ⟨v24, V25, h2, h⟩ := mBW_some h
          have a2 : mAv (wX2_judgeCore_0 l1A l2A) V V25 := mAv.tr a1 (NX2_areWaysOf h2) (fun i z => by unfold wX2_areWaysOf at z; unfold wX2_judgeCore_0; omega)
          rcases mIf_some h with ⟨_, h⟩ | ⟨_, h⟩
          · obtain ⟨_, rfl⟩ := mRW h
            exact a2
          · obtain ⟨_, rfl⟩ := mRW h
            exact a2
      · obtain ⟨_, rfl⟩ := mRW h
        exact a1
    · obtain ⟨v30, _, h⟩ := mBN_some h
      obtain ⟨x35, _, h⟩ := mLt_some h
      obtain ⟨x36, _, h⟩ := mLt_some h
      exact mAv.tr mAv.rf (ih _ _ _ _ _ _ _ h) (fun i z => by unfold wX2_judgeCore_0 at z; unfold wX2_judgeCore_0; omega)
set_option maxHeartbeats 4000000 in
theorem NX2_judgeCore {F : Nat} {Ln : Nat → Nat} {V V1 : mV} {v : Int32} {l1A : Nat} {l2A : Nat} (h : mX2_judgeCore F Ln l1A l2A V = some (v, V1)) : mAv (wX2_judgeCore l1A l2A) V V1 := by
  have ih := NX2_judgeCore_go (F := F) (v := v) (V1 := V1) F
  unfold mX2_judgeCore mX2_judgeCore_s at h
  obtain ⟨x37, _, h⟩ := mLt_some h
  obtain ⟨v38, _, h⟩ := mBN_some h
  rcases mIf_some h with ⟨_, h⟩ | ⟨_, h⟩
  · obtain ⟨_, rfl⟩ := mRW h
    exact mAv.rf
  · rcases mIf_some h with ⟨_, h⟩ | ⟨_, h⟩
    · obtain ⟨v45, _, h⟩ := mBN_some h
      rcases mIf_some h with ⟨_, h⟩ | ⟨_, h⟩
      · obtain ⟨_, rfl⟩ := mRW h
        exact mAv.rf
      · obtain ⟨v51, _, h⟩ := mBN_some h
        rcases mIf_some h with ⟨_, h⟩ | ⟨_, h⟩
        · obtain ⟨_, rfl⟩ := mRW h
          exact mAv.rf
        · exact mAv.tr mAv.rf (ih _ _ _ _ _ _ _ h) (fun i z => by unfold wX2_judgeCore_0 at z; unfold wX2_judgeCore; omega)
    · rcases mIf_some h with ⟨_, h⟩ | ⟨_, h⟩
      · obtain ⟨v58, _, h⟩ := mBN_some h
        rcases mIf_some h with ⟨_, h⟩ | ⟨_, h⟩
        · obtain ⟨_, rfl⟩ := mRW h
          exact mAv.rf
        · obtain ⟨v64, _, h⟩ := mBN_some h
          rcases mIf_some h with ⟨_, h⟩ | ⟨_, h⟩
          · obtain ⟨_, rfl⟩ := mRW h
            exact mAv.rf
          · exact mAv.tr mAv.rf (ih _ _ _ _ _ _ _ h) (fun i z => by unfold wX2_judgeCore_0 at z; unfold wX2_judgeCore; omega)
      · obtain ⟨_, rfl⟩ := mRW h
        exact mAv.rf
def wX4_carriesPairings (l1A : Nat) (l2A : Nat) (i : Nat) : Prop := i = 18 ∨ i = l2A ∨ i = l2A + 1
def wX4_carriesPairings_0 (l1A : Nat) (l2A : Nat) (i : Nat) : Prop := i = l2A ∨ i = l2A + 1
def wX4_carriesPairings_1 (l1A : Nat) (l2A : Nat) (i : Nat) : Prop := i = l2A ∨ i = l2A + 1
set_option maxHeartbeats 4000000 in
theorem NX4_carriesPairings_go {F : Nat} {v : Int32} {V1 : mV} : ∀ k' : Nat, (∀ (l1A : Nat) (l2A : Nat) (l3I : Int32) (l4I : Int32) (l6I : Int32) (V : mV), mX4_carriesPairings_go F k' 0 l1A l2A l3I l4I l6I V = some (v, V1) → mAv (wX4_carriesPairings_0 l1A l2A) V V1) ∧ (∀ (l1A : Nat) (l2A : Nat) (l4I : Int32) (l6I : Int32) (V : mV), mX4_carriesPairings_go F k' 1 l1A l2A 0 l4I l6I V = some (v, V1) → mAv (wX4_carriesPairings_1 l1A l2A) V V1) := by
  intro k'
  induction k' with
  | zero => exact ⟨(fun _ _ _ _ _ _ h => by cases h), (fun _ _ _ _ _ h => by cases h)⟩
  | succ k' ih =>
    refine ⟨?_, ?_⟩
    · intro l1A l2A l3I l4I l6I V h
      rw [mX4_carriesPairings_go, if_pos rfl] at h
      unfold mX4_carriesPairings_b0 at h
      rcases mIf_some h with ⟨_, h⟩ | ⟨_, h⟩
      · exact mAv.tr mAv.rf (ih.2 _ _ _ _ _ h) (fun i z => by unfold wX4_carriesPairings_1 at z; unfold wX4_carriesPairings_0; omega)
      · obtain ⟨v2, _, h⟩ := mBN_some h
        rcases mIf_some h with ⟨_, h⟩ | ⟨_, h⟩
        · obtain ⟨v8, V9, h1, h⟩ := mBW_some h
          have a1 : mAv (wX4_carriesPairings_0 l1A l2A) V V9 := mAv.tr mAv.rf (NX3_addItem h1) (fun i z => by unfold wX3_addItem at z; unfold wX4_carriesPairings_0; omega)
          obtain ⟨x13, _, h⟩ := mLt_some h
          exact mAv.tr a1 (ih.1 _ _ _ _ _ _ h) (fun i z => by unfold wX4_carriesPairings_0 at z; unfold wX4_carriesPairings_0; omega)
        · obtain ⟨v14, V15, h2, h⟩ := mBW_some h
          have a2 : mAv (wX4_carriesPairings_0 l1A l2A) V V15 := mAv.tr mAv.rf (NX3_addItem h2) (fun i z => by unfold wX3_addItem at z; unfold wX4_carriesPairings_0; omega)
          obtain ⟨x19, _, h⟩ := mLt_some h
          exact mAv.tr a2 (ih.1 _ _ _ _ _ _ h) (fun i z => by unfold wX4_carriesPairings_0 at z; unfold wX4_carriesPairings_0; omega)
    · intro l1A l2A l4I l6I V h
      rw [mX4_carriesPairings_go, if_neg (by decide), if_pos rfl] at h
      unfold mX4_carriesPairings_b1 at h
      rcases mIf_some h with ⟨_, h⟩ | ⟨_, h⟩
      · obtain ⟨_, rfl⟩ := mRW h
        exact mAv.rf
      · obtain ⟨v21, _, h⟩ := mBN_some h
        obtain ⟨x26, _, h⟩ := mLt_some h
        obtain ⟨v27, _, h⟩ := mBN_some h
        obtain ⟨x32, _, h⟩ := mLt_some h
        obtain ⟨v33, _, h⟩ := mBN_some h
        rcases mIf_some h with ⟨_, h⟩ | ⟨_, h⟩
        · rcases mIf_some h with ⟨_, h⟩ | ⟨_, h⟩
          · obtain ⟨v40, V41, h3, h⟩ := mBW_some h
            have a3 : mAv (wX4_carriesPairings_1 l1A l2A) V V41 := mAv.tr mAv.rf (NX3_addItem h3) (fun i z => by unfold wX3_addItem at z; unfold wX4_carriesPairings_1; omega)
            obtain ⟨x45, _, h⟩ := mLt_some h
            exact mAv.tr a3 (ih.2 _ _ _ _ _ h) (fun i z => by unfold wX4_carriesPairings_1 at z; unfold wX4_carriesPairings_1; omega)
          · obtain ⟨v46, V47, h4, h⟩ := mBW_some h
            have a4 : mAv (wX4_carriesPairings_1 l1A l2A) V V47 := mAv.tr mAv.rf (NX3_addItem h4) (fun i z => by unfold wX3_addItem at z; unfold wX4_carriesPairings_1; omega)
            obtain ⟨x51, _, h⟩ := mLt_some h
            exact mAv.tr a4 (ih.2 _ _ _ _ _ h) (fun i z => by unfold wX4_carriesPairings_1 at z; unfold wX4_carriesPairings_1; omega)
        · rcases mIf_some h with ⟨_, h⟩ | ⟨_, h⟩
          · obtain ⟨v53, V54, h5, h⟩ := mBW_some h
            have a5 : mAv (wX4_carriesPairings_1 l1A l2A) V V54 := mAv.tr mAv.rf (NX3_addItem h5) (fun i z => by unfold wX3_addItem at z; unfold wX4_carriesPairings_1; omega)
            obtain ⟨x58, _, h⟩ := mLt_some h
            exact mAv.tr a5 (ih.2 _ _ _ _ _ h) (fun i z => by unfold wX4_carriesPairings_1 at z; unfold wX4_carriesPairings_1; omega)
          · obtain ⟨v59, V60, h6, h⟩ := mBW_some h
            have a6 : mAv (wX4_carriesPairings_1 l1A l2A) V V60 := mAv.tr mAv.rf (NX3_addItem h6) (fun i z => by unfold wX3_addItem at z; unfold wX4_carriesPairings_1; omega)
            obtain ⟨x64, _, h⟩ := mLt_some h
            exact mAv.tr a6 (ih.2 _ _ _ _ _ h) (fun i z => by unfold wX4_carriesPairings_1 at z; unfold wX4_carriesPairings_1; omega)
set_option maxHeartbeats 4000000 in
theorem NX4_carriesPairings {F : Nat} {V V1 : mV} {v : Int32} {l1A : Nat} {l2A : Nat} (h : mX4_carriesPairings F l1A l2A V = some (v, V1)) : mAv (wX4_carriesPairings l1A l2A) V V1 := by
  have ih := NX4_carriesPairings_go (F := F) (v := v) (V1 := V1) F
  unfold mX4_carriesPairings mX4_carriesPairings_s at h
  obtain ⟨x65, _, h⟩ := mLt_some h
  obtain ⟨v66, V67, h7, h⟩ := mBW_some h
  have a7 : mAv (wX4_carriesPairings l1A l2A) V V67 := mAv.tr mAv.rf (NX4_leftSide h7) (fun i z => by unfold wX4_leftSide at z; unfold wX4_carriesPairings; omega)
  rcases mIf_some h with ⟨_, h⟩ | ⟨_, h⟩
  · obtain ⟨_, rfl⟩ := mRW h
    exact a7
  · obtain ⟨c8, h⟩ := mGd_some h
    rcases mIf_some h with ⟨_, h⟩ | ⟨_, h⟩
    · obtain ⟨_, rfl⟩ := mRW h
      exact a7
    · obtain ⟨c9, h⟩ := mGd_some h
      rcases mIf_some h with ⟨_, h⟩ | ⟨_, h⟩
      · obtain ⟨x76, _, h⟩ := mLt_some h
        obtain ⟨v77, V78, h10, h⟩ := mBW_some h
        have a10 : mAv (wX4_carriesPairings l1A l2A) V V78 := mAv.tr a7 (NX3_begin h10) (fun i z => by unfold wX3_begin at z; unfold wX4_carriesPairings; omega)
        exact mAv.tr a10 (ih.1 _ _ _ _ _ _ h) (fun i z => by unfold wX4_carriesPairings_0 at z; unfold wX4_carriesPairings; omega)
      · obtain ⟨_, rfl⟩ := mRW h
        exact a7
def wX4_bringBack (l1A : Nat) (l2A : Nat) (l3A : Nat) (i : Nat) : Prop := i = 18 ∨ i = 3000 ∨ i = l3A ∨ i = l3A + 1
def wX4_bringBack_0 (l1A : Nat) (l3A : Nat) (i : Nat) : Prop := i = 3000 ∨ i = l3A ∨ i = l3A + 1
set_option maxHeartbeats 4000000 in
theorem NX4_bringBack_go {F : Nat} {v : Unit} {Ln1 : Nat → Nat} {V1 : mV} : ∀ k' : Nat, (∀ (l1A : Nat) (l3A : Nat) (l4I : Int32) (Ln : Nat → Nat) (V : mV), mX4_bringBack_go F k' 0 Ln l1A l3A l4I V = some (v, Ln1, V1) → mAv (wX4_bringBack_0 l1A l3A) V V1 ∧ mAl (wX4_bringBack_0 l1A l3A) Ln Ln1) := by
  intro k'
  induction k' with
  | zero => exact (fun _ _ _ _ _ h => by cases h)
  | succ k' ih =>
    intro l1A l3A l4I Ln V h
    rw [mX4_bringBack_go, if_pos rfl] at h
    unfold mX4_bringBack_b0 at h
    rcases mIf_some h with ⟨_, h⟩ | ⟨_, h⟩
    · obtain ⟨_, rfl, rfl⟩ := mRA3 h
      exact ⟨mAv.rf, mAl.rf⟩
    · obtain ⟨v2, _, h⟩ := mBN_some h
      obtain ⟨v7, L8, V8, h1, h⟩ := mBA_some h
      have y1 := NX9_add h1
      have a1 : mAv (wX4_bringBack_0 l1A l3A) V V8 := mAv.tr mAv.rf y1.1 (fun i z => by unfold wX9_add at z; unfold wX4_bringBack_0; omega)
      have b1 : mAl (wX4_bringBack_0 l1A l3A) Ln L8 := mAl.tr mAl.rf y1.2 (fun i z => by unfold wX9_add at z; unfold wX4_bringBack_0; omega)
      obtain ⟨x12, _, h⟩ := mLt_some h
      have y := ih _ _ _ _ _ h
      exact ⟨mAv.tr a1 y.1 (fun i z => by unfold wX4_bringBack_0 at z; unfold wX4_bringBack_0; omega), mAl.tr b1 y.2 (fun i z => by unfold wX4_bringBack_0 at z; unfold wX4_bringBack_0; omega)⟩
set_option maxHeartbeats 4000000 in
theorem NX4_bringBack {F : Nat} {Ln Ln1 : Nat → Nat} {V V1 : mV} {v : Unit} {l1A : Nat} {l2A : Nat} {l3A : Nat} (h : mX4_bringBack F Ln l1A l2A l3A V = some (v, Ln1, V1)) : mAv (wX4_bringBack l1A l2A l3A) V V1 ∧ mAl (wX4_bringBack l1A l2A l3A) Ln Ln1 := by
  have ih := NX4_bringBack_go (F := F) (v := v) (Ln1 := Ln1) (V1 := V1) F
  unfold mX4_bringBack mX4_bringBack_s at h
  obtain ⟨v13, V14, h2, h⟩ := mBW_some h
  have a2 : mAv (wX4_bringBack l1A l2A l3A) V V14 := mAv.tr mAv.rf (NX9_clear h2) (fun i z => by unfold wX9_clear at z; unfold wX4_bringBack; omega)
  rcases mIf_some h with ⟨_, h⟩ | ⟨_, h⟩
  · have y := ih _ _ _ _ _ h
    exact ⟨mAv.tr a2 y.1 (fun i z => by unfold wX4_bringBack_0 at z; unfold wX4_bringBack; omega), mAl.tr mAl.rf y.2 (fun i z => by unfold wX4_bringBack_0 at z; unfold wX4_bringBack; omega)⟩
  · rcases mIf_some h with ⟨_, h⟩ | ⟨_, h⟩
    · rcases mIf_some h with ⟨_, h⟩ | ⟨_, h⟩
      · obtain ⟨x31, _, h⟩ := mLt_some h
        obtain ⟨v32, L33, V33, h3, h⟩ := mBA_some h
        have y3 := NX4_bringPairs h3
        have a3 : mAv (wX4_bringBack l1A l2A l3A) V V33 := mAv.tr a2 y3.1 (fun i z => by unfold wX4_bringPairs at z; unfold wX4_bringBack; omega)
        have b3 : mAl (wX4_bringBack l1A l2A l3A) Ln L33 := mAl.tr mAl.rf y3.2 (fun i z => by unfold wX4_bringPairs at z; unfold wX4_bringBack; omega)
        obtain ⟨_, rfl, rfl⟩ := mRA3 h
        exact ⟨a3, b3⟩
      · obtain ⟨v26, L27, V27, h4, h⟩ := mBA_some h
        have y4 := NX4_bringPairs h4
        have a4 : mAv (wX4_bringBack l1A l2A l3A) V V27 := mAv.tr a2 y4.1 (fun i z => by unfold wX4_bringPairs at z; unfold wX4_bringBack; omega)
        have b4 : mAl (wX4_bringBack l1A l2A l3A) Ln L27 := mAl.tr mAl.rf y4.2 (fun i z => by unfold wX4_bringPairs at z; unfold wX4_bringBack; omega)
        obtain ⟨_, rfl, rfl⟩ := mRA3 h
        exact ⟨a4, b4⟩
    · obtain ⟨v20, L21, V21, h5, h⟩ := mBA_some h
      have y5 := NX4_bringNodes h5
      have a5 : mAv (wX4_bringBack l1A l2A l3A) V V21 := mAv.tr a2 y5.1 (fun i z => by unfold wX4_bringNodes at z; unfold wX4_bringBack; omega)
      have b5 : mAl (wX4_bringBack l1A l2A l3A) Ln L21 := mAl.tr mAl.rf y5.2 (fun i z => by unfold wX4_bringNodes at z; unfold wX4_bringBack; omega)
      obtain ⟨_, rfl, rfl⟩ := mRA3 h
      exact ⟨a5, b5⟩
def wX5_solve (l1A : Nat) (i : Nat) : Prop := i = 4 ∨ (36 ≤ i ∧ i ≤ 51) ∨ i = 3000 ∨ i = l1A ∨ i = l1A + 2 ∨ i = l1A + 3
set_option maxHeartbeats 4000000 in
theorem NX5_solve {F : Nat} {Ln Ln1 : Nat → Nat} {V V1 : mV} {v : Unit} {l1A : Nat} (h : mX5_solve F Ln l1A V = some (v, Ln1, V1)) : mAv (wX5_solve l1A) V V1 ∧ mAl (wX5_solve l1A) Ln Ln1 := by
  unfold mX5_solve at h
  obtain ⟨x1, _, h⟩ := mLt_some h
  obtain ⟨v2, V3, h1, h⟩ := mBW_some h
  have a1 : mAv (wX5_solve l1A) V V3 := mAv.tr mAv.rf (NX5_loadUnknowns h1) (fun i z => by unfold wX5_loadUnknowns at z; unfold wX5_solve; omega)
  obtain ⟨v7, V8, h2, h⟩ := mBW_some h
  have a2 : mAv (wX5_solve l1A) V V8 := mAv.tr a1 (NX5_isFulfilled h2) (fun i z => by unfold wX5_isFulfilled at z; unfold wX5_solve; omega)
  rcases mIf_some h with ⟨_, h⟩ | ⟨_, h⟩
  · obtain ⟨v13, V14, h3, h⟩ := mBW_some h
    have a3 : mAv (wX5_solve l1A) V V14 := mAv.tr a2 (NX5_loadWeights h3) (fun i z => by unfold wX5_loadWeights at z; unfold wX5_solve; omega)
    obtain ⟨v18, V19, h4, h⟩ := mBW_some h
    have a4 : mAv (wX5_solve l1A) V V19 := mAv.tr a3 (NX5_isFulfilled h4) (fun i z => by unfold wX5_isFulfilled at z; unfold wX5_solve; omega)
    obtain ⟨v23, L24, V24, h5, h⟩ := mBA_some h
    have y5 := NX5_writeLeast h5
    have a5 : mAv (wX5_solve l1A) V V24 := mAv.tr a4 y5.1 (fun i z => by unfold wX5_writeLeast at z; unfold wX5_solve; omega)
    have b5 : mAl (wX5_solve l1A) Ln L24 := mAl.tr mAl.rf y5.2 (fun i z => by unfold wX5_writeLeast at z; unfold wX5_solve; omega)
    obtain ⟨v28, V29, h6, h⟩ := mBW_some h
    have a6 : mAv (wX5_solve l1A) V V29 := mAv.tr a5 (NX3_tell h6) (fun i z => by unfold wX3_tell at z; unfold wX5_solve; omega)
    obtain ⟨_, rfl, rfl⟩ := mRA3 h
    exact ⟨a6, b5⟩
  · obtain ⟨x33, _, h⟩ := mLt_some h
    obtain ⟨v34, V35, h7, h⟩ := mBW_some h
    have a7 : mAv (wX5_solve l1A) V V35 := mAv.tr a2 (NX5_minimise h7) (fun i z => by unfold wX5_minimise at z; unfold wX5_solve; omega)
    obtain ⟨v39, _, h⟩ := mBN_some h
    obtain ⟨x44, _, h⟩ := mLt_some h
    obtain ⟨v45, _, h⟩ := mBN_some h
    obtain ⟨v50, V51, h8, h⟩ := mBW_some h
    have a8 : mAv (wX5_solve l1A) V V51 := mAv.tr a7 (NX3_tell h8) (fun i z => by unfold wX3_tell at z; unfold wX5_solve; omega)
    obtain ⟨v55, V56, h9, h⟩ := mBW_some h
    have a9 : mAv (wX5_solve l1A) V V56 := mAv.tr a8 (NX5_loadUnknowns h9) (fun i z => by unfold wX5_loadUnknowns at z; unfold wX5_solve; omega)
    obtain ⟨v60, V61, h10, h⟩ := mBW_some h
    have a10 : mAv (wX5_solve l1A) V V61 := mAv.tr a9 (NX5_isFulfilled h10) (fun i z => by unfold wX5_isFulfilled at z; unfold wX5_solve; omega)
    obtain ⟨v65, L66, V66, h11, h⟩ := mBA_some h
    have y11 := NX5_writeLeast h11
    have a11 : mAv (wX5_solve l1A) V V66 := mAv.tr a10 y11.1 (fun i z => by unfold wX5_writeLeast at z; unfold wX5_solve; omega)
    have b11 : mAl (wX5_solve l1A) Ln L66 := mAl.tr mAl.rf y11.2 (fun i z => by unfold wX5_writeLeast at z; unfold wX5_solve; omega)
    obtain ⟨_, rfl, rfl⟩ := mRA3 h
    exact ⟨a11, b11⟩
def wX6_solveMachines (l1A : Nat) (i : Nat) : Prop := i = 8 ∨ (84 ≤ i ∧ i ≤ 87) ∨ i = 3000 ∨ i = l1A ∨ i = l1A + 2 ∨ i = l1A + 3
def wX6_solveMachines_0 (l1A : Nat) (i : Nat) : Prop := i = 3000 ∨ i = l1A ∨ i = l1A + 2 ∨ i = l1A + 3
def wX6_solveMachines_1 (l1A : Nat) (i : Nat) : Prop := i = 3000 ∨ i = l1A + 2 ∨ i = l1A + 3
set_option maxHeartbeats 4000000 in
theorem NX6_solveMachines_go {F : Nat} {v : Unit} {Ln1 : Nat → Nat} {V1 : mV} : ∀ k' : Nat, (∀ (l1A : Nat) (l2I : Int32) (l3I : Int32) (l4I : Int32) (Ln : Nat → Nat) (V : mV), mX6_solveMachines_go F k' 0 Ln l1A l2I l3I l4I 0 V = some (v, Ln1, V1) → mAv (wX6_solveMachines_0 l1A) V V1 ∧ mAl (wX6_solveMachines_0 l1A) Ln Ln1) ∧ (∀ (l1A : Nat) (l5I : Int32) (Ln : Nat → Nat) (V : mV), mX6_solveMachines_go F k' 1 Ln l1A 0 0 0 l5I V = some (v, Ln1, V1) → mAv (wX6_solveMachines_1 l1A) V V1 ∧ mAl (wX6_solveMachines_1 l1A) Ln Ln1) := by
  intro k'
  induction k' with
  | zero => exact ⟨(fun _ _ _ _ _ _ h => by cases h), (fun _ _ _ _ h => by cases h)⟩
  | succ k' ih =>
    refine ⟨?_, ?_⟩
    · intro l1A l2I l3I l4I Ln V h
      rw [mX6_solveMachines_go, if_pos rfl] at h
      unfold mX6_solveMachines_b0 at h
      rcases mIf_some h with ⟨_, h⟩ | ⟨_, h⟩
      · obtain ⟨v2, _, h⟩ := mBN_some h
        rcases mIf_some h with ⟨_, h⟩ | ⟨_, h⟩
        · obtain ⟨v8, V9, h1, h⟩ := mBW_some h
          have a1 : mAv (wX6_solveMachines_0 l1A) V V9 := mAv.tr mAv.rf (NX3_tell h1) (fun i z => by unfold wX3_tell at z; unfold wX6_solveMachines_0; omega)
          obtain ⟨v13, L14, V14, h2, h⟩ := mBA_some h
          have y2 := NX6_writeLetters h2
          have a2 : mAv (wX6_solveMachines_0 l1A) V V14 := mAv.tr a1 y2.1 (fun i z => by unfold wX6_writeLetters at z; unfold wX6_solveMachines_0; omega)
          have b2 : mAl (wX6_solveMachines_0 l1A) Ln L14 := mAl.tr mAl.rf y2.2 (fun i z => by unfold wX6_writeLetters at z; unfold wX6_solveMachines_0; omega)
          obtain ⟨_, rfl, rfl⟩ := mRA3 h
          exact ⟨a2, b2⟩
        · obtain ⟨v18, V19, h3, h⟩ := mBW_some h
          have a3 : mAv (wX6_solveMachines_0 l1A) V V19 := mAv.tr mAv.rf (NX3_tell h3) (fun i z => by unfold wX3_tell at z; unfold wX6_solveMachines_0; omega)
          have y := ih.2 _ _ _ _ h
          exact ⟨mAv.tr a3 y.1 (fun i z => by unfold wX6_solveMachines_1 at z; unfold wX6_solveMachines_0; omega), mAl.tr mAl.rf y.2 (fun i z => by unfold wX6_solveMachines_1 at z; unfold wX6_solveMachines_0; omega)⟩
      · obtain ⟨v23, _, h⟩ := mBN_some h
        rcases mIf_some h with ⟨_, h⟩ | ⟨_, h⟩
        · obtain ⟨x30, _, h⟩ := mLt_some h
          obtain ⟨x31, _, h⟩ := mLt_some h
          have y := ih.1 _ _ _ _ _ _ h
          exact ⟨mAv.tr mAv.rf y.1 (fun i z => by unfold wX6_solveMachines_0 at z; unfold wX6_solveMachines_0; omega), mAl.tr mAl.rf y.2 (fun i z => by unfold wX6_solveMachines_0 at z; unfold wX6_solveMachines_0; omega)⟩
        · obtain ⟨x29, _, h⟩ := mLt_some h
          have y := ih.1 _ _ _ _ _ _ h
          exact ⟨mAv.tr mAv.rf y.1 (fun i z => by unfold wX6_solveMachines_0 at z; unfold wX6_solveMachines_0; omega), mAl.tr mAl.rf y.2 (fun i z => by unfold wX6_solveMachines_0 at z; unfold wX6_solveMachines_0; omega)⟩
    · intro l1A l5I Ln V h
      rw [mX6_solveMachines_go, if_neg (by decide), if_pos rfl] at h
      unfold mX6_solveMachines_b1 at h
      rcases mIf_some h with ⟨_, h⟩ | ⟨_, h⟩
      · obtain ⟨_, rfl, rfl⟩ := mRA3 h
        exact ⟨mAv.rf, mAl.rf⟩
      · obtain ⟨v33, _, h⟩ := mBN_some h
        obtain ⟨v38, L39, V39, h4, h⟩ := mBA_some h
        have y4 := NX9_add h4
        have a4 : mAv (wX6_solveMachines_1 l1A) V V39 := mAv.tr mAv.rf y4.1 (fun i z => by unfold wX9_add at z; unfold wX6_solveMachines_1; omega)
        have b4 : mAl (wX6_solveMachines_1 l1A) Ln L39 := mAl.tr mAl.rf y4.2 (fun i z => by unfold wX9_add at z; unfold wX6_solveMachines_1; omega)
        obtain ⟨x43, _, h⟩ := mLt_some h
        have y := ih.2 _ _ _ _ h
        exact ⟨mAv.tr a4 y.1 (fun i z => by unfold wX6_solveMachines_1 at z; unfold wX6_solveMachines_1; omega), mAl.tr b4 y.2 (fun i z => by unfold wX6_solveMachines_1 at z; unfold wX6_solveMachines_1; omega)⟩
set_option maxHeartbeats 4000000 in
theorem NX6_solveMachines {F : Nat} {Ln Ln1 : Nat → Nat} {V V1 : mV} {v : Unit} {l1A : Nat} (h : mX6_solveMachines F Ln l1A V = some (v, Ln1, V1)) : mAv (wX6_solveMachines l1A) V V1 ∧ mAl (wX6_solveMachines l1A) Ln Ln1 := by
  have ih := NX6_solveMachines_go (F := F) (v := v) (Ln1 := Ln1) (V1 := V1) F
  unfold mX6_solveMachines mX6_solveMachines_s at h
  obtain ⟨v44, V45, h5, h⟩ := mBW_some h
  have a5 : mAv (wX6_solveMachines l1A) V V45 := mAv.tr mAv.rf (NX6_findLetters h5) (fun i z => by unfold wX6_findLetters at z; unfold wX6_solveMachines; omega)
  obtain ⟨v49, _, h⟩ := mBN_some h
  have y := ih.1 _ _ _ _ _ _ h
  exact ⟨mAv.tr a5 y.1 (fun i z => by unfold wX6_solveMachines_0 at z; unfold wX6_solveMachines; omega), mAl.tr mAl.rf y.2 (fun i z => by unfold wX6_solveMachines_0 at z; unfold wX6_solveMachines; omega)⟩
end
