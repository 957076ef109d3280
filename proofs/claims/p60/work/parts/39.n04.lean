/-! WHAT EACH METHOD LEAVES ALONE: X10_writeItems, X10_judgeItems, X10_readCode, X10_isLedWithin, X10_replaceAll, X11_forgetEntry, X1_writeTruths, X1_goThrough, X1_judgeTruths, X1_judgeTree, X2_loadEdges, X2_judgeDrawing, X2_areWaysOf, X4_leftSide. -/
section
def wX10_writeItems (l2A : Nat) (i : Nat) : Prop := i = 79 ∨ i = 3000 ∨ i = l2A ∨ i = l2A + 1
def wX10_writeItems_0 (l2A : Nat) (i : Nat) : Prop := i = 79 ∨ i = 3000 ∨ i = l2A ∨ i = l2A + 1
def wX10_writeItems_1 (l2A : Nat) (i : Nat) : Prop := i = 3000 ∨ i = l2A ∨ i = l2A + 1
set_option maxHeartbeats 4000000 in
theorem NX10_writeItems_go {F : Nat} {v : Unit} {Ln1 : Nat → Nat} {V1 : mV} : ∀ k' : Nat, (∀ (l2A : Nat) (l3I : Int32) (l4I : Int32) (Ln : Nat → Nat) (V : mV), mX10_writeItems_go F k' 0 Ln l2A l3I l4I 0 V = some (v, Ln1, V1) → mAv (wX10_writeItems_0 l2A) V V1 ∧ mAl (wX10_writeItems_0 l2A) Ln Ln1) ∧ (∀ (l2A : Nat) (l5I : Int32) (Ln : Nat → Nat) (V : mV), mX10_writeItems_go F k' 1 Ln l2A 0 0 l5I V = some (v, Ln1, V1) → mAv (wX10_writeItems_1 l2A) V V1 ∧ mAl (wX10_writeItems_1 l2A) Ln Ln1) := by
  intro k'
  induction k' with
  | zero => exact ⟨(fun _ _ _ _ _ h => by cases h), (fun _ _ _ _ h => by cases h)⟩
  | succ k' ih =>
    refine ⟨?_, ?_⟩
    · intro l2A l3I l4I Ln V h
      rw [mX10_writeItems_go, if_pos rfl] at h
      unfold mX10_writeItems_b0 at h
      rcases mIf_some h with ⟨_, h⟩ | ⟨_, h⟩
      · obtain ⟨x2, _, h⟩ := mLt_some h
        have y := ih.2 _ _ _ _ h
        exact ⟨mAv.tr mAv.rf y.1 (fun i z => by unfold wX10_writeItems_1 at z; unfold wX10_writeItems_0; omega), mAl.tr mAl.rf y.2 (fun i z => by unfold wX10_writeItems_1 at z; unfold wX10_writeItems_0; omega)⟩
      · rcases mIf_some h with ⟨_, h⟩ | ⟨_, h⟩
        · obtain ⟨x4, _, h⟩ := mLt_some h
          have y := ih.2 _ _ _ _ h
          exact ⟨mAv.tr mAv.rf y.1 (fun i z => by unfold wX10_writeItems_1 at z; unfold wX10_writeItems_0; omega), mAl.tr mAl.rf y.2 (fun i z => by unfold wX10_writeItems_1 at z; unfold wX10_writeItems_0; omega)⟩
        · obtain ⟨c1, h⟩ := mGd_some h
          obtain ⟨c2, h⟩ := mGd_some h
          obtain ⟨V7, eV7, h⟩ := mLt_some h
          have a3 : mAv (wX10_writeItems_0 l2A) V V7 := by rw [eV7]; exact mAv.I mAv.rf (by unfold wX10_writeItems_0; omega)
          obtain ⟨x8, _, h⟩ := mLt_some h
          obtain ⟨c4, h⟩ := mGd_some h
          obtain ⟨x10, _, h⟩ := mLt_some h
          have y := ih.1 _ _ _ _ _ h
          exact ⟨mAv.tr a3 y.1 (fun i z => by unfold wX10_writeItems_0 at z; unfold wX10_writeItems_0; omega), mAl.tr mAl.rf y.2 (fun i z => by unfold wX10_writeItems_0 at z; unfold wX10_writeItems_0; omega)⟩
    · intro l2A l5I Ln V h
      rw [mX10_writeItems_go, if_neg (by decide), if_pos rfl] at h
      unfold mX10_writeItems_b1 at h
      rcases mIf_some h with ⟨_, h⟩ | ⟨_, h⟩
      · obtain ⟨_, rfl, rfl⟩ := mRA3 h
        exact ⟨mAv.rf, mAl.rf⟩
      · obtain ⟨c5, h⟩ := mGd_some h
        obtain ⟨v13, L14, V14, h6, h⟩ := mBA_some h
        have y6 := NX9_add h6
        have a6 : mAv (wX10_writeItems_1 l2A) V V14 := mAv.tr mAv.rf y6.1 (fun i z => by unfold wX9_add at z; unfold wX10_writeItems_1; omega)
        have b6 : mAl (wX10_writeItems_1 l2A) Ln L14 := mAl.tr mAl.rf y6.2 (fun i z => by unfold wX9_add at z; unfold wX10_writeItems_1; omega)
        obtain ⟨x18, _, h⟩ := mLt_some h
        have y := ih.2 _ _ _ _ h
        exact ⟨mAv.tr a6 y.1 (fun i z => by unfold wX10_writeItems_1 at z; unfold wX10_writeItems_1; omega), mAl.tr b6 y.2 (fun i z => by unfold wX10_writeItems_1 at z; unfold wX10_writeItems_1; omega)⟩
set_option maxHeartbeats 4000000 in
theorem NX10_writeItems {F : Nat} {Ln Ln1 : Nat → Nat} {V V1 : mV} {v : Unit} {l1I : Int32} {l2A : Nat} (h : mX10_writeItems F Ln l1I l2A V = some (v, Ln1, V1)) : mAv (wX10_writeItems l2A) V V1 ∧ mAl (wX10_writeItems l2A) Ln Ln1 := by
  have ih := NX10_writeItems_go (F := F) (v := v) (Ln1 := Ln1) (V1 := V1) F
  unfold mX10_writeItems mX10_writeItems_s at h
  have y := ih.1 _ _ _ _ _ h
  exact ⟨mAv.tr mAv.rf y.1 (fun i z => by unfold wX10_writeItems_0 at z; unfold wX10_writeItems; omega), mAl.tr mAl.rf y.2 (fun i z => by unfold wX10_writeItems_0 at z; unfold wX10_writeItems; omega)⟩
def wX10_judgeItems (l1A : Nat) (l2A : Nat) (i : Nat) : Prop := i = 7 ∨ (71 ≤ i ∧ i ≤ 76)
def wX10_judgeItems_0 (l2A : Nat) (i : Nat) : Prop := False
def wX10_judgeItems_1 (l2A : Nat) (i : Nat) : Prop := False
set_option maxHeartbeats 4000000 in
theorem NX10_judgeItems_go {F : Nat} {v : Int32} {V1 : mV} : ∀ k' : Nat, (∀ (l2A : Nat) (l3I : Int32) (Ln : Nat → Nat) (V : mV), mX10_judgeItems_go F k' 0 Ln l2A l3I 0 0 V = some (v, V1) → mAv (wX10_judgeItems_0 l2A) V V1) ∧ (∀ (l2A : Nat) (l3I : Int32) (l4I : Int32) (l5I : Int32) (Ln : Nat → Nat) (V : mV), mX10_judgeItems_go F k' 1 Ln l2A l3I l4I l5I V = some (v, V1) → mAv (wX10_judgeItems_1 l2A) V V1) := by
  intro k'
  induction k' with
  | zero => exact ⟨(fun _ _ _ _ h => by cases h), (fun _ _ _ _ _ _ h => by cases h)⟩
  | succ k' ih =>
    refine ⟨?_, ?_⟩
    · intro l2A l3I Ln V h
      rw [mX10_judgeItems_go, if_pos rfl] at h
      unfold mX10_judgeItems_b0 at h
      rcases mIf_some h with ⟨_, h⟩ | ⟨_, h⟩
      · obtain ⟨_, rfl⟩ := mRW h
        exact mAv.rf
      · exact mAv.tr mAv.rf (ih.2 _ _ _ _ _ _ h) (fun i z => by unfold wX10_judgeItems_1 at z; unfold wX10_judgeItems_0; omega)
    · intro l2A l3I l4I l5I Ln V h
      rw [mX10_judgeItems_go, if_neg (by decide), if_pos rfl] at h
      unfold mX10_judgeItems_b1 at h
      rcases mIf_some h with ⟨_, h⟩ | ⟨_, h⟩
      · obtain ⟨c1, h⟩ := mGd_some h
        rcases mIf_some h with ⟨_, h⟩ | ⟨_, h⟩
        · obtain ⟨x5, _, h⟩ := mLt_some h
          exact mAv.tr mAv.rf (ih.1 _ _ _ _ h) (fun i z => by unfold wX10_judgeItems_0 at z; unfold wX10_judgeItems_1; omega)
        · obtain ⟨_, rfl⟩ := mRW h
          exact mAv.rf
      · obtain ⟨v6, _, h⟩ := mBN_some h
        obtain ⟨c2, h⟩ := mGd_some h
        obtain ⟨c3, h⟩ := mGd_some h
        obtain ⟨x14, _, h⟩ := mLt_some h
        obtain ⟨x15, _, h⟩ := mLt_some h
        exact mAv.tr mAv.rf (ih.2 _ _ _ _ _ _ h) (fun i z => by unfold wX10_judgeItems_1 at z; unfold wX10_judgeItems_1; omega)
set_option maxHeartbeats 4000000 in
theorem NX10_judgeItems {F : Nat} {Ln : Nat → Nat} {V V1 : mV} {v : Int32} {l1A : Nat} {l2A : Nat} (h : mX10_judgeItems F Ln l1A l2A V = some (v, V1)) : mAv (wX10_judgeItems l1A l2A) V V1 := by
  have ih := NX10_judgeItems_go (F := F) (v := v) (V1 := V1) F
  unfold mX10_judgeItems mX10_judgeItems_s at h
  obtain ⟨v16, V17, h4, h⟩ := mBW_some h
  have a4 : mAv (wX10_judgeItems l1A l2A) V V17 := mAv.tr mAv.rf (NX10_loadItems h4) (fun i z => by unfold wX10_loadItems at z; unfold wX10_judgeItems; omega)
  obtain ⟨v21, _, h⟩ := mBN_some h
  rcases mIf_some h with ⟨_, h⟩ | ⟨_, h⟩
  · obtain ⟨_, rfl⟩ := mRW h
    exact a4
  · exact mAv.tr a4 (ih.1 _ _ _ _ h) (fun i z => by unfold wX10_judgeItems_0 at z; unfold wX10_judgeItems; omega)
def wX10_readCode (i : Nat) : Prop := i = 77
def wX10_readCode_0 (i : Nat) : Prop := i = 77
set_option maxHeartbeats 4000000 in
theorem NX10_readCode_go {F : Nat} {v : Int32} {V1 : mV} : ∀ k' : Nat, (∀ (l3I : Int32) (l4I : Int32) (V : mV), mX10_readCode_go F k' 0 l3I l4I V = some (v, V1) → mAv (wX10_readCode_0) V V1) := by
  intro k'
  induction k' with
  | zero => exact (fun _ _ _ h => by cases h)
  | succ k' ih =>
    intro l3I l4I V h
    rw [mX10_readCode_go, if_pos rfl] at h
    unfold mX10_readCode_b0 at h
    rcases mIf_some h with ⟨_, h⟩ | ⟨_, h⟩
    · obtain ⟨_, rfl⟩ := mRW h
      exact mAv.rf
    · obtain ⟨v2, _, h⟩ := mBN_some h
      obtain ⟨c1, h⟩ := mGd_some h
      obtain ⟨V8, eV8, h⟩ := mLt_some h
      have a2 : mAv (wX10_readCode_0) V V8 := by rw [eV8]; exact mAv.I mAv.rf (by unfold wX10_readCode_0; omega)
      obtain ⟨v9, _, h⟩ := mBN_some h
      obtain ⟨x14, _, h⟩ := mLt_some h
      exact mAv.tr a2 (ih _ _ _ h) (fun i z => by unfold wX10_readCode_0 at z; unfold wX10_readCode_0; omega)
set_option maxHeartbeats 4000000 in
theorem NX10_readCode {F : Nat} {V V1 : mV} {v : Int32} {l1I : Int32} {l2I : Int32} (h : mX10_readCode F l1I l2I V = some (v, V1)) : mAv (wX10_readCode) V V1 := by
  have ih := NX10_readCode_go (F := F) (v := v) (V1 := V1) F
  unfold mX10_readCode mX10_readCode_s at h
  obtain ⟨x15, _, h⟩ := mLt_some h
  exact mAv.tr mAv.rf (ih _ _ _ h) (fun i z => by unfold wX10_readCode_0 at z; unfold wX10_readCode; omega)
def wX10_isLedWithin (l1A : Nat) (i : Nat) : Prop := (77 ≤ i ∧ i ≤ 78)
def wX10_isLedWithin_0 (l1A : Nat) (i : Nat) : Prop := i = 78
def wX10_isLedWithin_1 (l1A : Nat) (i : Nat) : Prop := i = 78
set_option maxHeartbeats 4000000 in
theorem NX10_isLedWithin_go {F : Nat} {v : Int32} {V1 : mV} : ∀ k' : Nat, (∀ (l1A : Nat) (l3I : Int32) (l4I : Int32) (Ln : Nat → Nat) (V : mV), mX10_isLedWithin_go F k' 0 Ln l1A l3I l4I 0 V = some (v, V1) → mAv (wX10_isLedWithin_0 l1A) V V1) ∧ (∀ (l1A : Nat) (l3I : Int32) (l4I : Int32) (l5I : Int32) (Ln : Nat → Nat) (V : mV), mX10_isLedWithin_go F k' 1 Ln l1A l3I l4I l5I V = some (v, V1) → mAv (wX10_isLedWithin_1 l1A) V V1) := by
  intro k'
  induction k' with
  | zero => exact ⟨(fun _ _ _ _ _ h => by cases h), (fun _ _ _ _ _ _ h => by cases h)⟩
  | succ k' ih =>
    refine ⟨?_, ?_⟩
    · intro l1A l3I l4I Ln V h
      rw [mX10_isLedWithin_go, if_pos rfl] at h
      unfold mX10_isLedWithin_b0 at h
      rcases mIf_some h with ⟨_, h⟩ | ⟨_, h⟩
      · obtain ⟨_, rfl⟩ := mRW h
        exact mAv.rf
      · exact mAv.tr mAv.rf (ih.2 _ _ _ _ _ _ h) (fun i z => by unfold wX10_isLedWithin_1 at z; unfold wX10_isLedWithin_0; omega)
    · intro l1A l3I l4I l5I Ln V h
      rw [mX10_isLedWithin_go, if_neg (by decide), if_pos rfl] at h
      unfold mX10_isLedWithin_b1 at h
      rcases mIf_some h with ⟨_, h⟩ | ⟨_, h⟩
      · obtain ⟨v3, _, h⟩ := mBN_some h
        obtain ⟨v8, _, h⟩ := mBN_some h
        rcases mIf_some h with ⟨_, h⟩ | ⟨_, h⟩
        · obtain ⟨_, rfl⟩ := mRW h
          exact mAv.rf
        · obtain ⟨x14, _, h⟩ := mLt_some h
          exact mAv.tr mAv.rf (ih.1 _ _ _ _ _ h) (fun i z => by unfold wX10_isLedWithin_0 at z; unfold wX10_isLedWithin_1; omega)
      · obtain ⟨c1, h⟩ := mGd_some h
        obtain ⟨c2, h⟩ := mGd_some h
        obtain ⟨c3, h⟩ := mGd_some h
        obtain ⟨c4, h⟩ := mGd_some h
        obtain ⟨V20, eV20, h⟩ := mLt_some h
        have a5 : mAv (wX10_isLedWithin_1 l1A) V V20 := by rw [eV20]; exact mAv.I mAv.rf (by unfold wX10_isLedWithin_1; omega)
        obtain ⟨x21, _, h⟩ := mLt_some h
        exact mAv.tr a5 (ih.2 _ _ _ _ _ _ h) (fun i z => by unfold wX10_isLedWithin_1 at z; unfold wX10_isLedWithin_1; omega)
set_option maxHeartbeats 4000000 in
theorem NX10_isLedWithin {F : Nat} {Ln : Nat → Nat} {V V1 : mV} {v : Int32} {l1A : Nat} {l2I : Int32} {l3I : Int32} (h : mX10_isLedWithin F Ln l1A l2I l3I V = some (v, V1)) : mAv (wX10_isLedWithin l1A) V V1 := by
  have ih := NX10_isLedWithin_go (F := F) (v := v) (V1 := V1) F
  unfold mX10_isLedWithin mX10_isLedWithin_s at h
  obtain ⟨v22, _, h⟩ := mBN_some h
  obtain ⟨v27, V28, h6, h⟩ := mBW_some h
  have a6 : mAv (wX10_isLedWithin l1A) V V28 := mAv.tr mAv.rf (NX10_readCode h6) (fun i z => by unfold wX10_readCode at z; unfold wX10_isLedWithin; omega)
  exact mAv.tr a6 (ih.1 _ _ _ _ _ h) (fun i z => by unfold wX10_isLedWithin_0 at z; unfold wX10_isLedWithin; omega)
def wX10_replaceAll (l1A : Nat) (i : Nat) : Prop := i = 7 ∨ i = 83
def wX10_replaceAll_0 (i : Nat) : Prop := i = 7 ∨ i = 83
set_option maxHeartbeats 4000000 in
theorem NX10_replaceAll_go {F : Nat} {v : Unit} {V1 : mV} : ∀ k' : Nat, (∀ (l2I : Int32) (l3I : Int32) (l4I : Int32) (l6I : Int32) (l7I : Int32) (l8I : Int32) (V : mV), mX10_replaceAll_go F k' 0 l2I l3I l4I l6I l7I l8I V = some (v, V1) → mAv (wX10_replaceAll_0) V V1) := by
  intro k'
  induction k' with
  | zero => exact (fun _ _ _ _ _ _ _ h => by cases h)
  | succ k' ih =>
    intro l2I l3I l4I l6I l7I l8I V h
    rw [mX10_replaceAll_go, if_pos rfl] at h
    unfold mX10_replaceAll_b0 at h
    rcases mIf_some h with ⟨_, h⟩ | ⟨_, h⟩
    · obtain ⟨_, rfl⟩ := mRW h
      exact mAv.rf
    · obtain ⟨x2, _, h⟩ := mLt_some h
      rcases mIf_some h with ⟨_, h⟩ | ⟨_, h⟩
      · obtain ⟨x5, _, h⟩ := mLt_some h
        obtain ⟨x6, _, h⟩ := mLt_some h
        obtain ⟨v7, V8, h1, h⟩ := mBW_some h
        have a1 : mAv (wX10_replaceAll_0) V V8 := mAv.tr mAv.rf (NX10_addNext h1) (fun i z => by unfold wX10_addNext at z; unfold wX10_replaceAll_0; omega)
        obtain ⟨x12, _, h⟩ := mLt_some h
        exact mAv.tr a1 (ih _ _ _ _ _ _ _ h) (fun i z => by unfold wX10_replaceAll_0 at z; unfold wX10_replaceAll_0; omega)
      · obtain ⟨x4, _, h⟩ := mLt_some h
        exact mAv.tr mAv.rf (ih _ _ _ _ _ _ _ h) (fun i z => by unfold wX10_replaceAll_0 at z; unfold wX10_replaceAll_0; omega)
set_option maxHeartbeats 4000000 in
theorem NX10_replaceAll {F : Nat} {V V1 : mV} {v : Unit} {l1A : Nat} {l2I : Int32} {l3I : Int32} {l4I : Int32} (h : mX10_replaceAll F l1A l2I l3I l4I V = some (v, V1)) : mAv (wX10_replaceAll l1A) V V1 := by
  have ih := NX10_replaceAll_go (F := F) (v := v) (V1 := V1) F
  unfold mX10_replaceAll mX10_replaceAll_s at h
  obtain ⟨v13, _, h⟩ := mBN_some h
  obtain ⟨v18, _, h⟩ := mBN_some h
  obtain ⟨v23, _, h⟩ := mBN_some h
  rcases mIf_some h with ⟨_, h⟩ | ⟨_, h⟩
  · obtain ⟨x29, _, h⟩ := mLt_some h
    exact mAv.tr mAv.rf (ih _ _ _ _ _ _ _ h) (fun i z => by unfold wX10_replaceAll_0 at z; unfold wX10_replaceAll; omega)
  · obtain ⟨_, rfl⟩ := mRW h
    exact mAv.rf
def wX11_forgetEntry (i : Nat) : Prop := i = 0 ∨ i = 17 ∨ (256 ≤ i ∧ i ≤ 344)
def wX11_forgetEntry_0 (i : Nat) : Prop := i = 0 ∨ i = 17 ∨ (256 ≤ i ∧ i ≤ 344)
set_option maxHeartbeats 4000000 in
theorem NX11_forgetEntry_go {F : Nat} {v : Unit} {V1 : mV} : ∀ k' : Nat, (∀ (l1I : Int32) (l2I : Int32) (V : mV), mX11_forgetEntry_go F k' 0 l1I l2I V = some (v, V1) → mAv (wX11_forgetEntry_0) V V1) := by
  intro k'
  induction k' with
  | zero => exact (fun _ _ _ h => by cases h)
  | succ k' ih =>
    intro l1I l2I V h
    rw [mX11_forgetEntry_go, if_pos rfl] at h
    unfold mX11_forgetEntry_b0 at h
    rcases mIf_some h with ⟨_, h⟩ | ⟨_, h⟩
    · obtain ⟨c1, h⟩ := mGd_some h
      obtain ⟨V4, eV4, h⟩ := mLt_some h
      have z2 := (Nat.lt_of_not_le (fun z => c1 (Or.inr z)))
      have a2 : mAv (wX11_forgetEntry_0) V V4 := by rw [eV4]; exact mAv.F mAv.rf (by unfold wX11_forgetEntry_0; omega)
      obtain ⟨V5, eV5, h⟩ := mLt_some h
      have a3 : mAv (wX11_forgetEntry_0) V V5 := by rw [eV5]; exact mAv.F a2 (by unfold wX11_forgetEntry_0; omega)
      obtain ⟨_, rfl⟩ := mRW h
      exact a3
    · obtain ⟨c4, h⟩ := mGd_some h
      rcases mIf_some h with ⟨_, h⟩ | ⟨_, h⟩
      · obtain ⟨v10, V11, h5, h⟩ := mBW_some h
        have a5 : mAv (wX11_forgetEntry_0) V V11 := mAv.tr mAv.rf (NX11_removeClaim h5) (fun i z => by unfold wX11_removeClaim at z; unfold wX11_forgetEntry_0; omega)
        obtain ⟨x15, _, h⟩ := mLt_some h
        exact mAv.tr a5 (ih _ _ _ h) (fun i z => by unfold wX11_forgetEntry_0 at z; unfold wX11_forgetEntry_0; omega)
      · obtain ⟨x9, _, h⟩ := mLt_some h
        exact mAv.tr mAv.rf (ih _ _ _ h) (fun i z => by unfold wX11_forgetEntry_0 at z; unfold wX11_forgetEntry_0; omega)
set_option maxHeartbeats 4000000 in
theorem NX11_forgetEntry {F : Nat} {V V1 : mV} {v : Unit} {l1I : Int32} (h : mX11_forgetEntry F l1I V = some (v, V1)) : mAv (wX11_forgetEntry) V V1 := by
  have ih := NX11_forgetEntry_go (F := F) (v := v) (V1 := V1) F
  unfold mX11_forgetEntry mX11_forgetEntry_s at h
  obtain ⟨x16, _, h⟩ := mLt_some h
  exact mAv.tr mAv.rf (ih _ _ _ h) (fun i z => by unfold wX11_forgetEntry_0 at z; unfold wX11_forgetEntry; omega)
def wX1_writeTruths (l2A : Nat) (i : Nat) : Prop := i = 3000 ∨ i = l2A ∨ i = l2A + 1
def wX1_writeTruths_0 (l2A : Nat) (i : Nat) : Prop := i = 3000 ∨ i = l2A ∨ i = l2A + 1
set_option maxHeartbeats 4000000 in
theorem NX1_writeTruths_go {F : Nat} {v : Unit} {Ln1 : Nat → Nat} {V1 : mV} : ∀ k' : Nat, (∀ (l0I : Int32) (l1I : Int32) (l2A : Nat) (l3I : Int32) (Ln : Nat → Nat) (V : mV), mX1_writeTruths_go F k' 0 Ln l0I l1I l2A l3I V = some (v, Ln1, V1) → mAv (wX1_writeTruths_0 l2A) V V1 ∧ mAl (wX1_writeTruths_0 l2A) Ln Ln1) := by
  intro k'
  induction k' with
  | zero => exact (fun _ _ _ _ _ _ h => by cases h)
  | succ k' ih =>
    intro l0I l1I l2A l3I Ln V h
    rw [mX1_writeTruths_go, if_pos rfl] at h
    unfold mX1_writeTruths_b0 at h
    rcases mIf_some h with ⟨_, h⟩ | ⟨_, h⟩
    · obtain ⟨_, rfl, rfl⟩ := mRA3 h
      exact ⟨mAv.rf, mAl.rf⟩
    · obtain ⟨v2, _, h⟩ := mBN_some h
      rcases mIf_some h with ⟨_, h⟩ | ⟨_, h⟩
      · obtain ⟨v8, L9, V9, h1, h⟩ := mBA_some h
        have y1 := NX9_add h1
        have a1 : mAv (wX1_writeTruths_0 l2A) V V9 := mAv.tr mAv.rf y1.1 (fun i z => by unfold wX9_add at z; unfold wX1_writeTruths_0; omega)
        have b1 : mAl (wX1_writeTruths_0 l2A) Ln L9 := mAl.tr mAl.rf y1.2 (fun i z => by unfold wX9_add at z; unfold wX1_writeTruths_0; omega)
        obtain ⟨x13, _, h⟩ := mLt_some h
        have y := ih _ _ _ _ _ _ h
        exact ⟨mAv.tr a1 y.1 (fun i z => by unfold wX1_writeTruths_0 at z; unfold wX1_writeTruths_0; omega), mAl.tr b1 y.2 (fun i z => by unfold wX1_writeTruths_0 at z; unfold wX1_writeTruths_0; omega)⟩
      · obtain ⟨v14, L15, V15, h2, h⟩ := mBA_some h
        have y2 := NX9_add h2
        have a2 : mAv (wX1_writeTruths_0 l2A) V V15 := mAv.tr mAv.rf y2.1 (fun i z => by unfold wX9_add at z; unfold wX1_writeTruths_0; omega)
        have b2 : mAl (wX1_writeTruths_0 l2A) Ln L15 := mAl.tr mAl.rf y2.2 (fun i z => by unfold wX9_add at z; unfold wX1_writeTruths_0; omega)
        obtain ⟨x19, _, h⟩ := mLt_some h
        have y := ih _ _ _ _ _ _ h
        exact ⟨mAv.tr a2 y.1 (fun i z => by unfold wX1_writeTruths_0 at z; unfold wX1_writeTruths_0; omega), mAl.tr b2 y.2 (fun i z => by unfold wX1_writeTruths_0 at z; unfold wX1_writeTruths_0; omega)⟩
set_option maxHeartbeats 4000000 in
theorem NX1_writeTruths {F : Nat} {Ln Ln1 : Nat → Nat} {V V1 : mV} {v : Unit} {l0I : Int32} {l1I : Int32} {l2A : Nat} (h : mX1_writeTruths F Ln l0I l1I l2A V = some (v, Ln1, V1)) : mAv (wX1_writeTruths l2A) V V1 ∧ mAl (wX1_writeTruths l2A) Ln Ln1 := by
  have ih := NX1_writeTruths_go (F := F) (v := v) (Ln1 := Ln1) (V1 := V1) F
  unfold mX1_writeTruths mX1_writeTruths_s at h
  have y := ih _ _ _ _ _ _ h
  exact ⟨mAv.tr mAv.rf y.1 (fun i z => by unfold wX1_writeTruths_0 at z; unfold wX1_writeTruths; omega), mAl.tr mAl.rf y.2 (fun i z => by unfold wX1_writeTruths_0 at z; unfold wX1_writeTruths; omega)⟩
def wX1_goThrough (l1A : Nat) (l2A : Nat) (i : Nat) : Prop := i = 5 ∨ (52 ≤ i ∧ i ≤ 53) ∨ i = 3000 ∨ i = l2A ∨ i = l2A + 1
def wX1_goThrough_0 (l1A : Nat) (l2A : Nat) (i : Nat) : Prop := i = 5 ∨ (52 ≤ i ∧ i ≤ 53) ∨ i = 3000 ∨ i = l2A ∨ i = l2A + 1
def wX1_goThrough_1 (l1A : Nat) (l2A : Nat) (i : Nat) : Prop := i = 5 ∨ (52 ≤ i ∧ i ≤ 53) ∨ i = 3000 ∨ i = l2A ∨ i = l2A + 1
set_option maxHeartbeats 4000000 in
theorem NX1_goThrough_go {F : Nat} {v : Unit} {Ln1 : Nat → Nat} {V1 : mV} : ∀ k' : Nat, (∀ (l1A : Nat) (l2A : Nat) (l3I : Int32) (Ln : Nat → Nat) (V : mV), mX1_goThrough_go F k' 0 Ln l1A l2A l3I 0 V = some (v, Ln1, V1) → mAv (wX1_goThrough_0 l1A l2A) V V1 ∧ mAl (wX1_goThrough_0 l1A l2A) Ln Ln1) ∧ (∀ (l1A : Nat) (l2A : Nat) (l3I : Int32) (l4I : Int32) (Ln : Nat → Nat) (V : mV), mX1_goThrough_go F k' 1 Ln l1A l2A l3I l4I V = some (v, Ln1, V1) → mAv (wX1_goThrough_1 l1A l2A) V V1 ∧ mAl (wX1_goThrough_1 l1A l2A) Ln Ln1) := by
  intro k'
  induction k' with
  | zero => exact ⟨(fun _ _ _ _ _ h => by cases h), (fun _ _ _ _ _ _ h => by cases h)⟩
  | succ k' ih =>
    refine ⟨?_, ?_⟩
    · intro l1A l2A l3I Ln V h
      rw [mX1_goThrough_go, if_pos rfl] at h
      unfold mX1_goThrough_b0 at h
      rcases mIf_some h with ⟨_, h⟩ | ⟨_, h⟩
      · obtain ⟨_, rfl, rfl⟩ := mRA3 h
        exact ⟨mAv.rf, mAl.rf⟩
      · rcases mIf_some h with ⟨_, h⟩ | ⟨_, h⟩
        · obtain ⟨v3, _, h⟩ := mBN_some h
          rcases mIf_some h with ⟨_, h⟩ | ⟨_, h⟩
          · have y := ih.2 _ _ _ _ _ _ h
            exact ⟨mAv.tr mAv.rf y.1 (fun i z => by unfold wX1_goThrough_1 at z; unfold wX1_goThrough_0; omega), mAl.tr mAl.rf y.2 (fun i z => by unfold wX1_goThrough_1 at z; unfold wX1_goThrough_0; omega)⟩
          · obtain ⟨v9, _, h⟩ := mBN_some h
            rcases mIf_some h with ⟨_, h⟩ | ⟨_, h⟩
            · obtain ⟨V15, eV15, h⟩ := mLt_some h
              have a1 : mAv (wX1_goThrough_0 l1A l2A) V V15 := by rw [eV15]; exact mAv.F mAv.rf (by unfold wX1_goThrough_0; omega)
              obtain ⟨x16, _, h⟩ := mLt_some h
              have y := ih.1 _ _ _ _ _ h
              exact ⟨mAv.tr a1 y.1 (fun i z => by unfold wX1_goThrough_0 at z; unfold wX1_goThrough_0; omega), mAl.tr mAl.rf y.2 (fun i z => by unfold wX1_goThrough_0 at z; unfold wX1_goThrough_0; omega)⟩
            · have y := ih.2 _ _ _ _ _ _ h
              exact ⟨mAv.tr mAv.rf y.1 (fun i z => by unfold wX1_goThrough_1 at z; unfold wX1_goThrough_0; omega), mAl.tr mAl.rf y.2 (fun i z => by unfold wX1_goThrough_1 at z; unfold wX1_goThrough_0; omega)⟩
        · obtain ⟨_, rfl, rfl⟩ := mRA3 h
          exact ⟨mAv.rf, mAl.rf⟩
    · intro l1A l2A l3I l4I Ln V h
      rw [mX1_goThrough_go, if_neg (by decide), if_pos rfl] at h
      unfold mX1_goThrough_b1 at h
      obtain ⟨v17, L18, V18, h2, h⟩ := mBA_some h
      have y2 := NX9_add h2
      have a2 : mAv (wX1_goThrough_1 l1A l2A) V V18 := mAv.tr mAv.rf y2.1 (fun i z => by unfold wX9_add at z; unfold wX1_goThrough_1; omega)
      have b2 : mAl (wX1_goThrough_1 l1A l2A) Ln L18 := mAl.tr mAl.rf y2.2 (fun i z => by unfold wX9_add at z; unfold wX1_goThrough_1; omega)
      rcases mIf_some h with ⟨_, h⟩ | ⟨_, h⟩
      · obtain ⟨v23, V24, h3, h⟩ := mBW_some h
        have a3 : mAv (wX1_goThrough_1 l1A l2A) V V24 := mAv.tr a2 (NX1_derive h3) (fun i z => by unfold wX1_derive at z; unfold wX1_goThrough_1; omega)
        obtain ⟨v28, V29, h4, h⟩ := mBW_some h
        have a4 : mAv (wX1_goThrough_1 l1A l2A) V V29 := mAv.tr a3 (NX1_goBack h4) (fun i z => by unfold wX1_goBack at z; unfold wX1_goThrough_1; omega)
        obtain ⟨x33, _, h⟩ := mLt_some h
        have y := ih.1 _ _ _ _ _ h
        exact ⟨mAv.tr a4 y.1 (fun i z => by unfold wX1_goThrough_0 at z; unfold wX1_goThrough_1; omega), mAl.tr b2 y.2 (fun i z => by unfold wX1_goThrough_0 at z; unfold wX1_goThrough_1; omega)⟩
      · obtain ⟨v34, _, h⟩ := mBN_some h
        obtain ⟨v39, V40, h5, h⟩ := mBW_some h
        have a5 : mAv (wX1_goThrough_1 l1A l2A) V V40 := mAv.tr a2 (NX1_derive h5) (fun i z => by unfold wX1_derive at z; unfold wX1_goThrough_1; omega)
        obtain ⟨v44, V45, h6, h⟩ := mBW_some h
        have a6 : mAv (wX1_goThrough_1 l1A l2A) V V45 := mAv.tr a5 (NX1_goBack h6) (fun i z => by unfold wX1_goBack at z; unfold wX1_goThrough_1; omega)
        obtain ⟨x49, _, h⟩ := mLt_some h
        have y := ih.1 _ _ _ _ _ h
        exact ⟨mAv.tr a6 y.1 (fun i z => by unfold wX1_goThrough_0 at z; unfold wX1_goThrough_1; omega), mAl.tr b2 y.2 (fun i z => by unfold wX1_goThrough_0 at z; unfold wX1_goThrough_1; omega)⟩
set_option maxHeartbeats 4000000 in
theorem NX1_goThrough {F : Nat} {Ln Ln1 : Nat → Nat} {V V1 : mV} {v : Unit} {l1A : Nat} {l2A : Nat} (h : mX1_goThrough F Ln l1A l2A V = some (v, Ln1, V1)) : mAv (wX1_goThrough l1A l2A) V V1 ∧ mAl (wX1_goThrough l1A l2A) Ln Ln1 := by
  have ih := NX1_goThrough_go (F := F) (v := v) (Ln1 := Ln1) (V1 := V1) F
  unfold mX1_goThrough mX1_goThrough_s at h
  obtain ⟨v50, V51, h7, h⟩ := mBW_some h
  have a7 : mAv (wX1_goThrough l1A l2A) V V51 := mAv.tr mAv.rf (NX1_begin h7) (fun i z => by unfold wX1_begin at z; unfold wX1_goThrough; omega)
  have y := ih.1 _ _ _ _ _ h
  exact ⟨mAv.tr a7 y.1 (fun i z => by unfold wX1_goThrough_0 at z; unfold wX1_goThrough; omega), mAl.tr mAl.rf y.2 (fun i z => by unfold wX1_goThrough_0 at z; unfold wX1_goThrough; omega)⟩
def wX1_judgeTruths (l1A : Nat) (l2A : Nat) (i : Nat) : Prop := i = 5
def wX1_judgeTruths_0 (l1A : Nat) (l2A : Nat) (i : Nat) : Prop := i = 5
set_option maxHeartbeats 4000000 in
theorem NX1_judgeTruths_go {F : Nat} {v : Int32} {V1 : mV} : ∀ k' : Nat, (∀ (l1A : Nat) (l2A : Nat) (l3I : Int32) (Ln : Nat → Nat) (V : mV), mX1_judgeTruths_go F k' 0 Ln l1A l2A l3I V = some (v, V1) → mAv (wX1_judgeTruths_0 l1A l2A) V V1) := by
  intro k'
  induction k' with
  | zero => exact (fun _ _ _ _ _ h => by cases h)
  | succ k' ih =>
    intro l1A l2A l3I Ln V h
    rw [mX1_judgeTruths_go, if_pos rfl] at h
    unfold mX1_judgeTruths_b0 at h
    rcases mIf_some h with ⟨_, h⟩ | ⟨_, h⟩
    · obtain ⟨v2, _, h⟩ := mBN_some h
      rcases mIf_some h with ⟨_, h⟩ | ⟨_, h⟩
      · obtain ⟨v8, _, h⟩ := mBN_some h
        rcases mIf_some h with ⟨_, h⟩ | ⟨_, h⟩
        · obtain ⟨_, rfl⟩ := mRW h
          exact mAv.rf
        · obtain ⟨_, rfl⟩ := mRW h
          exact mAv.rf
      · obtain ⟨_, rfl⟩ := mRW h
        exact mAv.rf
    · obtain ⟨v14, _, h⟩ := mBN_some h
      obtain ⟨V19, eV19, h⟩ := mLt_some h
      have a1 : mAv (wX1_judgeTruths_0 l1A l2A) V V19 := by rw [eV19]; exact mAv.F mAv.rf (by unfold wX1_judgeTruths_0; omega)
      obtain ⟨x20, _, h⟩ := mLt_some h
      exact mAv.tr a1 (ih _ _ _ _ _ h) (fun i z => by unfold wX1_judgeTruths_0 at z; unfold wX1_judgeTruths_0; omega)
set_option maxHeartbeats 4000000 in
theorem NX1_judgeTruths {F : Nat} {Ln : Nat → Nat} {V V1 : mV} {v : Int32} {l1A : Nat} {l2A : Nat} (h : mX1_judgeTruths F Ln l1A l2A V = some (v, V1)) : mAv (wX1_judgeTruths l1A l2A) V V1 := by
  have ih := NX1_judgeTruths_go (F := F) (v := v) (V1 := V1) F
  unfold mX1_judgeTruths mX1_judgeTruths_s at h
  rcases mIf_some h with ⟨_, h⟩ | ⟨_, h⟩
  · obtain ⟨v22, _, h⟩ := mBN_some h
    rcases mIf_some h with ⟨_, h⟩ | ⟨_, h⟩
    · obtain ⟨_, rfl⟩ := mRW h
      exact mAv.rf
    · obtain ⟨V28, eV28, h⟩ := mLt_some h
      have a2 : mAv (wX1_judgeTruths l1A l2A) V V28 := by rw [eV28]; exact mAv.F mAv.rf (by unfold wX1_judgeTruths; omega)
      obtain ⟨V29, eV29, h⟩ := mLt_some h
      have a3 : mAv (wX1_judgeTruths l1A l2A) V V29 := by rw [eV29]; exact mAv.F a2 (by unfold wX1_judgeTruths; omega)
      exact mAv.tr a3 (ih _ _ _ _ _ h) (fun i z => by unfold wX1_judgeTruths_0 at z; unfold wX1_judgeTruths; omega)
  · obtain ⟨_, rfl⟩ := mRW h
    exact mAv.rf
def wX1_judgeTree (l1A : Nat) (l2A : Nat) (i : Nat) : Prop := i = 5 ∨ (52 ≤ i ∧ i ≤ 53)
def wX1_judgeTree_0 (l1A : Nat) (l2A : Nat) (i : Nat) : Prop := i = 5 ∨ (52 ≤ i ∧ i ≤ 53)
set_option maxHeartbeats 4000000 in
theorem NX1_judgeTree_go {F : Nat} {v : Int32} {V1 : mV} : ∀ k' : Nat, (∀ (l1A : Nat) (l2A : Nat) (l3I : Int32) (l4I : Int32) (Ln : Nat → Nat) (V : mV), mX1_judgeTree_go F k' 0 Ln l1A l2A l3I l4I V = some (v, V1) → mAv (wX1_judgeTree_0 l1A l2A) V V1) := by
  intro k'
  induction k' with
  | zero => exact (fun _ _ _ _ _ _ h => by cases h)
  | succ k' ih =>
    intro l1A l2A l3I l4I Ln V h
    rw [mX1_judgeTree_go, if_pos rfl] at h
    unfold mX1_judgeTree_b0 at h
    rcases mIf_some h with ⟨_, h⟩ | ⟨_, h⟩
    · rcases mIf_some h with ⟨_, h⟩ | ⟨_, h⟩
      · obtain ⟨_, rfl⟩ := mRW h
        exact mAv.rf
      · obtain ⟨_, rfl⟩ := mRW h
        exact mAv.rf
    · rcases mIf_some h with ⟨_, h⟩ | ⟨_, h⟩
      · rcases mIf_some h with ⟨_, h⟩ | ⟨_, h⟩
        · rcases mIf_some h with ⟨_, h⟩ | ⟨_, h⟩
          · obtain ⟨_, rfl⟩ := mRW h
            exact mAv.rf
          · obtain ⟨V7, eV7, h⟩ := mLt_some h
            have a1 : mAv (wX1_judgeTree_0 l1A l2A) V V7 := by rw [eV7]; exact mAv.F mAv.rf (by unfold wX1_judgeTree_0; omega)
            obtain ⟨x8, _, h⟩ := mLt_some h
            exact mAv.tr a1 (ih _ _ _ _ _ _ h) (fun i z => by unfold wX1_judgeTree_0 at z; unfold wX1_judgeTree_0; omega)
        · obtain ⟨v9, _, h⟩ := mBN_some h
          obtain ⟨v14, _, h⟩ := mBN_some h
          rcases mIf_some h with ⟨_, h⟩ | ⟨_, h⟩
          · rcases mIf_some h with ⟨_, h⟩ | ⟨_, h⟩
            · obtain ⟨_, rfl⟩ := mRW h
              exact mAv.rf
            · obtain ⟨V21, eV21, h⟩ := mLt_some h
              have a2 : mAv (wX1_judgeTree_0 l1A l2A) V V21 := by rw [eV21]; exact mAv.F mAv.rf (by unfold wX1_judgeTree_0; omega)
              obtain ⟨x22, _, h⟩ := mLt_some h
              exact mAv.tr a2 (ih _ _ _ _ _ _ h) (fun i z => by unfold wX1_judgeTree_0 at z; unfold wX1_judgeTree_0; omega)
          · obtain ⟨x23, _, h⟩ := mLt_some h
            obtain ⟨v24, V25, h3, h⟩ := mBW_some h
            have a3 : mAv (wX1_judgeTree_0 l1A l2A) V V25 := mAv.tr mAv.rf (NX1_goBack h3) (fun i z => by unfold wX1_goBack at z; unfold wX1_judgeTree_0; omega)
            obtain ⟨x29, _, h⟩ := mLt_some h
            exact mAv.tr a3 (ih _ _ _ _ _ _ h) (fun i z => by unfold wX1_judgeTree_0 at z; unfold wX1_judgeTree_0; omega)
      · rcases mIf_some h with ⟨_, h⟩ | ⟨_, h⟩
        · obtain ⟨_, rfl⟩ := mRW h
          exact mAv.rf
        · obtain ⟨_, rfl⟩ := mRW h
          exact mAv.rf
set_option maxHeartbeats 4000000 in
theorem NX1_judgeTree {F : Nat} {Ln : Nat → Nat} {V V1 : mV} {v : Int32} {l1A : Nat} {l2A : Nat} (h : mX1_judgeTree F Ln l1A l2A V = some (v, V1)) : mAv (wX1_judgeTree l1A l2A) V V1 := by
  have ih := NX1_judgeTree_go (F := F) (v := v) (V1 := V1) F
  unfold mX1_judgeTree mX1_judgeTree_s at h
  obtain ⟨v30, _, h⟩ := mBN_some h
  rcases mIf_some h with ⟨_, h⟩ | ⟨_, h⟩
  · obtain ⟨_, rfl⟩ := mRW h
    exact mAv.rf
  · obtain ⟨v36, V37, h4, h⟩ := mBW_some h
    have a4 : mAv (wX1_judgeTree l1A l2A) V V37 := mAv.tr mAv.rf (NX1_begin h4) (fun i z => by unfold wX1_begin at z; unfold wX1_judgeTree; omega)
    exact mAv.tr a4 (ih _ _ _ _ _ _ h) (fun i z => by unfold wX1_judgeTree_0 at z; unfold wX1_judgeTree; omega)
def wX2_loadEdges (l1A : Nat) (i : Nat) : Prop := i = 3 ∨ (27 ≤ i ∧ i ≤ 30) ∨ i = 33
def wX2_loadEdges_0 (i : Nat) : Prop := i = 3 ∨ (29 ≤ i ∧ i ≤ 30) ∨ i = 33
def wX2_loadEdges_1 (i : Nat) : Prop := i = 3 ∨ (29 ≤ i ∧ i ≤ 30) ∨ i = 33
set_option maxHeartbeats 4000000 in
theorem NX2_loadEdges_go {F : Nat} {v : Unit} {V1 : mV} : ∀ k' : Nat, (∀ (l3I : Int32) (V : mV), mX2_loadEdges_go F k' 0 l3I 0 V = some (v, V1) → mAv (wX2_loadEdges_0) V V1) ∧ (∀ (l3I : Int32) (l4I : Int32) (V : mV), mX2_loadEdges_go F k' 1 l3I l4I V = some (v, V1) → mAv (wX2_loadEdges_1) V V1) := by
  intro k'
  induction k' with
  | zero => exact ⟨(fun _ _ h => by cases h), (fun _ _ _ h => by cases h)⟩
  | succ k' ih =>
    refine ⟨?_, ?_⟩
    · intro l3I V h
      rw [mX2_loadEdges_go, if_pos rfl] at h
      unfold mX2_loadEdges_b0 at h
      rcases mIf_some h with ⟨_, h⟩ | ⟨_, h⟩
      · obtain ⟨_, rfl⟩ := mRW h
        exact mAv.rf
      · obtain ⟨c1, h⟩ := mGd_some h
        obtain ⟨V3, eV3, h⟩ := mLt_some h
        have a2 : mAv (wX2_loadEdges_0) V V3 := by rw [eV3]; exact mAv.I mAv.rf (by unfold wX2_loadEdges_0; omega)
        obtain ⟨c3, h⟩ := mGd_some h
        obtain ⟨v5, _, h⟩ := mBN_some h
        exact mAv.tr a2 (ih.2 _ _ _ h) (fun i z => by unfold wX2_loadEdges_1 at z; unfold wX2_loadEdges_0; omega)
    · intro l3I l4I V h
      rw [mX2_loadEdges_go, if_neg (by decide), if_pos rfl] at h
      unfold mX2_loadEdges_b1 at h
      rcases mIf_some h with ⟨_, h⟩ | ⟨_, h⟩
      · obtain ⟨v11, _, h⟩ := mBN_some h
        obtain ⟨c4, h⟩ := mGd_some h
        obtain ⟨V17, eV17, h⟩ := mLt_some h
        have a5 : mAv (wX2_loadEdges_1) V V17 := by rw [eV17]; exact mAv.I mAv.rf (by unfold wX2_loadEdges_1; omega)
        obtain ⟨x18, _, h⟩ := mLt_some h
        exact mAv.tr a5 (ih.1 _ _ h) (fun i z => by unfold wX2_loadEdges_0 at z; unfold wX2_loadEdges_1; omega)
      · rcases mIf_some h with ⟨_, h⟩ | ⟨_, h⟩
        · obtain ⟨v20, _, h⟩ := mBN_some h
          obtain ⟨c6, h⟩ := mGd_some h
          obtain ⟨V26, eV26, h⟩ := mLt_some h
          have a7 : mAv (wX2_loadEdges_1) V V26 := by rw [eV26]; exact mAv.I mAv.rf (by unfold wX2_loadEdges_1; omega)
          obtain ⟨x27, _, h⟩ := mLt_some h
          exact mAv.tr a7 (ih.1 _ _ h) (fun i z => by unfold wX2_loadEdges_0 at z; unfold wX2_loadEdges_1; omega)
        · obtain ⟨c8, h⟩ := mGd_some h
          obtain ⟨V29, eV29, h⟩ := mLt_some h
          have a9 : mAv (wX2_loadEdges_1) V V29 := by rw [eV29]; exact mAv.I mAv.rf (by unfold wX2_loadEdges_1; omega)
          obtain ⟨V30, eV30, h⟩ := mLt_some h
          have a10 : mAv (wX2_loadEdges_1) V V30 := by rw [eV30]; exact mAv.F a9 (by unfold wX2_loadEdges_1; omega)
          obtain ⟨x31, _, h⟩ := mLt_some h
          exact mAv.tr a10 (ih.2 _ _ _ h) (fun i z => by unfold wX2_loadEdges_1 at z; unfold wX2_loadEdges_1; omega)
set_option maxHeartbeats 4000000 in
theorem NX2_loadEdges {F : Nat} {V V1 : mV} {v : Unit} {l1A : Nat} {l2I : Int32} (h : mX2_loadEdges F l1A l2I V = some (v, V1)) : mAv (wX2_loadEdges l1A) V V1 := by
  have ih := NX2_loadEdges_go (F := F) (v := v) (V1 := V1) F
  unfold mX2_loadEdges mX2_loadEdges_s at h
  obtain ⟨v32, V33, h11, h⟩ := mBW_some h
  have a11 : mAv (wX2_loadEdges l1A) V V33 := mAv.tr mAv.rf (NX3_fillNear h11) (fun i z => by unfold wX3_fillNear at z; unfold wX2_loadEdges; omega)
  obtain ⟨v37, V38, h12, h⟩ := mBW_some h
  have a12 : mAv (wX2_loadEdges l1A) V V38 := mAv.tr a11 (NJ7_fill_53178 h12) (fun i z => by unfold wJ7_fill_53178 at z; unfold wX2_loadEdges; omega)
  obtain ⟨V42, eV42, h⟩ := mLt_some h
  have a13 : mAv (wX2_loadEdges l1A) V V42 := by rw [eV42]; exact mAv.F a12 (by unfold wX2_loadEdges; omega)
  obtain ⟨V43, eV43, h⟩ := mLt_some h
  have a14 : mAv (wX2_loadEdges l1A) V V43 := by rw [eV43]; exact mAv.F a13 (by unfold wX2_loadEdges; omega)
  exact mAv.tr a14 (ih.1 _ _ h) (fun i z => by unfold wX2_loadEdges_0 at z; unfold wX2_loadEdges; omega)
def wX2_judgeDrawing (l1A : Nat) (l2A : Nat) (i : Nat) : Prop := i = 3 ∨ (27 ≤ i ∧ i ≤ 33)
def wX2_judgeDrawing_0 (l2A : Nat) (i : Nat) : Prop := i = 28 ∨ (31 ≤ i ∧ i ≤ 32)
set_option maxHeartbeats 4000000 in
theorem NX2_judgeDrawing_go {F : Nat} {v : Int32} {V1 : mV} : ∀ k' : Nat, (∀ (l2A : Nat) (l3I : Int32) (Ln : Nat → Nat) (V : mV), mX2_judgeDrawing_go F k' 0 Ln l2A l3I V = some (v, V1) → mAv (wX2_judgeDrawing_0 l2A) V V1) := by
  intro k'
  induction k' with
  | zero => exact (fun _ _ _ _ h => by cases h)
  | succ k' ih =>
    intro l2A l3I Ln V h
    rw [mX2_judgeDrawing_go, if_pos rfl] at h
    unfold mX2_judgeDrawing_b0 at h
    rcases mIf_some h with ⟨_, h⟩ | ⟨_, h⟩
    · obtain ⟨v2, _, h⟩ := mBN_some h
      obtain ⟨c1, h⟩ := mGd_some h
      rcases mIf_some h with ⟨_, h⟩ | ⟨_, h⟩
      · obtain ⟨_, rfl⟩ := mRW h
        exact mAv.rf
      · obtain ⟨_, rfl⟩ := mRW h
        exact mAv.rf
    · obtain ⟨c2, h⟩ := mGd_some h
      obtain ⟨x10, _, h⟩ := mLt_some h
      obtain ⟨v11, _, h⟩ := mBN_some h
      rcases mIf_some h with ⟨_, h⟩ | ⟨_, h⟩
      · obtain ⟨_, rfl⟩ := mRW h
        exact mAv.rf
      · rcases mIf_some h with ⟨_, h⟩ | ⟨_, h⟩
        · obtain ⟨_, rfl⟩ := mRW h
          exact mAv.rf
        · obtain ⟨c3, h⟩ := mGd_some h
          obtain ⟨c4, h⟩ := mGd_some h
          obtain ⟨v20, _, h⟩ := mBN_some h
          rcases mIf_some h with ⟨_, h⟩ | ⟨_, h⟩
          · obtain ⟨_, rfl⟩ := mRW h
            exact mAv.rf
          · obtain ⟨c5, h⟩ := mGd_some h
            rcases mIf_some h with ⟨_, h⟩ | ⟨_, h⟩
            · obtain ⟨c6, h⟩ := mGd_some h
              obtain ⟨v38, _, h⟩ := mBN_some h
              rcases mIf_some h with ⟨_, h⟩ | ⟨_, h⟩
              · obtain ⟨c7, h⟩ := mGd_some h
                obtain ⟨c8, h⟩ := mGd_some h
                obtain ⟨V46, eV46, h⟩ := mLt_some h
                have a9 : mAv (wX2_judgeDrawing_0 l2A) V V46 := by rw [eV46]; exact mAv.I mAv.rf (by unfold wX2_judgeDrawing_0; omega)
                obtain ⟨v47, V48, h10, h⟩ := mBW_some h
                have a10 : mAv (wX2_judgeDrawing_0 l2A) V V48 := mAv.tr a9 (NX2_setPlace h10) (fun i z => by unfold wX2_setPlace at z; unfold wX2_judgeDrawing_0; omega)
                obtain ⟨x52, _, h⟩ := mLt_some h
                exact mAv.tr a10 (ih _ _ _ _ h) (fun i z => by unfold wX2_judgeDrawing_0 at z; unfold wX2_judgeDrawing_0; omega)
              · obtain ⟨_, rfl⟩ := mRW h
                exact mAv.rf
            · obtain ⟨c11, h⟩ := mGd_some h
              obtain ⟨c12, h⟩ := mGd_some h
              obtain ⟨V30, eV30, h⟩ := mLt_some h
              have a13 : mAv (wX2_judgeDrawing_0 l2A) V V30 := by rw [eV30]; exact mAv.I mAv.rf (by unfold wX2_judgeDrawing_0; omega)
              obtain ⟨v31, V32, h14, h⟩ := mBW_some h
              have a14 : mAv (wX2_judgeDrawing_0 l2A) V V32 := mAv.tr a13 (NX2_setPlace h14) (fun i z => by unfold wX2_setPlace at z; unfold wX2_judgeDrawing_0; omega)
              obtain ⟨x36, _, h⟩ := mLt_some h
              exact mAv.tr a14 (ih _ _ _ _ h) (fun i z => by unfold wX2_judgeDrawing_0 at z; unfold wX2_judgeDrawing_0; omega)
set_option maxHeartbeats 4000000 in
theorem NX2_judgeDrawing {F : Nat} {Ln : Nat → Nat} {V V1 : mV} {v : Int32} {l1A : Nat} {l2A : Nat} (h : mX2_judgeDrawing F Ln l1A l2A V = some (v, V1)) : mAv (wX2_judgeDrawing l1A l2A) V V1 := by
  have ih := NX2_judgeDrawing_go (F := F) (v := v) (V1 := V1) F
  unfold mX2_judgeDrawing mX2_judgeDrawing_s at h
  obtain ⟨v53, _, h⟩ := mBN_some h
  obtain ⟨v58, V59, h15, h⟩ := mBW_some h
  have a15 : mAv (wX2_judgeDrawing l1A l2A) V V59 := mAv.tr mAv.rf (NX2_loadEdges h15) (fun i z => by unfold wX2_loadEdges at z; unfold wX2_judgeDrawing; omega)
  rcases mIf_some h with ⟨_, h⟩ | ⟨_, h⟩
  · exact mAv.tr a15 (ih _ _ _ _ h) (fun i z => by unfold wX2_judgeDrawing_0 at z; unfold wX2_judgeDrawing; omega)
  · obtain ⟨_, rfl⟩ := mRW h
    exact a15
def wX2_areWaysOf (i : Nat) : Prop := i = 34
def wX2_areWaysOf_0 (i : Nat) : Prop := i = 34
def wX2_areWaysOf_1 (i : Nat) : Prop := i = 34
set_option maxHeartbeats 4000000 in
theorem NX2_areWaysOf_go {F : Nat} {v : Int32} {V1 : mV} : ∀ k' : Nat, (∀ (l1I : Int32) (l2I : Int32) (l3I : Int32) (V : mV), mX2_areWaysOf_go F k' 0 l1I l2I l3I 0 V = some (v, V1) → mAv (wX2_areWaysOf_0) V V1) ∧ (∀ (l1I : Int32) (l2I : Int32) (l3I : Int32) (l4I : Int32) (V : mV), mX2_areWaysOf_go F k' 1 l1I l2I l3I l4I V = some (v, V1) → mAv (wX2_areWaysOf_1) V V1) := by
  intro k'
  induction k' with
  | zero => exact ⟨(fun _ _ _ _ h => by cases h), (fun _ _ _ _ _ h => by cases h)⟩
  | succ k' ih =>
    refine ⟨?_, ?_⟩
    · intro l1I l2I l3I V h
      rw [mX2_areWaysOf_go, if_pos rfl] at h
      unfold mX2_areWaysOf_b0 at h
      rcases mIf_some h with ⟨_, h⟩ | ⟨_, h⟩
      · rcases mIf_some h with ⟨_, h⟩ | ⟨_, h⟩
        · rcases mIf_some h with ⟨_, h⟩ | ⟨_, h⟩
          · obtain ⟨_, rfl⟩ := mRW h
            exact mAv.rf
          · obtain ⟨v4, _, h⟩ := mBN_some h
            rcases mIf_some h with ⟨_, h⟩ | ⟨_, h⟩
            · obtain ⟨_, rfl⟩ := mRW h
              exact mAv.rf
            · obtain ⟨_, rfl⟩ := mRW h
              exact mAv.rf
        · obtain ⟨_, rfl⟩ := mRW h
          exact mAv.rf
      · exact mAv.tr mAv.rf (ih.2 _ _ _ _ _ h) (fun i z => by unfold wX2_areWaysOf_1 at z; unfold wX2_areWaysOf_0; omega)
    · intro l1I l2I l3I l4I V h
      rw [mX2_areWaysOf_go, if_neg (by decide), if_pos rfl] at h
      unfold mX2_areWaysOf_b1 at h
      rcases mIf_some h with ⟨_, h⟩ | ⟨_, h⟩
      · obtain ⟨x11, _, h⟩ := mLt_some h
        exact mAv.tr mAv.rf (ih.1 _ _ _ _ h) (fun i z => by unfold wX2_areWaysOf_0 at z; unfold wX2_areWaysOf_1; omega)
      · obtain ⟨c1, h⟩ := mGd_some h
        obtain ⟨v13, _, h⟩ := mBN_some h
        rcases mIf_some h with ⟨_, h⟩ | ⟨_, h⟩
        · obtain ⟨x19, _, h⟩ := mLt_some h
          exact mAv.tr mAv.rf (ih.2 _ _ _ _ _ h) (fun i z => by unfold wX2_areWaysOf_1 at z; unfold wX2_areWaysOf_1; omega)
        · obtain ⟨c2, h⟩ := mGd_some h
          obtain ⟨v21, _, h⟩ := mBN_some h
          rcases mIf_some h with ⟨_, h⟩ | ⟨_, h⟩
          · obtain ⟨x27, _, h⟩ := mLt_some h
            exact mAv.tr mAv.rf (ih.2 _ _ _ _ _ h) (fun i z => by unfold wX2_areWaysOf_1 at z; unfold wX2_areWaysOf_1; omega)
          · obtain ⟨v28, V29, h3, h⟩ := mBW_some h
            have a3 : mAv (wX2_areWaysOf_1) V V29 := mAv.tr mAv.rf (NX2_followWay h3) (fun i z => by unfold wX2_followWay at z; unfold wX2_areWaysOf_1; omega)
            rcases mIf_some h with ⟨_, h⟩ | ⟨_, h⟩
            · obtain ⟨_, rfl⟩ := mRW h
              exact a3
            · obtain ⟨x34, _, h⟩ := mLt_some h
              obtain ⟨x35, _, h⟩ := mLt_some h
              exact mAv.tr a3 (ih.2 _ _ _ _ _ h) (fun i z => by unfold wX2_areWaysOf_1 at z; unfold wX2_areWaysOf_1; omega)
set_option maxHeartbeats 4000000 in
theorem NX2_areWaysOf {F : Nat} {V V1 : mV} {v : Int32} {l1I : Int32} (h : mX2_areWaysOf F l1I V = some (v, V1)) : mAv (wX2_areWaysOf) V V1 := by
  have ih := NX2_areWaysOf_go (F := F) (v := v) (V1 := V1) F
  unfold mX2_areWaysOf mX2_areWaysOf_s at h
  obtain ⟨v36, V37, h4, h⟩ := mBW_some h
  have a4 : mAv (wX2_areWaysOf) V V37 := mAv.tr mAv.rf (NJ7_fill_53178 h4) (fun i z => by unfold wJ7_fill_53178 at z; unfold wX2_areWaysOf; omega)
  exact mAv.tr a4 (ih.1 _ _ _ _ h) (fun i z => by unfold wX2_areWaysOf_0 at z; unfold wX2_areWaysOf; omega)
def wX4_leftSide (l1A : Nat) (i : Nat) : Prop := i = 18
def wX4_leftSide_0 (l1A : Nat) (i : Nat) : Prop := False
def wX4_leftSide_1 (l1A : Nat) (i : Nat) : Prop := False
set_option maxHeartbeats 4000000 in
theorem NX4_leftSide_go {F : Nat} {v : Int32} {V1 : mV} : ∀ k' : Nat, (∀ (l1A : Nat) (l2I : Int32) (l3I : Int32) (l4I : Int32) (V : mV), mX4_leftSide_go F k' 0 l1A l2I l3I l4I 0 V = some (v, V1) → mAv (wX4_leftSide_0 l1A) V V1) ∧ (∀ (l1A : Nat) (l2I : Int32) (l3I : Int32) (l4I : Int32) (l5I : Int32) (V : mV), mX4_leftSide_go F k' 1 l1A l2I l3I l4I l5I V = some (v, V1) → mAv (wX4_leftSide_1 l1A) V V1) := by
  intro k'
  induction k' with
  | zero => exact ⟨(fun _ _ _ _ _ h => by cases h), (fun _ _ _ _ _ _ h => by cases h)⟩
  | succ k' ih =>
    refine ⟨?_, ?_⟩
    · intro l1A l2I l3I l4I V h
      rw [mX4_leftSide_go, if_pos rfl] at h
      unfold mX4_leftSide_b0 at h
      rcases mIf_some h with ⟨_, h⟩ | ⟨_, h⟩
      · rcases mIf_some h with ⟨_, h⟩ | ⟨_, h⟩
        · obtain ⟨_, rfl⟩ := mRW h
          exact mAv.rf
        · obtain ⟨_, rfl⟩ := mRW h
          exact mAv.rf
      · obtain ⟨v3, _, h⟩ := mBN_some h
        rcases mIf_some h with ⟨_, h⟩ | ⟨_, h⟩
        · obtain ⟨x9, _, h⟩ := mLt_some h
          exact mAv.tr mAv.rf (ih.2 _ _ _ _ _ _ h) (fun i z => by unfold wX4_leftSide_1 at z; unfold wX4_leftSide_0; omega)
        · exact mAv.tr mAv.rf (ih.2 _ _ _ _ _ _ h) (fun i z => by unfold wX4_leftSide_1 at z; unfold wX4_leftSide_0; omega)
    · intro l1A l2I l3I l4I l5I V h
      rw [mX4_leftSide_go, if_neg (by decide), if_pos rfl] at h
      unfold mX4_leftSide_b1 at h
      rcases mIf_some h with ⟨_, h⟩ | ⟨_, h⟩
      · obtain ⟨x11, _, h⟩ := mLt_some h
        exact mAv.tr mAv.rf (ih.1 _ _ _ _ _ h) (fun i z => by unfold wX4_leftSide_0 at z; unfold wX4_leftSide_1; omega)
      · obtain ⟨v12, _, h⟩ := mBN_some h
        obtain ⟨x17, _, h⟩ := mLt_some h
        obtain ⟨v18, _, h⟩ := mBN_some h
        obtain ⟨x23, _, h⟩ := mLt_some h
        obtain ⟨x24, _, h⟩ := mLt_some h
        exact mAv.tr mAv.rf (ih.2 _ _ _ _ _ _ h) (fun i z => by unfold wX4_leftSide_1 at z; unfold wX4_leftSide_1; omega)
set_option maxHeartbeats 4000000 in
theorem NX4_leftSide {F : Nat} {V V1 : mV} {v : Int32} {l1A : Nat} (h : mX4_leftSide F l1A V = some (v, V1)) : mAv (wX4_leftSide l1A) V V1 := by
  have ih := NX4_leftSide_go (F := F) (v := v) (V1 := V1) F
  unfold mX4_leftSide mX4_leftSide_s at h
  obtain ⟨v25, V26, h1, h⟩ := mBW_some h
  have a1 : mAv (wX4_leftSide l1A) V V26 := mAv.tr mAv.rf (NX3_fillNear h1) (fun i z => by unfold wX3_fillNear at z; unfold wX4_leftSide; omega)
  exact mAv.tr a1 (ih.1 _ _ _ _ _ h) (fun i z => by unfold wX4_leftSide_0 at z; unfold wX4_leftSide; omega)
end
