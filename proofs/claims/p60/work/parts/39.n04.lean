/-! WHAT EACH METHOD LEAVES ALONE: X9_addBelow, X10_loadItems, X10_writeItems, X10_judgeItems, X10_readCode, X10_isLedWithin, X10_replaceAll, X11_drop, X11_sizeOf, X11_items, X11_item, X11_cameFrom, X11_type, X11_alter, X11_forgetEntry, X1_writeTruths, X1_goThrough, X1_judgeTruths, X1_judgeTree. -/
section
def wX9_addBelow (l0A : Nat) (i : Nat) : Prop := i = l0A ∨ i = l0A + 1
set_option maxHeartbeats 4000000 in
theorem NX9_addBelow {F : Nat} {Ln Ln1 : Nat → Nat} {V V1 : mV} {v : Unit} {l0A : Nat} {l1I : Int32} {l2I : Int32} (h : mX9_addBelow F Ln l0A l1I l2I V = some (v, Ln1, V1)) : mAv (wX9_addBelow l0A) V V1 ∧ mAl (wX9_addBelow l0A) Ln Ln1 := by
  unfold mX9_addBelow at h
  rcases mIf_some h with ⟨_, h⟩ | ⟨_, h⟩
  · obtain ⟨_, rfl, rfl⟩ := mRA3 h
    exact ⟨mAv.rf, mAl.rf⟩
  · obtain ⟨v2, L3, V3, h1, h⟩ := mBA_some h
    have y1 := NX9_add h1
    have a1 : mAv (wX9_addBelow l0A) V V3 := mAv.tr mAv.rf y1.1 (fun i z => by unfold wX9_add at z; unfold wX9_addBelow; omega)
    have b1 : mAl (wX9_addBelow l0A) Ln L3 := mAl.tr mAl.rf y1.2 (fun i z => by unfold wX9_add at z; unfold wX9_addBelow; omega)
    obtain ⟨_, rfl, rfl⟩ := mRA3 h
    exact ⟨a1, b1⟩
def wX10_loadItems (l1A : Nat) (i : Nat) : Prop := i = 7 ∨ (71 ≤ i ∧ i ≤ 76)
def wX10_loadItems_0 (l1A : Nat) (i : Nat) : Prop := (71 ≤ i ∧ i ≤ 76)
def wX10_loadItems_1 (l1A : Nat) (i : Nat) : Prop := (71 ≤ i ∧ i ≤ 76)
set_option maxHeartbeats 4000000 in
theorem NX10_loadItems_go {F : Nat} {v : Unit} {V1 : mV} : ∀ k' : Nat, (∀ (l1A : Nat) (l2I : Int32) (V : mV), mX10_loadItems_go F k' 0 l1A l2I V = some (v, V1) → mAv (wX10_loadItems_0 l1A) V V1) ∧ (∀ (l1A : Nat) (l2I : Int32) (V : mV), mX10_loadItems_go F k' 1 l1A l2I V = some (v, V1) → mAv (wX10_loadItems_1 l1A) V V1) := by
  intro k'
  induction k' with
  | zero => exact ⟨(fun _ _ _ h => by cases h), (fun _ _ _ h => by cases h)⟩
  | succ k' ih =>
    refine ⟨?_, ?_⟩
    · intro l1A l2I V h
      rw [mX10_loadItems_go, if_pos rfl] at h
      unfold mX10_loadItems_b0 at h
      rcases mIf_some h with ⟨_, h⟩ | ⟨_, h⟩
      · exact mAv.tr mAv.rf (ih.2 _ _ _ h) (fun i z => by unfold wX10_loadItems_1 at z; unfold wX10_loadItems_0; omega)
      · obtain ⟨c1, h⟩ := mGd_some h
        obtain ⟨V3, eV3, h⟩ := mLt_some h
        have a2 : mAv (wX10_loadItems_0 l1A) V V3 := by rw [eV3]; exact mAv.I mAv.rf (by unfold wX10_loadItems_0; omega)
        obtain ⟨x4, _, h⟩ := mLt_some h
        exact mAv.tr a2 (ih.1 _ _ _ h) (fun i z => by unfold wX10_loadItems_0 at z; unfold wX10_loadItems_0; omega)
    · intro l1A l2I V h
      rw [mX10_loadItems_go, if_neg (by decide), if_pos rfl] at h
      unfold mX10_loadItems_b1 at h
      rcases mIf_some h with ⟨_, h⟩ | ⟨_, h⟩
      · rcases mIf_some h with ⟨_, h⟩ | ⟨_, h⟩
        · obtain ⟨_, rfl⟩ := mRW h
          exact mAv.rf
        · obtain ⟨v7, V8, h3, h⟩ := mBW_some h
          have a3 : mAv (wX10_loadItems_1 l1A) V V8 := mAv.tr mAv.rf (NX10_loadPoints h3) (fun i z => by unfold wX10_loadPoints at z; unfold wX10_loadItems_1; omega)
          obtain ⟨_, rfl⟩ := mRW h
          exact a3
      · obtain ⟨c4, h⟩ := mGd_some h
        obtain ⟨v14, V15, h5, h⟩ := mBW_some h
        have z5_0 := (Nat.lt_of_not_le (fun z => c4 (Or.inr z)))
        have a5 : mAv (wX10_loadItems_1 l1A) V V15 := mAv.tr mAv.rf (NX10_loadPoints h5) (fun i z => by unfold wX10_loadPoints at z; unfold wX10_loadItems_1; omega)
        obtain ⟨x19, _, h⟩ := mLt_some h
        exact mAv.tr a5 (ih.2 _ _ _ h) (fun i z => by unfold wX10_loadItems_1 at z; unfold wX10_loadItems_1; omega)
set_option maxHeartbeats 4000000 in
theorem NX10_loadItems {F : Nat} {V V1 : mV} {v : Unit} {l1A : Nat} (h : mX10_loadItems F l1A V = some (v, V1)) : mAv (wX10_loadItems l1A) V V1 := by
  have ih := NX10_loadItems_go (F := F) (v := v) (V1 := V1) F
  unfold mX10_loadItems mX10_loadItems_s at h
  obtain ⟨V20, eV20, h⟩ := mLt_some h
  have a6 : mAv (wX10_loadItems l1A) V V20 := by rw [eV20]; exact mAv.F mAv.rf (by unfold wX10_loadItems; omega)
  obtain ⟨V21, eV21, h⟩ := mLt_some h
  have a7 : mAv (wX10_loadItems l1A) V V21 := by rw [eV21]; exact mAv.F a6 (by unfold wX10_loadItems; omega)
  exact mAv.tr a7 (ih.1 _ _ _ h) (fun i z => by unfold wX10_loadItems_0 at z; unfold wX10_loadItems; omega)
def wX10_writeItems (l2A : Nat) (i : Nat) : Prop := i = 79 ∨ i = l2A ∨ i = l2A + 1
def wX10_writeItems_0 (l2A : Nat) (i : Nat) : Prop := i = 79 ∨ i = l2A ∨ i = l2A + 1
def wX10_writeItems_1 (l2A : Nat) (i : Nat) : Prop := i = l2A ∨ i = l2A + 1
set_option maxHeartbeats 4000000 in
theorem NX10_writeItems_go {F : Nat} {v : Unit} {Ln1 : Nat → Nat} {V1 : mV} : ∀ k' : Nat, (∀ (l2A : Nat) (l3I : Int32) (l4I : Int32) (Ln : Nat → Nat) (V : mV), mX10_writeItems_go F k' 0 Ln l2A l3I l4I 0 V = some (v, Ln1, V1) → mAv (wX10_writeItems_0 l2A) V V1 ∧ mAl (wX10_writeItems_0 l2A) Ln Ln1) ∧ (∀ (l2A : Nat) (l5I : Int32) (Ln : Nat → Nat) (V : mV), mX10_writeItems_go F k' 1 Ln l2A 0 0 l5I V = some (v, Ln1, V1) → mAv (wX10_writeItems_1 l2A) V V1 ∧ mAl (wX10_writeItems_1 l2A) Ln Ln1) := by
  intro k'
  induction k' with
  | zero => exact ⟨(fun _ _ _ _ _ h => by cases h), (fun _ _ _ _ h => by cases h)⟩
  | succ k' ih =>
    refine ⟨?_, ?_⟩
    · intro l2A l3I l4I Ln V h
      rw [mX10_writeItems_go, if_pos rfl] at h
      unfold mX10_writeItems_b0 at h
      rcases mIf_some h with ⟨_, h⟩ | ⟨_, h⟩
      · obtain ⟨x2, _, h⟩ := mLt_some h
        have y := ih.2 _ _ _ _ h
        exact ⟨mAv.tr mAv.rf y.1 (fun i z => by unfold wX10_writeItems_1 at z; unfold wX10_writeItems_0; omega), mAl.tr mAl.rf y.2 (fun i z => by unfold wX10_writeItems_1 at z; unfold wX10_writeItems_0; omega)⟩
      · rcases mIf_some h with ⟨_, h⟩ | ⟨_, h⟩
        · obtain ⟨x4, _, h⟩ := mLt_some h
          have y := ih.2 _ _ _ _ h
          exact ⟨mAv.tr mAv.rf y.1 (fun i z => by unfold wX10_writeItems_1 at z; unfold wX10_writeItems_0; omega), mAl.tr mAl.rf y.2 (fun i z => by unfold wX10_writeItems_1 at z; unfold wX10_writeItems_0; omega)⟩
        · obtain ⟨c1, h⟩ := mGd_some h
          obtain ⟨c2, h⟩ := mGd_some h
          obtain ⟨V7, eV7, h⟩ := mLt_some h
          have a3 : mAv (wX10_writeItems_0 l2A) V V7 := by rw [eV7]; exact mAv.I mAv.rf (by unfold wX10_writeItems_0; omega)
          obtain ⟨x8, _, h⟩ := mLt_some h
          obtain ⟨c4, h⟩ := mGd_some h
          obtain ⟨x10, _, h⟩ := mLt_some h
          have y := ih.1 _ _ _ _ _ h
          exact ⟨mAv.tr a3 y.1 (fun i z => by unfold wX10_writeItems_0 at z; unfold wX10_writeItems_0; omega), mAl.tr mAl.rf y.2 (fun i z => by unfold wX10_writeItems_0 at z; unfold wX10_writeItems_0; omega)⟩
    · intro l2A l5I Ln V h
      rw [mX10_writeItems_go, if_neg (by decide), if_pos rfl] at h
      unfold mX10_writeItems_b1 at h
      rcases mIf_some h with ⟨_, h⟩ | ⟨_, h⟩
      · obtain ⟨_, rfl, rfl⟩ := mRA3 h
        exact ⟨mAv.rf, mAl.rf⟩
      · obtain ⟨c5, h⟩ := mGd_some h
        obtain ⟨v13, L14, V14, h6, h⟩ := mBA_some h
        have y6 := NX9_add h6
        have a6 : mAv (wX10_writeItems_1 l2A) V V14 := mAv.tr mAv.rf y6.1 (fun i z => by unfold wX9_add at z; unfold wX10_writeItems_1; omega)
        have b6 : mAl (wX10_writeItems_1 l2A) Ln L14 := mAl.tr mAl.rf y6.2 (fun i z => by unfold wX9_add at z; unfold wX10_writeItems_1; omega)
        obtain ⟨x18, _, h⟩ := mLt_some h
        have y := ih.2 _ _ _ _ h
        exact ⟨mAv.tr a6 y.1 (fun i z => by unfold wX10_writeItems_1 at z; unfold wX10_writeItems_1; omega), mAl.tr b6 y.2 (fun i z => by unfold wX10_writeItems_1 at z; unfold wX10_writeItems_1; omega)⟩
set_option maxHeartbeats 4000000 in
theorem NX10_writeItems {F : Nat} {Ln Ln1 : Nat → Nat} {V V1 : mV} {v : Unit} {l1I : Int32} {l2A : Nat} (h : mX10_writeItems F Ln l1I l2A V = some (v, Ln1, V1)) : mAv (wX10_writeItems l2A) V V1 ∧ mAl (wX10_writeItems l2A) Ln Ln1 := by
  have ih := NX10_writeItems_go (F := F) (v := v) (Ln1 := Ln1) (V1 := V1) F
  unfold mX10_writeItems mX10_writeItems_s at h
  have y := ih.1 _ _ _ _ _ h
  exact ⟨mAv.tr mAv.rf y.1 (fun i z => by unfold wX10_writeItems_0 at z; unfold wX10_writeItems; omega), mAl.tr mAl.rf y.2 (fun i z => by unfold wX10_writeItems_0 at z; unfold wX10_writeItems; omega)⟩
def wX10_judgeItems (l1A : Nat) (l2A : Nat) (i : Nat) : Prop := i = 7 ∨ (71 ≤ i ∧ i ≤ 76)
def wX10_judgeItems_0 (l2A : Nat) (i : Nat) : Prop := i < 0
def wX10_judgeItems_1 (l2A : Nat) (i : Nat) : Prop := i < 0
set_option maxHeartbeats 4000000 in
theorem NX10_judgeItems_go {F : Nat} {v : Int32} {V1 : mV} : ∀ k' : Nat, (∀ (l2A : Nat) (l3I : Int32) (Ln : Nat → Nat) (V : mV), mX10_judgeItems_go F k' 0 Ln l2A l3I 0 0 V = some (v, V1) → mAv (wX10_judgeItems_0 l2A) V V1) ∧ (∀ (l2A : Nat) (l3I : Int32) (l4I : Int32) (l5I : Int32) (Ln : Nat → Nat) (V : mV), mX10_judgeItems_go F k' 1 Ln l2A l3I l4I l5I V = some (v, V1) → mAv (wX10_judgeItems_1 l2A) V V1) := by
  intro k'
  induction k' with
  | zero => exact ⟨(fun _ _ _ _ h => by cases h), (fun _ _ _ _ _ _ h => by cases h)⟩
  | succ k' ih =>
    refine ⟨?_, ?_⟩
    · intro l2A l3I Ln V h
      rw [mX10_judgeItems_go, if_pos rfl] at h
      unfold mX10_judgeItems_b0 at h
      rcases mIf_some h with ⟨_, h⟩ | ⟨_, h⟩
      · obtain ⟨_, rfl⟩ := mRW h
        exact mAv.rf
      · exact mAv.tr mAv.rf (ih.2 _ _ _ _ _ _ h) (fun i z => by unfold wX10_judgeItems_1 at z; unfold wX10_judgeItems_0; omega)
    · intro l2A l3I l4I l5I Ln V h
      rw [mX10_judgeItems_go, if_neg (by decide), if_pos rfl] at h
      unfold mX10_judgeItems_b1 at h
      rcases mIf_some h with ⟨_, h⟩ | ⟨_, h⟩
      · obtain ⟨c1, h⟩ := mGd_some h
        rcases mIf_some h with ⟨_, h⟩ | ⟨_, h⟩
        · obtain ⟨x5, _, h⟩ := mLt_some h
          exact mAv.tr mAv.rf (ih.1 _ _ _ _ h) (fun i z => by unfold wX10_judgeItems_0 at z; unfold wX10_judgeItems_1; omega)
        · obtain ⟨_, rfl⟩ := mRW h
          exact mAv.rf
      · obtain ⟨v6, _, h⟩ := mBN_some h
        obtain ⟨c2, h⟩ := mGd_some h
        obtain ⟨c3, h⟩ := mGd_some h
        obtain ⟨x14, _, h⟩ := mLt_some h
        obtain ⟨x15, _, h⟩ := mLt_some h
        exact mAv.tr mAv.rf (ih.2 _ _ _ _ _ _ h) (fun i z => by unfold wX10_judgeItems_1 at z; unfold wX10_judgeItems_1; omega)
set_option maxHeartbeats 4000000 in
theorem NX10_judgeItems {F : Nat} {Ln : Nat → Nat} {V V1 : mV} {v : Int32} {l1A : Nat} {l2A : Nat} (h : mX10_judgeItems F Ln l1A l2A V = some (v, V1)) : mAv (wX10_judgeItems l1A l2A) V V1 := by
  have ih := NX10_judgeItems_go (F := F) (v := v) (V1 := V1) F
  unfold mX10_judgeItems mX10_judgeItems_s at h
  obtain ⟨v16, V17, h4, h⟩ := mBW_some h
  have a4 : mAv (wX10_judgeItems l1A l2A) V V17 := mAv.tr mAv.rf (NX10_loadItems h4) (fun i z => by unfold wX10_loadItems at z; unfold wX10_judgeItems; omega)
  obtain ⟨v21, _, h⟩ := mBN_some h
  rcases mIf_some h with ⟨_, h⟩ | ⟨_, h⟩
  · obtain ⟨_, rfl⟩ := mRW h
    exact a4
  · exact mAv.tr a4 (ih.1 _ _ _ _ h) (fun i z => by unfold wX10_judgeItems_0 at z; unfold wX10_judgeItems; omega)
def wX10_readCode (i : Nat) : Prop := i = 77
def wX10_readCode_0 (i : Nat) : Prop := i = 77
set_option maxHeartbeats 4000000 in
theorem NX10_readCode_go {F : Nat} {v : Int32} {V1 : mV} : ∀ k' : Nat, (∀ (l3I : Int32) (l4I : Int32) (V : mV), mX10_readCode_go F k' 0 l3I l4I V = some (v, V1) → mAv (wX10_readCode_0) V V1) := by
  intro k'
  induction k' with
  | zero => exact (fun _ _ _ h => by cases h)
  | succ k' ih =>
    intro l3I l4I V h
    rw [mX10_readCode_go, if_pos rfl] at h
    unfold mX10_readCode_b0 at h
    rcases mIf_some h with ⟨_, h⟩ | ⟨_, h⟩
    · obtain ⟨_, rfl⟩ := mRW h
      exact mAv.rf
    · obtain ⟨v2, _, h⟩ := mBN_some h
      obtain ⟨c1, h⟩ := mGd_some h
      obtain ⟨V8, eV8, h⟩ := mLt_some h
      have a2 : mAv (wX10_readCode_0) V V8 := by rw [eV8]; exact mAv.I mAv.rf (by unfold wX10_readCode_0; omega)
      obtain ⟨v9, _, h⟩ := mBN_some h
      obtain ⟨x14, _, h⟩ := mLt_some h
      exact mAv.tr a2 (ih _ _ _ h) (fun i z => by unfold wX10_readCode_0 at z; unfold wX10_readCode_0; omega)
set_option maxHeartbeats 4000000 in
theorem NX10_readCode {F : Nat} {V V1 : mV} {v : Int32} {l1I : Int32} {l2I : Int32} (h : mX10_readCode F l1I l2I V = some (v, V1)) : mAv (wX10_readCode) V V1 := by
  have ih := NX10_readCode_go (F := F) (v := v) (V1 := V1) F
  unfold mX10_readCode mX10_readCode_s at h
  obtain ⟨x15, _, h⟩ := mLt_some h
  exact mAv.tr mAv.rf (ih _ _ _ h) (fun i z => by unfold wX10_readCode_0 at z; unfold wX10_readCode; omega)
def wX10_isLedWithin (l1A : Nat) (i : Nat) : Prop := (77 ≤ i ∧ i ≤ 78)
def wX10_isLedWithin_0 (l1A : Nat) (i : Nat) : Prop := i = 78
def wX10_isLedWithin_1 (l1A : Nat) (i : Nat) : Prop := i = 78
set_option maxHeartbeats 4000000 in
theorem NX10_isLedWithin_go {F : Nat} {v : Int32} {V1 : mV} : ∀ k' : Nat, (∀ (l1A : Nat) (l3I : Int32) (l4I : Int32) (Ln : Nat → Nat) (V : mV), mX10_isLedWithin_go F k' 0 Ln l1A l3I l4I 0 V = some (v, V1) → mAv (wX10_isLedWithin_0 l1A) V V1) ∧ (∀ (l1A : Nat) (l3I : Int32) (l4I : Int32) (l5I : Int32) (Ln : Nat → Nat) (V : mV), mX10_isLedWithin_go F k' 1 Ln l1A l3I l4I l5I V = some (v, V1) → mAv (wX10_isLedWithin_1 l1A) V V1) := by
  intro k'
  induction k' with
  | zero => exact ⟨(fun _ _ _ _ _ h => by cases h), (fun _ _ _ _ _ _ h => by cases h)⟩
  | succ k' ih =>
    refine ⟨?_, ?_⟩
    · intro l1A l3I l4I Ln V h
      rw [mX10_isLedWithin_go, if_pos rfl] at h
      unfold mX10_isLedWithin_b0 at h
      rcases mIf_some h with ⟨_, h⟩ | ⟨_, h⟩
      · obtain ⟨_, rfl⟩ := mRW h
        exact mAv.rf
      · exact mAv.tr mAv.rf (ih.2 _ _ _ _ _ _ h) (fun i z => by unfold wX10_isLedWithin_1 at z; unfold wX10_isLedWithin_0; omega)
    · intro l1A l3I l4I l5I Ln V h
      rw [mX10_isLedWithin_go, if_neg (by decide), if_pos rfl] at h
      unfold mX10_isLedWithin_b1 at h
      rcases mIf_some h with ⟨_, h⟩ | ⟨_, h⟩
      · obtain ⟨v3, _, h⟩ := mBN_some h
        obtain ⟨v8, _, h⟩ := mBN_some h
        rcases mIf_some h with ⟨_, h⟩ | ⟨_, h⟩
        · obtain ⟨_, rfl⟩ := mRW h
          exact mAv.rf
        · obtain ⟨x14, _, h⟩ := mLt_some h
          exact mAv.tr mAv.rf (ih.1 _ _ _ _ _ h) (fun i z => by unfold wX10_isLedWithin_0 at z; unfold wX10_isLedWithin_1; omega)
      · obtain ⟨c1, h⟩ := mGd_some h
        obtain ⟨c2, h⟩ := mGd_some h
        obtain ⟨c3, h⟩ := mGd_some h
        obtain ⟨c4, h⟩ := mGd_some h
        obtain ⟨V20, eV20, h⟩ := mLt_some h
        have a5 : mAv (wX10_isLedWithin_1 l1A) V V20 := by rw [eV20]; exact mAv.I mAv.rf (by unfold wX10_isLedWithin_1; omega)
        obtain ⟨x21, _, h⟩ := mLt_some h
        exact mAv.tr a5 (ih.2 _ _ _ _ _ _ h) (fun i z => by unfold wX10_isLedWithin_1 at z; unfold wX10_isLedWithin_1; omega)
set_option maxHeartbeats 4000000 in
theorem NX10_isLedWithin {F : Nat} {Ln : Nat → Nat} {V V1 : mV} {v : Int32} {l1A : Nat} {l2I : Int32} {l3I : Int32} (h : mX10_isLedWithin F Ln l1A l2I l3I V = some (v, V1)) : mAv (wX10_isLedWithin l1A) V V1 := by
  have ih := NX10_isLedWithin_go (F := F) (v := v) (V1 := V1) F
  unfold mX10_isLedWithin mX10_isLedWithin_s at h
  obtain ⟨v22, _, h⟩ := mBN_some h
  obtain ⟨v27, V28, h6, h⟩ := mBW_some h
  have a6 : mAv (wX10_isLedWithin l1A) V V28 := mAv.tr mAv.rf (NX10_readCode h6) (fun i z => by unfold wX10_readCode at z; unfold wX10_isLedWithin; omega)
  exact mAv.tr a6 (ih.1 _ _ _ _ _ h) (fun i z => by unfold wX10_isLedWithin_0 at z; unfold wX10_isLedWithin; omega)
def wX10_replaceAll (l1A : Nat) (i : Nat) : Prop := i = 7 ∨ i = 83
def wX10_replaceAll_0 (i : Nat) : Prop := i = 7 ∨ i = 83
set_option maxHeartbeats 4000000 in
theorem NX10_replaceAll_go {F : Nat} {v : Unit} {V1 : mV} : ∀ k' : Nat, (∀ (l2I : Int32) (l3I : Int32) (l4I : Int32) (l6I : Int32) (l7I : Int32) (l8I : Int32) (V : mV), mX10_replaceAll_go F k' 0 l2I l3I l4I l6I l7I l8I V = some (v, V1) → mAv (wX10_replaceAll_0) V V1) := by
  intro k'
  induction k' with
  | zero => exact (fun _ _ _ _ _ _ _ h => by cases h)
  | succ k' ih =>
    intro l2I l3I l4I l6I l7I l8I V h
    rw [mX10_replaceAll_go, if_pos rfl] at h
    unfold mX10_replaceAll_b0 at h
    rcases mIf_some h with ⟨_, h⟩ | ⟨_, h⟩
    · obtain ⟨_, rfl⟩ := mRW h
      exact mAv.rf
    · obtain ⟨x2, _, h⟩ := mLt_some h
      rcases mIf_some h with ⟨_, h⟩ | ⟨_, h⟩
      · obtain ⟨x5, _, h⟩ := mLt_some h
        obtain ⟨x6, _, h⟩ := mLt_some h
        obtain ⟨v7, V8, h1, h⟩ := mBW_some h
        have a1 : mAv (wX10_replaceAll_0) V V8 := mAv.tr mAv.rf (NX10_addNext h1) (fun i z => by unfold wX10_addNext at z; unfold wX10_replaceAll_0; omega)
        obtain ⟨x12, _, h⟩ := mLt_some h
        exact mAv.tr a1 (ih _ _ _ _ _ _ _ h) (fun i z => by unfold wX10_replaceAll_0 at z; unfold wX10_replaceAll_0; omega)
      · obtain ⟨x4, _, h⟩ := mLt_some h
        exact mAv.tr mAv.rf (ih _ _ _ _ _ _ _ h) (fun i z => by unfold wX10_replaceAll_0 at z; unfold wX10_replaceAll_0; omega)
set_option maxHeartbeats 4000000 in
theorem NX10_replaceAll {F : Nat} {V V1 : mV} {v : Unit} {l1A : Nat} {l2I : Int32} {l3I : Int32} {l4I : Int32} (h : mX10_replaceAll F l1A l2I l3I l4I V = some (v, V1)) : mAv (wX10_replaceAll l1A) V V1 := by
  have ih := NX10_replaceAll_go (F := F) (v := v) (V1 := V1) F
  unfold mX10_replaceAll mX10_replaceAll_s at h
  obtain ⟨v13, _, h⟩ := mBN_some h
  obtain ⟨v18, _, h⟩ := mBN_some h
  obtain ⟨v23, _, h⟩ := mBN_some h
  rcases mIf_some h with ⟨_, h⟩ | ⟨_, h⟩
  · obtain ⟨x29, _, h⟩ := mLt_some h
    exact mAv.tr mAv.rf (ih _ _ _ _ _ _ _ h) (fun i z => by unfold wX10_replaceAll_0 at z; unfold wX10_replaceAll; omega)
  · obtain ⟨_, rfl⟩ := mRW h
    exact mAv.rf
def wX11_drop (i : Nat) : Prop := i = 0 ∨ (14 ≤ i ∧ i ≤ 15) ∨ (256 ≤ i ∧ i ≤ 345) ∨ (352 ≤ i ∧ i ≤ 537) ∨ i = 3000
set_option maxHeartbeats 4000000 in
theorem NX11_drop {F : Nat} {Ln Ln1 : Nat → Nat} {V V1 : mV} {v : (String ⊕ Int32)} {l1I : Int32} {l2I : Int32} (h : mX11_drop F Ln l1I l2I V = some (v, Ln1, V1)) : mAv (wX11_drop) V V1 ∧ mAl (wX11_drop) Ln Ln1 := by
  unfold mX11_drop at h
  rcases mBT_some h with ⟨E0, L0, V0, h1, h⟩ | ⟨v1, L2, V2, h1, h⟩
  · have y1 := NX11_entryAt h1
    obtain ⟨_, rfl, rfl⟩ := mRA3 h
    exact ⟨mAv.tr mAv.rf y1.1 (fun i z => by unfold wX11_entryAt at z; unfold wX11_drop; omega), mAl.tr mAl.rf y1.2 (fun i z => by unfold wX11_entryAt at z; unfold wX11_drop; omega)⟩
  · have k1 := KX11_entryAt h1
    have y1 := NX11_entryAt h1
    have a1 : mAv (wX11_drop) V V2 := mAv.tr mAv.rf y1.1 (fun i z => by unfold wX11_entryAt at z; unfold wX11_drop; omega)
    have b1 : mAl (wX11_drop) Ln L2 := mAl.tr mAl.rf y1.2 (fun i z => by unfold wX11_entryAt at z; unfold wX11_drop; omega)
    rcases mBT_some h with ⟨E0, L0, V0, h2, h⟩ | ⟨v6, L7, V7, h2, h⟩
    · have y2 := NX11_testPlace h2
      obtain ⟨_, rfl, rfl⟩ := mRA3 h
      exact ⟨mAv.tr a1 y2.1 (fun i z => by unfold wX11_testPlace at z; unfold wX11_drop; omega), mAl.tr b1 y2.2 (fun i z => by unfold wX11_testPlace at z; unfold wX11_drop; omega)⟩
    · have y2 := NX11_testPlace h2
      have a2 : mAv (wX11_drop) V V7 := mAv.tr a1 y2.1 (fun i z => by unfold wX11_testPlace at z; unfold wX11_drop; omega)
      have b2 : mAl (wX11_drop) Ln L7 := mAl.tr b1 y2.2 (fun i z => by unfold wX11_testPlace at z; unfold wX11_drop; omega)
      obtain ⟨v11, V12, h3, h⟩ := mBW_some h
      have a3 : mAv (wX11_drop) V V12 := mAv.tr a2 (NX11_remember h3) (fun i z => by unfold wX11_remember at z; unfold wX11_drop; omega)
      obtain ⟨v16, V17, h4, h⟩ := mBW_some h
      have a4 : mAv (wX11_drop) V V17 := mAv.tr a3 (NX3_removeItem h4) (fun i z => by unfold wX3_removeItem at z; unfold wX11_drop; omega)
      obtain ⟨V21, eV21, h⟩ := mLt_some h
      have a5 : mAv (wX11_drop) V V21 := by rw [eV21]; exact mAv.F a4 (by unfold wX11_drop; omega)
      obtain ⟨_, rfl, rfl⟩ := mRA3 h
      exact ⟨a5, b2⟩
def wX11_sizeOf (i : Nat) : Prop := i = 3000
set_option maxHeartbeats 4000000 in
theorem NX11_sizeOf {F : Nat} {Ln Ln1 : Nat → Nat} {V V1 : mV} {v : (String ⊕ Int32)} {l1I : Int32} (h : mX11_sizeOf F Ln l1I V = some (v, Ln1, V1)) : mAv (wX11_sizeOf) V V1 ∧ mAl (wX11_sizeOf) Ln Ln1 := by
  unfold mX11_sizeOf at h
  rcases mBT_some h with ⟨E0, L0, V0, h1, h⟩ | ⟨v1, L2, V2, h1, h⟩
  · have y1 := NX11_entryAt h1
    obtain ⟨_, rfl, rfl⟩ := mRA3 h
    exact ⟨mAv.tr mAv.rf y1.1 (fun i z => by unfold wX11_entryAt at z; unfold wX11_sizeOf; omega), mAl.tr mAl.rf y1.2 (fun i z => by unfold wX11_entryAt at z; unfold wX11_sizeOf; omega)⟩
  · have k1 := KX11_entryAt h1
    have y1 := NX11_entryAt h1
    have a1 : mAv (wX11_sizeOf) V V2 := mAv.tr mAv.rf y1.1 (fun i z => by unfold wX11_entryAt at z; unfold wX11_sizeOf; omega)
    have b1 : mAl (wX11_sizeOf) Ln L2 := mAl.tr mAl.rf y1.2 (fun i z => by unfold wX11_entryAt at z; unfold wX11_sizeOf; omega)
    obtain ⟨_, rfl, rfl⟩ := mRA3 h
    exact ⟨a1, b1⟩
def wX11_items (i : Nat) : Prop := i = 3000
set_option maxHeartbeats 4000000 in
theorem NX11_items {F : Nat} {Ln Ln1 : Nat → Nat} {V V1 : mV} {v : (String ⊕ Int32)} {l1I : Int32} (h : mX11_items F Ln l1I V = some (v, Ln1, V1)) : mAv (wX11_items) V V1 ∧ mAl (wX11_items) Ln Ln1 := by
  unfold mX11_items at h
  rcases mBT_some h with ⟨E0, L0, V0, h1, h⟩ | ⟨v1, L2, V2, h1, h⟩
  · have y1 := NX11_entryAt h1
    obtain ⟨_, rfl, rfl⟩ := mRA3 h
    exact ⟨mAv.tr mAv.rf y1.1 (fun i z => by unfold wX11_entryAt at z; unfold wX11_items; omega), mAl.tr mAl.rf y1.2 (fun i z => by unfold wX11_entryAt at z; unfold wX11_items; omega)⟩
  · have k1 := KX11_entryAt h1
    have y1 := NX11_entryAt h1
    have a1 : mAv (wX11_items) V V2 := mAv.tr mAv.rf y1.1 (fun i z => by unfold wX11_entryAt at z; unfold wX11_items; omega)
    have b1 : mAl (wX11_items) Ln L2 := mAl.tr mAl.rf y1.2 (fun i z => by unfold wX11_entryAt at z; unfold wX11_items; omega)
    obtain ⟨_, rfl, rfl⟩ := mRA3 h
    exact ⟨a1, b1⟩
def wX11_item (i : Nat) : Prop := i = 3000
set_option maxHeartbeats 4000000 in
theorem NX11_item {F : Nat} {Ln Ln1 : Nat → Nat} {V V1 : mV} {v : (String ⊕ Int32)} {l1I : Int32} {l2I : Int32} {l3I : Int32} (h : mX11_item F Ln l1I l2I l3I V = some (v, Ln1, V1)) : mAv (wX11_item) V V1 ∧ mAl (wX11_item) Ln Ln1 := by
  unfold mX11_item at h
  rcases mBT_some h with ⟨E0, L0, V0, h1, h⟩ | ⟨v1, L2, V2, h1, h⟩
  · have y1 := NX11_entryAt h1
    obtain ⟨_, rfl, rfl⟩ := mRA3 h
    exact ⟨mAv.tr mAv.rf y1.1 (fun i z => by unfold wX11_entryAt at z; unfold wX11_item; omega), mAl.tr mAl.rf y1.2 (fun i z => by unfold wX11_entryAt at z; unfold wX11_item; omega)⟩
  · have k1 := KX11_entryAt h1
    have y1 := NX11_entryAt h1
    have a1 : mAv (wX11_item) V V2 := mAv.tr mAv.rf y1.1 (fun i z => by unfold wX11_entryAt at z; unfold wX11_item; omega)
    have b1 : mAl (wX11_item) Ln L2 := mAl.tr mAl.rf y1.2 (fun i z => by unfold wX11_entryAt at z; unfold wX11_item; omega)
    rcases mBT_some h with ⟨E0, L0, V0, h2, h⟩ | ⟨v6, L7, V7, h2, h⟩
    · have y2 := NX11_testPlace h2
      obtain ⟨_, rfl, rfl⟩ := mRA3 h
      exact ⟨mAv.tr a1 y2.1 (fun i z => by unfold wX11_testPlace at z; unfold wX11_item; omega), mAl.tr b1 y2.2 (fun i z => by unfold wX11_testPlace at z; unfold wX11_item; omega)⟩
    · have y2 := NX11_testPlace h2
      have a2 : mAv (wX11_item) V V7 := mAv.tr a1 y2.1 (fun i z => by unfold wX11_testPlace at z; unfold wX11_item; omega)
      have b2 : mAl (wX11_item) Ln L7 := mAl.tr b1 y2.2 (fun i z => by unfold wX11_testPlace at z; unfold wX11_item; omega)
      rcases mBT_some h with ⟨E0, L0, V0, h3, h⟩ | ⟨v11, L12, V12, h3, h⟩
      · have y3 := NX11_testRange h3
        obtain ⟨_, rfl, rfl⟩ := mRA3 h
        exact ⟨mAv.tr a2 y3.1 (fun i z => by unfold wX11_testRange at z; unfold wX11_item; omega), mAl.tr b2 y3.2 (fun i z => by unfold wX11_testRange at z; unfold wX11_item; omega)⟩
      · have y3 := NX11_testRange h3
        have a3 : mAv (wX11_item) V V12 := mAv.tr a2 y3.1 (fun i z => by unfold wX11_testRange at z; unfold wX11_item; omega)
        have b3 : mAl (wX11_item) Ln L12 := mAl.tr b2 y3.2 (fun i z => by unfold wX11_testRange at z; unfold wX11_item; omega)
        obtain ⟨v16, _, h⟩ := mBN_some h
        obtain ⟨_, rfl, rfl⟩ := mRA3 h
        exact ⟨a3, b3⟩
def wX11_cameFrom (i : Nat) : Prop := i = 3000
set_option maxHeartbeats 4000000 in
theorem NX11_cameFrom {F : Nat} {Ln Ln1 : Nat → Nat} {V V1 : mV} {v : (String ⊕ Int32)} {l1I : Int32} (h : mX11_cameFrom F Ln l1I V = some (v, Ln1, V1)) : mAv (wX11_cameFrom) V V1 ∧ mAl (wX11_cameFrom) Ln Ln1 := by
  unfold mX11_cameFrom at h
  rcases mBT_some h with ⟨E0, L0, V0, h1, h⟩ | ⟨v1, L2, V2, h1, h⟩
  · have y1 := NX11_entryAt h1
    obtain ⟨_, rfl, rfl⟩ := mRA3 h
    exact ⟨mAv.tr mAv.rf y1.1 (fun i z => by unfold wX11_entryAt at z; unfold wX11_cameFrom; omega), mAl.tr mAl.rf y1.2 (fun i z => by unfold wX11_entryAt at z; unfold wX11_cameFrom; omega)⟩
  · have k1 := KX11_entryAt h1
    have y1 := NX11_entryAt h1
    have a1 : mAv (wX11_cameFrom) V V2 := mAv.tr mAv.rf y1.1 (fun i z => by unfold wX11_entryAt at z; unfold wX11_cameFrom; omega)
    have b1 : mAl (wX11_cameFrom) Ln L2 := mAl.tr mAl.rf y1.2 (fun i z => by unfold wX11_entryAt at z; unfold wX11_cameFrom; omega)
    rcases mIf_some h with ⟨_, h⟩ | ⟨_, h⟩
    · obtain ⟨_, rfl, rfl⟩ := mRA3 h
      exact ⟨a1, b1⟩
    · obtain ⟨_, rfl, rfl, _⟩ := mTh_some h
      exact ⟨a1, mAl.up b1 (by unfold wX11_cameFrom; omega)⟩
def wX11_type (i : Nat) : Prop := (2048 ≤ i ∧ i ≤ 2049) ∨ i = 3000
set_option maxHeartbeats 4000000 in
theorem NX11_type {F : Nat} {Ln Ln1 : Nat → Nat} {V V1 : mV} {v : (String ⊕ Int32)} {l1I : Int32} (h : mX11_type F Ln l1I V = some (v, Ln1, V1)) : mAv (wX11_type) V V1 ∧ mAl (wX11_type) Ln Ln1 := by
  unfold mX11_type at h
  rcases mIf_some h with ⟨_, h⟩ | ⟨_, h⟩
  · obtain ⟨v2, L3, V3, h1, h⟩ := mBA_some h
    have y1 := NX9_add h1
    have a1 : mAv (wX11_type) V V3 := mAv.tr mAv.rf y1.1 (fun i z => by unfold wX9_add at z; unfold wX11_type; omega)
    have b1 : mAl (wX11_type) Ln L3 := mAl.tr mAl.rf y1.2 (fun i z => by unfold wX9_add at z; unfold wX11_type; omega)
    obtain ⟨_, rfl, rfl⟩ := mRA3 h
    exact ⟨a1, b1⟩
  · obtain ⟨_, rfl, rfl, _⟩ := mTh_some h
    exact ⟨mAv.rf, mAl.up mAl.rf (by unfold wX11_type; omega)⟩
def wX11_alter (i : Nat) : Prop := i = 2049 ∨ i = 3000
set_option maxHeartbeats 4000000 in
theorem NX11_alter {F : Nat} {Ln Ln1 : Nat → Nat} {V V1 : mV} {v : (String ⊕ Int32)} {l1I : Int32} {l2I : Int32} (h : mX11_alter F Ln l1I l2I V = some (v, Ln1, V1)) : mAv (wX11_alter) V V1 ∧ mAl (wX11_alter) Ln Ln1 := by
  unfold mX11_alter at h
  rcases mBT_some h with ⟨E0, L0, V0, h1, h⟩ | ⟨v1, L2, V2, h1, h⟩
  · have y1 := NX11_testPlace h1
    obtain ⟨_, rfl, rfl⟩ := mRA3 h
    exact ⟨mAv.tr mAv.rf y1.1 (fun i z => by unfold wX11_testPlace at z; unfold wX11_alter; omega), mAl.tr mAl.rf y1.2 (fun i z => by unfold wX11_testPlace at z; unfold wX11_alter; omega)⟩
  · have y1 := NX11_testPlace h1
    have a1 : mAv (wX11_alter) V V2 := mAv.tr mAv.rf y1.1 (fun i z => by unfold wX11_testPlace at z; unfold wX11_alter; omega)
    have b1 : mAl (wX11_alter) Ln L2 := mAl.tr mAl.rf y1.2 (fun i z => by unfold wX11_testPlace at z; unfold wX11_alter; omega)
    obtain ⟨v6, _, h⟩ := mBN_some h
    obtain ⟨v11, V12, h2, h⟩ := mBW_some h
    have a2 : mAv (wX11_alter) V V12 := mAv.tr a1 (NX9_set h2) (fun i z => by unfold wX9_set at z; unfold wX11_alter; omega)
    obtain ⟨_, rfl, rfl⟩ := mRA3 h
    exact ⟨a2, b1⟩
def wX11_forgetEntry (i : Nat) : Prop := i = 0 ∨ i = 17 ∨ (256 ≤ i ∧ i ≤ 344)
def wX11_forgetEntry_0 (i : Nat) : Prop := i = 0 ∨ i = 17 ∨ (256 ≤ i ∧ i ≤ 344)
set_option maxHeartbeats 4000000 in
theorem NX11_forgetEntry_go {F : Nat} {v : Unit} {V1 : mV} : ∀ k' : Nat, (∀ (l1I : Int32) (l2I : Int32) (V : mV), mX11_forgetEntry_go F k' 0 l1I l2I V = some (v, V1) → mAv (wX11_forgetEntry_0) V V1) := by
  intro k'
  induction k' with
  | zero => exact (fun _ _ _ h => by cases h)
  | succ k' ih =>
    intro l1I l2I V h
    rw [mX11_forgetEntry_go, if_pos rfl] at h
    unfold mX11_forgetEntry_b0 at h
    rcases mIf_some h with ⟨_, h⟩ | ⟨_, h⟩
    · obtain ⟨c1, h⟩ := mGd_some h
      obtain ⟨V4, eV4, h⟩ := mLt_some h
      have z2 := (Nat.lt_of_not_le (fun z => c1 (Or.inr z)))
      have a2 : mAv (wX11_forgetEntry_0) V V4 := by rw [eV4]; exact mAv.F mAv.rf (by unfold wX11_forgetEntry_0; omega)
      obtain ⟨V5, eV5, h⟩ := mLt_some h
      have a3 : mAv (wX11_forgetEntry_0) V V5 := by rw [eV5]; exact mAv.F a2 (by unfold wX11_forgetEntry_0; omega)
      obtain ⟨_, rfl⟩ := mRW h
      exact a3
    · obtain ⟨c4, h⟩ := mGd_some h
      rcases mIf_some h with ⟨_, h⟩ | ⟨_, h⟩
      · obtain ⟨v10, V11, h5, h⟩ := mBW_some h
        have a5 : mAv (wX11_forgetEntry_0) V V11 := mAv.tr mAv.rf (NX11_removeClaim h5) (fun i z => by unfold wX11_removeClaim at z; unfold wX11_forgetEntry_0; omega)
        obtain ⟨x15, _, h⟩ := mLt_some h
        exact mAv.tr a5 (ih _ _ _ h) (fun i z => by unfold wX11_forgetEntry_0 at z; unfold wX11_forgetEntry_0; omega)
      · obtain ⟨x9, _, h⟩ := mLt_some h
        exact mAv.tr mAv.rf (ih _ _ _ h) (fun i z => by unfold wX11_forgetEntry_0 at z; unfold wX11_forgetEntry_0; omega)
set_option maxHeartbeats 4000000 in
theorem NX11_forgetEntry {F : Nat} {V V1 : mV} {v : Unit} {l1I : Int32} (h : mX11_forgetEntry F l1I V = some (v, V1)) : mAv (wX11_forgetEntry) V V1 := by
  have ih := NX11_forgetEntry_go (F := F) (v := v) (V1 := V1) F
  unfold mX11_forgetEntry mX11_forgetEntry_s at h
  obtain ⟨x16, _, h⟩ := mLt_some h
  exact mAv.tr mAv.rf (ih _ _ _ h) (fun i z => by unfold wX11_forgetEntry_0 at z; unfold wX11_forgetEntry; omega)
def wX1_writeTruths (l2A : Nat) (i : Nat) : Prop := i = l2A ∨ i = l2A + 1
def wX1_writeTruths_0 (l2A : Nat) (i : Nat) : Prop := i = l2A ∨ i = l2A + 1
set_option maxHeartbeats 4000000 in
theorem NX1_writeTruths_go {F : Nat} {v : Unit} {Ln1 : Nat → Nat} {V1 : mV} : ∀ k' : Nat, (∀ (l0I : Int32) (l1I : Int32) (l2A : Nat) (l3I : Int32) (Ln : Nat → Nat) (V : mV), mX1_writeTruths_go F k' 0 Ln l0I l1I l2A l3I V = some (v, Ln1, V1) → mAv (wX1_writeTruths_0 l2A) V V1 ∧ mAl (wX1_writeTruths_0 l2A) Ln Ln1) := by
  intro k'
  induction k' with
  | zero => exact (fun _ _ _ _ _ _ h => by cases h)
  | succ k' ih =>
    intro l0I l1I l2A l3I Ln V h
    rw [mX1_writeTruths_go, if_pos rfl] at h
    unfold mX1_writeTruths_b0 at h
    rcases mIf_some h with ⟨_, h⟩ | ⟨_, h⟩
    · obtain ⟨_, rfl, rfl⟩ := mRA3 h
      exact ⟨mAv.rf, mAl.rf⟩
    · obtain ⟨v2, _, h⟩ := mBN_some h
      rcases mIf_some h with ⟨_, h⟩ | ⟨_, h⟩
      · obtain ⟨v8, L9, V9, h1, h⟩ := mBA_some h
        have y1 := NX9_add h1
        have a1 : mAv (wX1_writeTruths_0 l2A) V V9 := mAv.tr mAv.rf y1.1 (fun i z => by unfold wX9_add at z; unfold wX1_writeTruths_0; omega)
        have b1 : mAl (wX1_writeTruths_0 l2A) Ln L9 := mAl.tr mAl.rf y1.2 (fun i z => by unfold wX9_add at z; unfold wX1_writeTruths_0; omega)
        obtain ⟨x13, _, h⟩ := mLt_some h
        have y := ih _ _ _ _ _ _ h
        exact ⟨mAv.tr a1 y.1 (fun i z => by unfold wX1_writeTruths_0 at z; unfold wX1_writeTruths_0; omega), mAl.tr b1 y.2 (fun i z => by unfold wX1_writeTruths_0 at z; unfold wX1_writeTruths_0; omega)⟩
      · obtain ⟨v14, L15, V15, h2, h⟩ := mBA_some h
        have y2 := NX9_add h2
        have a2 : mAv (wX1_writeTruths_0 l2A) V V15 := mAv.tr mAv.rf y2.1 (fun i z => by unfold wX9_add at z; unfold wX1_writeTruths_0; omega)
        have b2 : mAl (wX1_writeTruths_0 l2A) Ln L15 := mAl.tr mAl.rf y2.2 (fun i z => by unfold wX9_add at z; unfold wX1_writeTruths_0; omega)
        obtain ⟨x19, _, h⟩ := mLt_some h
        have y := ih _ _ _ _ _ _ h
        exact ⟨mAv.tr a2 y.1 (fun i z => by unfold wX1_writeTruths_0 at z; unfold wX1_writeTruths_0; omega), mAl.tr b2 y.2 (fun i z => by unfold wX1_writeTruths_0 at z; unfold wX1_writeTruths_0; omega)⟩
set_option maxHeartbeats 4000000 in
theorem NX1_writeTruths {F : Nat} {Ln Ln1 : Nat → Nat} {V V1 : mV} {v : Unit} {l0I : Int32} {l1I : Int32} {l2A : Nat} (h : mX1_writeTruths F Ln l0I l1I l2A V = some (v, Ln1, V1)) : mAv (wX1_writeTruths l2A) V V1 ∧ mAl (wX1_writeTruths l2A) Ln Ln1 := by
  have ih := NX1_writeTruths_go (F := F) (v := v) (Ln1 := Ln1) (V1 := V1) F
  unfold mX1_writeTruths mX1_writeTruths_s at h
  have y := ih _ _ _ _ _ _ h
  exact ⟨mAv.tr mAv.rf y.1 (fun i z => by unfold wX1_writeTruths_0 at z; unfold wX1_writeTruths; omega), mAl.tr mAl.rf y.2 (fun i z => by unfold wX1_writeTruths_0 at z; unfold wX1_writeTruths; omega)⟩
def wX1_goThrough (l1A : Nat) (l2A : Nat) (i : Nat) : Prop := i = 5 ∨ (52 ≤ i ∧ i ≤ 53) ∨ i = l2A ∨ i = l2A + 1
def wX1_goThrough_0 (l1A : Nat) (l2A : Nat) (i : Nat) : Prop := i = 5 ∨ (52 ≤ i ∧ i ≤ 53) ∨ i = l2A ∨ i = l2A + 1
def wX1_goThrough_1 (l1A : Nat) (l2A : Nat) (i : Nat) : Prop := i = 5 ∨ (52 ≤ i ∧ i ≤ 53) ∨ i = l2A ∨ i = l2A + 1
set_option maxHeartbeats 4000000 in
theorem NX1_goThrough_go {F : Nat} {v : Unit} {Ln1 : Nat → Nat} {V1 : mV} : ∀ k' : Nat, (∀ (l1A : Nat) (l2A : Nat) (l3I : Int32) (Ln : Nat → Nat) (V : mV), mX1_goThrough_go F k' 0 Ln l1A l2A l3I 0 V = some (v, Ln1, V1) → mAv (wX1_goThrough_0 l1A l2A) V V1 ∧ mAl (wX1_goThrough_0 l1A l2A) Ln Ln1) ∧ (∀ (l1A : Nat) (l2A : Nat) (l3I : Int32) (l4I : Int32) (Ln : Nat → Nat) (V : mV), mX1_goThrough_go F k' 1 Ln l1A l2A l3I l4I V = some (v, Ln1, V1) → mAv (wX1_goThrough_1 l1A l2A) V V1 ∧ mAl (wX1_goThrough_1 l1A l2A) Ln Ln1) := by
  intro k'
  induction k' with
  | zero => exact ⟨(fun _ _ _ _ _ h => by cases h), (fun _ _ _ _ _ _ h => by cases h)⟩
  | succ k' ih =>
    refine ⟨?_, ?_⟩
    · intro l1A l2A l3I Ln V h
      rw [mX1_goThrough_go, if_pos rfl] at h
      unfold mX1_goThrough_b0 at h
      rcases mIf_some h with ⟨_, h⟩ | ⟨_, h⟩
      · obtain ⟨_, rfl, rfl⟩ := mRA3 h
        exact ⟨mAv.rf, mAl.rf⟩
      · rcases mIf_some h with ⟨_, h⟩ | ⟨_, h⟩
        · obtain ⟨v3, _, h⟩ := mBN_some h
          rcases mIf_some h with ⟨_, h⟩ | ⟨_, h⟩
          · have y := ih.2 _ _ _ _ _ _ h
            exact ⟨mAv.tr mAv.rf y.1 (fun i z => by unfold wX1_goThrough_1 at z; unfold wX1_goThrough_0; omega), mAl.tr mAl.rf y.2 (fun i z => by unfold wX1_goThrough_1 at z; unfold wX1_goThrough_0; omega)⟩
          · obtain ⟨v9, _, h⟩ := mBN_some h
            rcases mIf_some h with ⟨_, h⟩ | ⟨_, h⟩
            · obtain ⟨V15, eV15, h⟩ := mLt_some h
              have a1 : mAv (wX1_goThrough_0 l1A l2A) V V15 := by rw [eV15]; exact mAv.F mAv.rf (by unfold wX1_goThrough_0; omega)
              obtain ⟨x16, _, h⟩ := mLt_some h
              have y := ih.1 _ _ _ _ _ h
              exact ⟨mAv.tr a1 y.1 (fun i z => by unfold wX1_goThrough_0 at z; unfold wX1_goThrough_0; omega), mAl.tr mAl.rf y.2 (fun i z => by unfold wX1_goThrough_0 at z; unfold wX1_goThrough_0; omega)⟩
            · have y := ih.2 _ _ _ _ _ _ h
              exact ⟨mAv.tr mAv.rf y.1 (fun i z => by unfold wX1_goThrough_1 at z; unfold wX1_goThrough_0; omega), mAl.tr mAl.rf y.2 (fun i z => by unfold wX1_goThrough_1 at z; unfold wX1_goThrough_0; omega)⟩
        · obtain ⟨_, rfl, rfl⟩ := mRA3 h
          exact ⟨mAv.rf, mAl.rf⟩
    · intro l1A l2A l3I l4I Ln V h
      rw [mX1_goThrough_go, if_neg (by decide), if_pos rfl] at h
      unfold mX1_goThrough_b1 at h
      obtain ⟨v17, L18, V18, h2, h⟩ := mBA_some h
      have y2 := NX9_add h2
      have a2 : mAv (wX1_goThrough_1 l1A l2A) V V18 := mAv.tr mAv.rf y2.1 (fun i z => by unfold wX9_add at z; unfold wX1_goThrough_1; omega)
      have b2 : mAl (wX1_goThrough_1 l1A l2A) Ln L18 := mAl.tr mAl.rf y2.2 (fun i z => by unfold wX9_add at z; unfold wX1_goThrough_1; omega)
      rcases mIf_some h with ⟨_, h⟩ | ⟨_, h⟩
      · obtain ⟨v23, V24, h3, h⟩ := mBW_some h
        have a3 : mAv (wX1_goThrough_1 l1A l2A) V V24 := mAv.tr a2 (NX1_derive h3) (fun i z => by unfold wX1_derive at z; unfold wX1_goThrough_1; omega)
        obtain ⟨v28, V29, h4, h⟩ := mBW_some h
        have a4 : mAv (wX1_goThrough_1 l1A l2A) V V29 := mAv.tr a3 (NX1_goBack h4) (fun i z => by unfold wX1_goBack at z; unfold wX1_goThrough_1; omega)
        obtain ⟨x33, _, h⟩ := mLt_some h
        have y := ih.1 _ _ _ _ _ h
        exact ⟨mAv.tr a4 y.1 (fun i z => by unfold wX1_goThrough_0 at z; unfold wX1_goThrough_1; omega), mAl.tr b2 y.2 (fun i z => by unfold wX1_goThrough_0 at z; unfold wX1_goThrough_1; omega)⟩
      · obtain ⟨v34, _, h⟩ := mBN_some h
        obtain ⟨v39, V40, h5, h⟩ := mBW_some h
        have a5 : mAv (wX1_goThrough_1 l1A l2A) V V40 := mAv.tr a2 (NX1_derive h5) (fun i z => by unfold wX1_derive at z; unfold wX1_goThrough_1; omega)
        obtain ⟨v44, V45, h6, h⟩ := mBW_some h
        have a6 : mAv (wX1_goThrough_1 l1A l2A) V V45 := mAv.tr a5 (NX1_goBack h6) (fun i z => by unfold wX1_goBack at z; unfold wX1_goThrough_1; omega)
        obtain ⟨x49, _, h⟩ := mLt_some h
        have y := ih.1 _ _ _ _ _ h
        exact ⟨mAv.tr a6 y.1 (fun i z => by unfold wX1_goThrough_0 at z; unfold wX1_goThrough_1; omega), mAl.tr b2 y.2 (fun i z => by unfold wX1_goThrough_0 at z; unfold wX1_goThrough_1; omega)⟩
set_option maxHeartbeats 4000000 in
theorem NX1_goThrough {F : Nat} {Ln Ln1 : Nat → Nat} {V V1 : mV} {v : Unit} {l1A : Nat} {l2A : Nat} (h : mX1_goThrough F Ln l1A l2A V = some (v, Ln1, V1)) : mAv (wX1_goThrough l1A l2A) V V1 ∧ mAl (wX1_goThrough l1A l2A) Ln Ln1 := by
  have ih := NX1_goThrough_go (F := F) (v := v) (Ln1 := Ln1) (V1 := V1) F
  unfold mX1_goThrough mX1_goThrough_s at h
  obtain ⟨v50, V51, h7, h⟩ := mBW_some h
  have a7 : mAv (wX1_goThrough l1A l2A) V V51 := mAv.tr mAv.rf (NX1_begin h7) (fun i z => by unfold wX1_begin at z; unfold wX1_goThrough; omega)
  have y := ih.1 _ _ _ _ _ h
  exact ⟨mAv.tr a7 y.1 (fun i z => by unfold wX1_goThrough_0 at z; unfold wX1_goThrough; omega), mAl.tr mAl.rf y.2 (fun i z => by unfold wX1_goThrough_0 at z; unfold wX1_goThrough; omega)⟩
def wX1_judgeTruths (l1A : Nat) (l2A : Nat) (i : Nat) : Prop := i = 5
def wX1_judgeTruths_0 (l1A : Nat) (l2A : Nat) (i : Nat) : Prop := i = 5
set_option maxHeartbeats 4000000 in
theorem NX1_judgeTruths_go {F : Nat} {v : Int32} {V1 : mV} : ∀ k' : Nat, (∀ (l1A : Nat) (l2A : Nat) (l3I : Int32) (Ln : Nat → Nat) (V : mV), mX1_judgeTruths_go F k' 0 Ln l1A l2A l3I V = some (v, V1) → mAv (wX1_judgeTruths_0 l1A l2A) V V1) := by
  intro k'
  induction k' with
  | zero => exact (fun _ _ _ _ _ h => by cases h)
  | succ k' ih =>
    intro l1A l2A l3I Ln V h
    rw [mX1_judgeTruths_go, if_pos rfl] at h
    unfold mX1_judgeTruths_b0 at h
    rcases mIf_some h with ⟨_, h⟩ | ⟨_, h⟩
    · obtain ⟨v2, _, h⟩ := mBN_some h
      rcases mIf_some h with ⟨_, h⟩ | ⟨_, h⟩
      · obtain ⟨v8, _, h⟩ := mBN_some h
        rcases mIf_some h with ⟨_, h⟩ | ⟨_, h⟩
        · obtain ⟨_, rfl⟩ := mRW h
          exact mAv.rf
        · obtain ⟨_, rfl⟩ := mRW h
          exact mAv.rf
      · obtain ⟨_, rfl⟩ := mRW h
        exact mAv.rf
    · obtain ⟨v14, _, h⟩ := mBN_some h
      obtain ⟨V19, eV19, h⟩ := mLt_some h
      have a1 : mAv (wX1_judgeTruths_0 l1A l2A) V V19 := by rw [eV19]; exact mAv.F mAv.rf (by unfold wX1_judgeTruths_0; omega)
      obtain ⟨x20, _, h⟩ := mLt_some h
      exact mAv.tr a1 (ih _ _ _ _ _ h) (fun i z => by unfold wX1_judgeTruths_0 at z; unfold wX1_judgeTruths_0; omega)
set_option maxHeartbeats 4000000 in
theorem NX1_judgeTruths {F : Nat} {Ln : Nat → Nat} {V V1 : mV} {v : Int32} {l1A : Nat} {l2A : Nat} (h : mX1_judgeTruths F Ln l1A l2A V = some (v, V1)) : mAv (wX1_judgeTruths l1A l2A) V V1 := by
  have ih := NX1_judgeTruths_go (F := F) (v := v) (V1 := V1) F
  unfold mX1_judgeTruths mX1_judgeTruths_s at h
  rcases mIf_some h with ⟨_, h⟩ | ⟨_, h⟩
  · obtain ⟨v22, _, h⟩ := mBN_some h
    rcases mIf_some h with ⟨_, h⟩ | ⟨_, h⟩
    · obtain ⟨_, rfl⟩ := mRW h
      exact mAv.rf
    · obtain ⟨V28, eV28, h⟩ := mLt_some h
      have a2 : mAv (wX1_judgeTruths l1A l2A) V V28 := by rw [eV28]; exact mAv.F mAv.rf (by unfold wX1_judgeTruths; omega)
      obtain ⟨V29, eV29, h⟩ := mLt_some h
      have a3 : mAv (wX1_judgeTruths l1A l2A) V V29 := by rw [eV29]; exact mAv.F a2 (by unfold wX1_judgeTruths; omega)
      exact mAv.tr a3 (ih _ _ _ _ _ h) (fun i z => by unfold wX1_judgeTruths_0 at z; unfold wX1_judgeTruths; omega)
  · obtain ⟨_, rfl⟩ := mRW h
    exact mAv.rf
def wX1_judgeTree (l1A : Nat) (l2A : Nat) (i : Nat) : Prop := i = 5 ∨ (52 ≤ i ∧ i ≤ 53)
def wX1_judgeTree_0 (l1A : Nat) (l2A : Nat) (i : Nat) : Prop := i = 5 ∨ (52 ≤ i ∧ i ≤ 53)
set_option maxHeartbeats 4000000 in
theorem NX1_judgeTree_go {F : Nat} {v : Int32} {V1 : mV} : ∀ k' : Nat, (∀ (l1A : Nat) (l2A : Nat) (l3I : Int32) (l4I : Int32) (Ln : Nat → Nat) (V : mV), mX1_judgeTree_go F k' 0 Ln l1A l2A l3I l4I V = some (v, V1) → mAv (wX1_judgeTree_0 l1A l2A) V V1) := by
  intro k'
  induction k' with
  | zero => exact (fun _ _ _ _ _ _ h => by cases h)
  | succ k' ih =>
    intro l1A l2A l3I l4I Ln V h
    rw [mX1_judgeTree_go, if_pos rfl] at h
    unfold mX1_judgeTree_b0 at h
    rcases mIf_some h with ⟨_, h⟩ | ⟨_, h⟩
    · rcases mIf_some h with ⟨_, h⟩ | ⟨_, h⟩
      · obtain ⟨_, rfl⟩ := mRW h
        exact mAv.rf
      · obtain ⟨_, rfl⟩ := mRW h
        exact mAv.rf
    · rcases mIf_some h with ⟨_, h⟩ | ⟨_, h⟩
      · rcases mIf_some h with ⟨_, h⟩ | ⟨_, h⟩
        · rcases mIf_some h with ⟨_, h⟩ | ⟨_, h⟩
          · obtain ⟨_, rfl⟩ := mRW h
            exact mAv.rf
          · obtain ⟨V7, eV7, h⟩ := mLt_some h
            have a1 : mAv (wX1_judgeTree_0 l1A l2A) V V7 := by rw [eV7]; exact mAv.F mAv.rf (by unfold wX1_judgeTree_0; omega)
            obtain ⟨x8, _, h⟩ := mLt_some h
            exact mAv.tr a1 (ih _ _ _ _ _ _ h) (fun i z => by unfold wX1_judgeTree_0 at z; unfold wX1_judgeTree_0; omega)
        · obtain ⟨v9, _, h⟩ := mBN_some h
          obtain ⟨v14, _, h⟩ := mBN_some h
          rcases mIf_some h with ⟨_, h⟩ | ⟨_, h⟩
          · rcases mIf_some h with ⟨_, h⟩ | ⟨_, h⟩
            · obtain ⟨_, rfl⟩ := mRW h
              exact mAv.rf
            · obtain ⟨V21, eV21, h⟩ := mLt_some h
              have a2 : mAv (wX1_judgeTree_0 l1A l2A) V V21 := by rw [eV21]; exact mAv.F mAv.rf (by unfold wX1_judgeTree_0; omega)
              obtain ⟨x22, _, h⟩ := mLt_some h
              exact mAv.tr a2 (ih _ _ _ _ _ _ h) (fun i z => by unfold wX1_judgeTree_0 at z; unfold wX1_judgeTree_0; omega)
          · obtain ⟨x23, _, h⟩ := mLt_some h
            obtain ⟨v24, V25, h3, h⟩ := mBW_some h
            have a3 : mAv (wX1_judgeTree_0 l1A l2A) V V25 := mAv.tr mAv.rf (NX1_goBack h3) (fun i z => by unfold wX1_goBack at z; unfold wX1_judgeTree_0; omega)
            obtain ⟨x29, _, h⟩ := mLt_some h
            exact mAv.tr a3 (ih _ _ _ _ _ _ h) (fun i z => by unfold wX1_judgeTree_0 at z; unfold wX1_judgeTree_0; omega)
      · rcases mIf_some h with ⟨_, h⟩ | ⟨_, h⟩
        · obtain ⟨_, rfl⟩ := mRW h
          exact mAv.rf
        · obtain ⟨_, rfl⟩ := mRW h
          exact mAv.rf
set_option maxHeartbeats 4000000 in
theorem NX1_judgeTree {F : Nat} {Ln : Nat → Nat} {V V1 : mV} {v : Int32} {l1A : Nat} {l2A : Nat} (h : mX1_judgeTree F Ln l1A l2A V = some (v, V1)) : mAv (wX1_judgeTree l1A l2A) V V1 := by
  have ih := NX1_judgeTree_go (F := F) (v := v) (V1 := V1) F
  unfold mX1_judgeTree mX1_judgeTree_s at h
  obtain ⟨v30, _, h⟩ := mBN_some h
  rcases mIf_some h with ⟨_, h⟩ | ⟨_, h⟩
  · obtain ⟨_, rfl⟩ := mRW h
    exact mAv.rf
  · obtain ⟨v36, V37, h4, h⟩ := mBW_some h
    have a4 : mAv (wX1_judgeTree l1A l2A) V V37 := mAv.tr mAv.rf (NX1_begin h4) (fun i z => by unfold wX1_begin at z; unfold wX1_judgeTree; omega)
    exact mAv.tr a4 (ih _ _ _ _ _ _ h) (fun i z => by unfold wX1_judgeTree_0 at z; unfold wX1_judgeTree; omega)
end
