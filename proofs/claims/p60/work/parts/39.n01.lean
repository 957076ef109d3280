/-! WHAT EACH METHOD LEAVES ALONE: X1_begin, X1_derive, X1_deriveAt, X2_setPlace, X3_begin, X3_copyQuestion, X3_setItem, X3_addItem, X3_addTo, X3_removeItem, X3_tell, X4_addBalance, X4_addSomeEdge, X5_begin, X5_lockRising, X5_exchange, X6_loadStates, X6_loadNodes, X7_loadFlows, X7_goBack. -/
section
def wX1_begin (i : Nat) : Prop := i = 5
set_option maxHeartbeats 4000000 in
theorem NX1_begin {F : Nat} {V V1 : mV} {v : Unit} (h : mX1_begin F V = some (v, V1)) : mAv (wX1_begin) V V1 := by
  unfold mX1_begin at h
  obtain ⟨V1, eV1, h⟩ := mLt_some h
  have a1 : mAv (wX1_begin) V V1 := by rw [eV1]; exact mAv.F mAv.rf (by unfold wX1_begin; omega)
  obtain ⟨V2, eV2, h⟩ := mLt_some h
  have a2 : mAv (wX1_begin) V V2 := by rw [eV2]; exact mAv.F a1 (by unfold wX1_begin; omega)
  obtain ⟨V3, eV3, h⟩ := mLt_some h
  have a3 : mAv (wX1_begin) V V3 := by rw [eV3]; exact mAv.F a2 (by unfold wX1_begin; omega)
  obtain ⟨V4, eV4, h⟩ := mLt_some h
  have a4 : mAv (wX1_begin) V V4 := by rw [eV4]; exact mAv.F a3 (by unfold wX1_begin; omega)
  obtain ⟨V5, eV5, h⟩ := mLt_some h
  have a5 : mAv (wX1_begin) V V5 := by rw [eV5]; exact mAv.F a4 (by unfold wX1_begin; omega)
  obtain ⟨_, rfl⟩ := mRW h
  exact a5
def wX1_derive (i : Nat) : Prop := i = 5 ∨ (52 ≤ i ∧ i ≤ 53)
set_option maxHeartbeats 4000000 in
theorem NX1_derive {F : Nat} {V V1 : mV} {v : Unit} {l1I : Int32} (h : mX1_derive F l1I V = some (v, V1)) : mAv (wX1_derive) V V1 := by
  unfold mX1_derive at h
  rcases mIf_some h with ⟨_, h⟩ | ⟨_, h⟩
  · rcases mIf_some h with ⟨_, h⟩ | ⟨_, h⟩
    · obtain ⟨_, rfl⟩ := mRW h
      exact mAv.rf
    · obtain ⟨c1, h⟩ := mGd_some h
      obtain ⟨V4, eV4, h⟩ := mLt_some h
      have a2 : mAv (wX1_derive) V V4 := by rw [eV4]; exact mAv.I mAv.rf (by unfold wX1_derive; omega)
      obtain ⟨V5, eV5, h⟩ := mLt_some h
      have a3 : mAv (wX1_derive) V V5 := by rw [eV5]; exact mAv.F a2 (by unfold wX1_derive; omega)
      obtain ⟨_, rfl⟩ := mRW h
      exact a3
  · obtain ⟨c4, h⟩ := mGd_some h
    obtain ⟨V7, eV7, h⟩ := mLt_some h
    have a5 : mAv (wX1_derive) V V7 := by rw [eV7]; exact mAv.I mAv.rf (by unfold wX1_derive; omega)
    obtain ⟨V8, eV8, h⟩ := mLt_some h
    have a6 : mAv (wX1_derive) V V8 := by rw [eV8]; exact mAv.F a5 (by unfold wX1_derive; omega)
    rcases mIf_some h with ⟨_, h⟩ | ⟨_, h⟩
    · obtain ⟨_, rfl⟩ := mRW h
      exact a6
    · obtain ⟨c7, h⟩ := mGd_some h
      obtain ⟨V11, eV11, h⟩ := mLt_some h
      have a8 : mAv (wX1_derive) V V11 := by rw [eV11]; exact mAv.I a6 (by unfold wX1_derive; omega)
      obtain ⟨V12, eV12, h⟩ := mLt_some h
      have a9 : mAv (wX1_derive) V V12 := by rw [eV12]; exact mAv.F a8 (by unfold wX1_derive; omega)
      obtain ⟨_, rfl⟩ := mRW h
      exact a9
def wX1_deriveAt (i : Nat) : Prop := i = 5 ∨ (52 ≤ i ∧ i ≤ 53)
set_option maxHeartbeats 4000000 in
theorem NX1_deriveAt {F : Nat} {V V1 : mV} {v : Unit} {l1I : Int32} (h : mX1_deriveAt F l1I V = some (v, V1)) : mAv (wX1_deriveAt) V V1 := by
  unfold mX1_deriveAt at h
  rcases mIf_some h with ⟨_, h⟩ | ⟨_, h⟩
  · obtain ⟨c1, h⟩ := mGd_some h
    obtain ⟨x3, _, h⟩ := mLt_some h
    obtain ⟨c2, h⟩ := mGd_some h
    obtain ⟨x5, _, h⟩ := mLt_some h
    obtain ⟨x6, _, h⟩ := mLt_some h
    obtain ⟨x7, _, h⟩ := mLt_some h
    obtain ⟨V8, eV8, h⟩ := mLt_some h
    have a3 : mAv (wX1_deriveAt) V V8 := by rw [eV8]; exact mAv.F mAv.rf (by unfold wX1_deriveAt; omega)
    rcases mIf_some h with ⟨_, h⟩ | ⟨_, h⟩
    · obtain ⟨v21, V22, h4, h⟩ := mBW_some h
      have a4 : mAv (wX1_deriveAt) V V22 := mAv.tr a3 (NX1_derive h4) (fun i z => by unfold wX1_derive at z; unfold wX1_deriveAt; omega)
      obtain ⟨_, rfl⟩ := mRW h
      exact a4
    · rcases mIf_some h with ⟨_, h⟩ | ⟨_, h⟩
      · obtain ⟨v16, V17, h5, h⟩ := mBW_some h
        have a5 : mAv (wX1_deriveAt) V V17 := mAv.tr a3 (NX1_derive h5) (fun i z => by unfold wX1_derive at z; unfold wX1_deriveAt; omega)
        obtain ⟨_, rfl⟩ := mRW h
        exact a5
      · obtain ⟨v11, V12, h6, h⟩ := mBW_some h
        have a6 : mAv (wX1_deriveAt) V V12 := mAv.tr a3 (NX1_derive h6) (fun i z => by unfold wX1_derive at z; unfold wX1_deriveAt; omega)
        obtain ⟨_, rfl⟩ := mRW h
        exact a6
  · obtain ⟨_, rfl⟩ := mRW h
    exact mAv.rf
def wX2_setPlace (i : Nat) : Prop := (31 ≤ i ∧ i ≤ 32)
set_option maxHeartbeats 4000000 in
theorem NX2_setPlace {F : Nat} {V V1 : mV} {v : Unit} {l1I : Int32} {l2I : Int32} (h : mX2_setPlace F l1I l2I V = some (v, V1)) : mAv (wX2_setPlace) V V1 := by
  unfold mX2_setPlace at h
  obtain ⟨c1, h⟩ := mGd_some h
  obtain ⟨V2, eV2, h⟩ := mLt_some h
  have a2 : mAv (wX2_setPlace) V V2 := by rw [eV2]; exact mAv.I mAv.rf (by unfold wX2_setPlace; omega)
  obtain ⟨c3, h⟩ := mGd_some h
  obtain ⟨c4, h⟩ := mGd_some h
  obtain ⟨V5, eV5, h⟩ := mLt_some h
  have a5 : mAv (wX2_setPlace) V V5 := by rw [eV5]; exact mAv.I a2 (by unfold wX2_setPlace; omega)
  obtain ⟨_, rfl⟩ := mRW h
  exact a5
def wX3_begin (l0A : Nat) (i : Nat) : Prop := i = l0A
set_option maxHeartbeats 4000000 in
theorem NX3_begin {F : Nat} {V V1 : mV} {v : Unit} {l0A : Nat} {l1I : Int32} {l2I : Int32} {l3I : Int32} (h : mX3_begin F l0A l1I l2I l3I V = some (v, V1)) : mAv (wX3_begin l0A) V V1 := by
  unfold mX3_begin at h
  obtain ⟨V1, eV1, h⟩ := mLt_some h
  have a1 : mAv (wX3_begin l0A) V V1 := by rw [eV1]; exact mAv.F mAv.rf (by unfold wX3_begin; omega)
  obtain ⟨V2, eV2, h⟩ := mLt_some h
  have a2 : mAv (wX3_begin l0A) V V2 := by rw [eV2]; exact mAv.F a1 (by unfold wX3_begin; omega)
  obtain ⟨V3, eV3, h⟩ := mLt_some h
  have a3 : mAv (wX3_begin l0A) V V3 := by rw [eV3]; exact mAv.F a2 (by unfold wX3_begin; omega)
  obtain ⟨V4, eV4, h⟩ := mLt_some h
  have a4 : mAv (wX3_begin l0A) V V4 := by rw [eV4]; exact mAv.F a3 (by unfold wX3_begin; omega)
  obtain ⟨V5, eV5, h⟩ := mLt_some h
  have a5 : mAv (wX3_begin l0A) V V5 := by rw [eV5]; exact mAv.F a4 (by unfold wX3_begin; omega)
  obtain ⟨V6, eV6, h⟩ := mLt_some h
  have a6 : mAv (wX3_begin l0A) V V6 := by rw [eV6]; exact mAv.F a5 (by unfold wX3_begin; omega)
  obtain ⟨V7, eV7, h⟩ := mLt_some h
  have a7 : mAv (wX3_begin l0A) V V7 := by rw [eV7]; exact mAv.F a6 (by unfold wX3_begin; omega)
  obtain ⟨V8, eV8, h⟩ := mLt_some h
  have a8 : mAv (wX3_begin l0A) V V8 := by rw [eV8]; exact mAv.F a7 (by unfold wX3_begin; omega)
  obtain ⟨V9, eV9, h⟩ := mLt_some h
  have a9 : mAv (wX3_begin l0A) V V9 := by rw [eV9]; exact mAv.F a8 (by unfold wX3_begin; omega)
  obtain ⟨V10, eV10, h⟩ := mLt_some h
  have a10 : mAv (wX3_begin l0A) V V10 := by rw [eV10]; exact mAv.F a9 (by unfold wX3_begin; omega)
  obtain ⟨_, rfl⟩ := mRW h
  exact a10
def wX3_copyQuestion (l0A : Nat) (l1A : Nat) (i : Nat) : Prop := i = l0A ∨ i = l0A + 1
set_option maxHeartbeats 4000000 in
theorem NX3_copyQuestion {F : Nat} {V V1 : mV} {v : Unit} {l0A : Nat} {l1A : Nat} (h : mX3_copyQuestion F l0A l1A V = some (v, V1)) : mAv (wX3_copyQuestion l0A l1A) V V1 := by
  unfold mX3_copyQuestion at h
  obtain ⟨V1, eV1, h⟩ := mLt_some h
  have a1 : mAv (wX3_copyQuestion l0A l1A) V V1 := by rw [eV1]; exact mAv.F mAv.rf (by unfold wX3_copyQuestion; omega)
  obtain ⟨V2, eV2, h⟩ := mLt_some h
  have a2 : mAv (wX3_copyQuestion l0A l1A) V V2 := by rw [eV2]; exact mAv.F a1 (by unfold wX3_copyQuestion; omega)
  obtain ⟨V3, eV3, h⟩ := mLt_some h
  have a3 : mAv (wX3_copyQuestion l0A l1A) V V3 := by rw [eV3]; exact mAv.F a2 (by unfold wX3_copyQuestion; omega)
  obtain ⟨V4, eV4, h⟩ := mLt_some h
  have a4 : mAv (wX3_copyQuestion l0A l1A) V V4 := by rw [eV4]; exact mAv.F a3 (by unfold wX3_copyQuestion; omega)
  obtain ⟨V5, eV5, h⟩ := mLt_some h
  have a5 : mAv (wX3_copyQuestion l0A l1A) V V5 := by rw [eV5]; exact mAv.F a4 (by unfold wX3_copyQuestion; omega)
  obtain ⟨V6, eV6, h⟩ := mLt_some h
  have a6 : mAv (wX3_copyQuestion l0A l1A) V V6 := by rw [eV6]; exact mAv.F a5 (by unfold wX3_copyQuestion; omega)
  obtain ⟨V7, eV7, h⟩ := mLt_some h
  have a7 : mAv (wX3_copyQuestion l0A l1A) V V7 := by rw [eV7]; exact mAv.F a6 (by unfold wX3_copyQuestion; omega)
  obtain ⟨c8, h⟩ := mGd_some h
  obtain ⟨c9, h⟩ := mGd_some h
  obtain ⟨c10, h⟩ := mGd_some h
  obtain ⟨c11, h⟩ := mGd_some h
  obtain ⟨c12, h⟩ := mGd_some h
  obtain ⟨V9, eV9, h⟩ := mLt_some h
  have a13 : mAv (wX3_copyQuestion l0A l1A) V V9 := by rw [eV9]; exact mAv.RI a7 (by unfold wX3_copyQuestion; omega)
  obtain ⟨_, rfl⟩ := mRW h
  exact a13
def wX3_setItem (l0A : Nat) (l2A : Nat) (i : Nat) : Prop := i = l0A + 1
set_option maxHeartbeats 4000000 in
theorem NX3_setItem {F : Nat} {V V1 : mV} {v : Unit} {l0A : Nat} {l1I : Int32} {l2A : Nat} (h : mX3_setItem F l0A l1I l2A V = some (v, V1)) : mAv (wX3_setItem l0A l2A) V V1 := by
  unfold mX3_setItem at h
  rcases mIf_some h with ⟨_, h⟩ | ⟨_, h⟩
  · obtain ⟨_, rfl⟩ := mRW h
    exact mAv.rf
  · rcases mIf_some h with ⟨_, h⟩ | ⟨_, h⟩
    · obtain ⟨_, rfl⟩ := mRW h
      exact mAv.rf
    · obtain ⟨c1, h⟩ := mGd_some h
      obtain ⟨c2, h⟩ := mGd_some h
      obtain ⟨c3, h⟩ := mGd_some h
      obtain ⟨c4, h⟩ := mGd_some h
      obtain ⟨c5, h⟩ := mGd_some h
      obtain ⟨V4, eV4, h⟩ := mLt_some h
      have a6 : mAv (wX3_setItem l0A l2A) V V4 := by rw [eV4]; exact mAv.RI mAv.rf (by unfold wX3_setItem; omega)
      obtain ⟨_, rfl⟩ := mRW h
      exact a6
def wX3_addItem (l0A : Nat) (i : Nat) : Prop := i = l0A ∨ i = l0A + 1
set_option maxHeartbeats 4000000 in
theorem NX3_addItem {F : Nat} {V V1 : mV} {v : Unit} {l0A : Nat} {l1I : Int32} {l2I : Int32} {l3I : Int32} (h : mX3_addItem F l0A l1I l2I l3I V = some (v, V1)) : mAv (wX3_addItem l0A) V V1 := by
  unfold mX3_addItem at h
  obtain ⟨x1, _, h⟩ := mLt_some h
  rcases mIf_some h with ⟨_, h⟩ | ⟨_, h⟩
  · obtain ⟨_, rfl⟩ := mRW h
    exact mAv.rf
  · obtain ⟨c1, h⟩ := mGd_some h
    obtain ⟨V4, eV4, h⟩ := mLt_some h
    have a2 : mAv (wX3_addItem l0A) V V4 := by rw [eV4]; exact mAv.I mAv.rf (by unfold wX3_addItem; omega)
    obtain ⟨c3, h⟩ := mGd_some h
    obtain ⟨V6, eV6, h⟩ := mLt_some h
    have a4 : mAv (wX3_addItem l0A) V V6 := by rw [eV6]; exact mAv.I a2 (by unfold wX3_addItem; omega)
    obtain ⟨c5, h⟩ := mGd_some h
    obtain ⟨V8, eV8, h⟩ := mLt_some h
    have a6 : mAv (wX3_addItem l0A) V V8 := by rw [eV8]; exact mAv.I a4 (by unfold wX3_addItem; omega)
    obtain ⟨c7, h⟩ := mGd_some h
    obtain ⟨V10, eV10, h⟩ := mLt_some h
    have a8 : mAv (wX3_addItem l0A) V V10 := by rw [eV10]; exact mAv.I a6 (by unfold wX3_addItem; omega)
    obtain ⟨c9, h⟩ := mGd_some h
    obtain ⟨V12, eV12, h⟩ := mLt_some h
    have a10 : mAv (wX3_addItem l0A) V V12 := by rw [eV12]; exact mAv.I a8 (by unfold wX3_addItem; omega)
    obtain ⟨V13, eV13, h⟩ := mLt_some h
    have a11 : mAv (wX3_addItem l0A) V V13 := by rw [eV13]; exact mAv.F a10 (by unfold wX3_addItem; omega)
    obtain ⟨_, rfl⟩ := mRW h
    exact a11
def wX3_addTo (l0A : Nat) (i : Nat) : Prop := i = l0A + 1
set_option maxHeartbeats 4000000 in
theorem NX3_addTo {F : Nat} {V V1 : mV} {v : Unit} {l0A : Nat} {l1I : Int32} {l2I : Int32} {l3I : Int32} (h : mX3_addTo F l0A l1I l2I l3I V = some (v, V1)) : mAv (wX3_addTo l0A) V V1 := by
  unfold mX3_addTo at h
  obtain ⟨x1, _, h⟩ := mLt_some h
  rcases mIf_some h with ⟨_, h⟩ | ⟨_, h⟩
  · obtain ⟨_, rfl⟩ := mRW h
    exact mAv.rf
  · rcases mIf_some h with ⟨_, h⟩ | ⟨_, h⟩
    · obtain ⟨_, rfl⟩ := mRW h
      exact mAv.rf
    · obtain ⟨c1, h⟩ := mGd_some h
      obtain ⟨c2, h⟩ := mGd_some h
      obtain ⟨V6, eV6, h⟩ := mLt_some h
      have a3 : mAv (wX3_addTo l0A) V V6 := by rw [eV6]; exact mAv.I mAv.rf (by unfold wX3_addTo; omega)
      obtain ⟨_, rfl⟩ := mRW h
      exact a3
def wX3_removeItem (l0A : Nat) (i : Nat) : Prop := i = l0A ∨ i = l0A + 1
set_option maxHeartbeats 4000000 in
theorem NX3_removeItem {F : Nat} {V V1 : mV} {v : Unit} {l0A : Nat} {l1I : Int32} (h : mX3_removeItem F l0A l1I V = some (v, V1)) : mAv (wX3_removeItem l0A) V V1 := by
  unfold mX3_removeItem at h
  obtain ⟨x1, _, h⟩ := mLt_some h
  obtain ⟨x2, _, h⟩ := mLt_some h
  rcases mIf_some h with ⟨_, h⟩ | ⟨_, h⟩
  · obtain ⟨V4, eV4, h⟩ := mLt_some h
    have a1 : mAv (wX3_removeItem l0A) V V4 := by rw [eV4]; exact mAv.F mAv.rf (by unfold wX3_removeItem; omega)
    obtain ⟨_, rfl⟩ := mRW h
    exact a1
  · rcases mIf_some h with ⟨_, h⟩ | ⟨_, h⟩
    · obtain ⟨V6, eV6, h⟩ := mLt_some h
      have a2 : mAv (wX3_removeItem l0A) V V6 := by rw [eV6]; exact mAv.F mAv.rf (by unfold wX3_removeItem; omega)
      obtain ⟨_, rfl⟩ := mRW h
      exact a2
    · obtain ⟨c3, h⟩ := mGd_some h
      obtain ⟨c4, h⟩ := mGd_some h
      obtain ⟨c5, h⟩ := mGd_some h
      obtain ⟨c6, h⟩ := mGd_some h
      obtain ⟨c7, h⟩ := mGd_some h
      obtain ⟨V8, eV8, h⟩ := mLt_some h
      have a8 : mAv (wX3_removeItem l0A) V V8 := by rw [eV8]; exact mAv.RI mAv.rf (by unfold wX3_removeItem; omega)
      obtain ⟨V9, eV9, h⟩ := mLt_some h
      have a9 : mAv (wX3_removeItem l0A) V V9 := by rw [eV9]; exact mAv.F a8 (by unfold wX3_removeItem; omega)
      obtain ⟨_, rfl⟩ := mRW h
      exact a9
def wX3_tell (l0A : Nat) (i : Nat) : Prop := i = l0A
set_option maxHeartbeats 4000000 in
theorem NX3_tell {F : Nat} {V V1 : mV} {v : Unit} {l0A : Nat} {l1I : Int32} {l2I : Int32} (h : mX3_tell F l0A l1I l2I V = some (v, V1)) : mAv (wX3_tell l0A) V V1 := by
  unfold mX3_tell at h
  rcases mIf_some h with ⟨_, h⟩ | ⟨_, h⟩
  · obtain ⟨c1, h⟩ := mGd_some h
    obtain ⟨V3, eV3, h⟩ := mLt_some h
    have a2 : mAv (wX3_tell l0A) V V3 := by rw [eV3]; exact mAv.F mAv.rf (by unfold wX3_tell; omega)
    obtain ⟨V4, eV4, h⟩ := mLt_some h
    have a3 : mAv (wX3_tell l0A) V V4 := by rw [eV4]; exact mAv.F a2 (by unfold wX3_tell; omega)
    obtain ⟨_, rfl⟩ := mRW h
    exact a3
  · obtain ⟨c4, h⟩ := mGd_some h
    obtain ⟨V6, eV6, h⟩ := mLt_some h
    have a5 : mAv (wX3_tell l0A) V V6 := by rw [eV6]; exact mAv.F mAv.rf (by unfold wX3_tell; omega)
    obtain ⟨V7, eV7, h⟩ := mLt_some h
    have a6 : mAv (wX3_tell l0A) V V7 := by rw [eV7]; exact mAv.F a5 (by unfold wX3_tell; omega)
    obtain ⟨_, rfl⟩ := mRW h
    exact a6
def wX4_addBalance (l0A : Nat) (l1A : Nat) (i : Nat) : Prop := i = l1A ∨ i = l1A + 1
def wX4_addBalance_0 (l0A : Nat) (l1A : Nat) (i : Nat) : Prop := i = l1A + 1
set_option maxHeartbeats 4000000 in
theorem NX4_addBalance_go {F : Nat} {v : Unit} {V1 : mV} : ∀ k' : Nat, (∀ (l0A : Nat) (l1A : Nat) (l2I : Int32) (l3I : Int32) (l4I : Int32) (l5I : Int32) (l6I : Int32) (V : mV), mX4_addBalance_go F k' 0 l0A l1A l2I l3I l4I l5I l6I V = some (v, V1) → mAv (wX4_addBalance_0 l0A l1A) V V1) := by
  intro k'
  induction k' with
  | zero => exact (fun _ _ _ _ _ _ _ _ h => by cases h)
  | succ k' ih =>
    intro l0A l1A l2I l3I l4I l5I l6I V h
    rw [mX4_addBalance_go, if_pos rfl] at h
    unfold mX4_addBalance_b0 at h
    rcases mIf_some h with ⟨_, h⟩ | ⟨_, h⟩
    · obtain ⟨v2, V3, h1, h⟩ := mBW_some h
      have a1 : mAv (wX4_addBalance_0 l0A l1A) V V3 := mAv.tr mAv.rf (NX3_addTo h1) (fun i z => by unfold wX3_addTo at z; unfold wX4_addBalance_0; omega)
      obtain ⟨_, rfl⟩ := mRW h
      exact a1
    · obtain ⟨v7, _, h⟩ := mBN_some h
      rcases mIf_some h with ⟨_, h⟩ | ⟨_, h⟩
      · obtain ⟨v26, V27, h2, h⟩ := mBW_some h
        have a2 : mAv (wX4_addBalance_0 l0A l1A) V V27 := mAv.tr mAv.rf (NX3_addTo h2) (fun i z => by unfold wX3_addTo at z; unfold wX4_addBalance_0; omega)
        obtain ⟨v31, _, h⟩ := mBN_some h
        rcases mIf_some h with ⟨_, h⟩ | ⟨_, h⟩
        · obtain ⟨v38, V39, h3, h⟩ := mBW_some h
          have a3 : mAv (wX4_addBalance_0 l0A l1A) V V39 := mAv.tr a2 (NX3_addTo h3) (fun i z => by unfold wX3_addTo at z; unfold wX4_addBalance_0; omega)
          obtain ⟨x43, _, h⟩ := mLt_some h
          exact mAv.tr a3 (ih _ _ _ _ _ _ _ _ h) (fun i z => by unfold wX4_addBalance_0 at z; unfold wX4_addBalance_0; omega)
        · obtain ⟨x37, _, h⟩ := mLt_some h
          exact mAv.tr a2 (ih _ _ _ _ _ _ _ _ h) (fun i z => by unfold wX4_addBalance_0 at z; unfold wX4_addBalance_0; omega)
      · obtain ⟨v13, _, h⟩ := mBN_some h
        rcases mIf_some h with ⟨_, h⟩ | ⟨_, h⟩
        · obtain ⟨v20, V21, h4, h⟩ := mBW_some h
          have a4 : mAv (wX4_addBalance_0 l0A l1A) V V21 := mAv.tr mAv.rf (NX3_addTo h4) (fun i z => by unfold wX3_addTo at z; unfold wX4_addBalance_0; omega)
          obtain ⟨x25, _, h⟩ := mLt_some h
          exact mAv.tr a4 (ih _ _ _ _ _ _ _ _ h) (fun i z => by unfold wX4_addBalance_0 at z; unfold wX4_addBalance_0; omega)
        · obtain ⟨x19, _, h⟩ := mLt_some h
          exact mAv.tr mAv.rf (ih _ _ _ _ _ _ _ _ h) (fun i z => by unfold wX4_addBalance_0 at z; unfold wX4_addBalance_0; omega)
set_option maxHeartbeats 4000000 in
theorem NX4_addBalance {F : Nat} {V V1 : mV} {v : Unit} {l0A : Nat} {l1A : Nat} {l2I : Int32} {l3I : Int32} {l4I : Int32} (h : mX4_addBalance F l0A l1A l2I l3I l4I V = some (v, V1)) : mAv (wX4_addBalance l0A l1A) V V1 := by
  have ih := NX4_addBalance_go (F := F) (v := v) (V1 := V1) F
  unfold mX4_addBalance mX4_addBalance_s at h
  obtain ⟨x44, _, h⟩ := mLt_some h
  obtain ⟨v45, V46, h5, h⟩ := mBW_some h
  have a5 : mAv (wX4_addBalance l0A l1A) V V46 := mAv.tr mAv.rf (NX3_addItem h5) (fun i z => by unfold wX3_addItem at z; unfold wX4_addBalance; omega)
  exact mAv.tr a5 (ih _ _ _ _ _ _ _ _ h) (fun i z => by unfold wX4_addBalance_0 at z; unfold wX4_addBalance; omega)
def wX4_addSomeEdge (l0A : Nat) (l1A : Nat) (i : Nat) : Prop := i = l1A ∨ i = l1A + 1
def wX4_addSomeEdge_0 (l0A : Nat) (l1A : Nat) (i : Nat) : Prop := i = l1A ∨ i = l1A + 1
def wX4_addSomeEdge_1 (l0A : Nat) (l1A : Nat) (i : Nat) : Prop := i = l1A ∨ i = l1A + 1
set_option maxHeartbeats 4000000 in
theorem NX4_addSomeEdge_go {F : Nat} {v : Int32} {V1 : mV} : ∀ k' : Nat, (∀ (l0A : Nat) (l1A : Nat) (l2I : Int32) (l3I : Int32) (l4I : Int32) (l5I : Int32) (V : mV), mX4_addSomeEdge_go F k' 0 l0A l1A l2I l3I l4I l5I V = some (v, V1) → mAv (wX4_addSomeEdge_0 l0A l1A) V V1) ∧ (∀ (l0A : Nat) (l1A : Nat) (l2I : Int32) (l3I : Int32) (l4I : Int32) (l5I : Int32) (V : mV), mX4_addSomeEdge_go F k' 1 l0A l1A l2I l3I l4I l5I V = some (v, V1) → mAv (wX4_addSomeEdge_1 l0A l1A) V V1) := by
  intro k'
  induction k' with
  | zero => exact ⟨(fun _ _ _ _ _ _ _ h => by cases h), (fun _ _ _ _ _ _ _ h => by cases h)⟩
  | succ k' ih =>
    refine ⟨?_, ?_⟩
    · intro l0A l1A l2I l3I l4I l5I V h
      rw [mX4_addSomeEdge_go, if_pos rfl] at h
      unfold mX4_addSomeEdge_b0 at h
      rcases mIf_some h with ⟨_, h⟩ | ⟨_, h⟩
      · rcases mIf_some h with ⟨_, h⟩ | ⟨_, h⟩
        · obtain ⟨_, rfl⟩ := mRW h
          exact mAv.rf
        · rcases mIf_some h with ⟨_, h⟩ | ⟨_, h⟩
          · obtain ⟨_, rfl⟩ := mRW h
            exact mAv.rf
          · obtain ⟨_, rfl⟩ := mRW h
            exact mAv.rf
      · obtain ⟨v4, _, h⟩ := mBN_some h
        rcases mIf_some h with ⟨_, h⟩ | ⟨_, h⟩
        · exact mAv.tr mAv.rf (ih.2 _ _ _ _ _ _ _ h) (fun i z => by unfold wX4_addSomeEdge_1 at z; unfold wX4_addSomeEdge_0; omega)
        · obtain ⟨v10, _, h⟩ := mBN_some h
          rcases mIf_some h with ⟨_, h⟩ | ⟨_, h⟩
          · exact mAv.tr mAv.rf (ih.2 _ _ _ _ _ _ _ h) (fun i z => by unfold wX4_addSomeEdge_1 at z; unfold wX4_addSomeEdge_0; omega)
          · obtain ⟨x16, _, h⟩ := mLt_some h
            exact mAv.tr mAv.rf (ih.1 _ _ _ _ _ _ _ h) (fun i z => by unfold wX4_addSomeEdge_0 at z; unfold wX4_addSomeEdge_0; omega)
    · intro l0A l1A l2I l3I l4I l5I V h
      rw [mX4_addSomeEdge_go, if_neg (by decide), if_pos rfl] at h
      unfold mX4_addSomeEdge_b1 at h
      rcases mIf_some h with ⟨_, h⟩ | ⟨_, h⟩
      · obtain ⟨v28, V29, h1, h⟩ := mBW_some h
        have a1 : mAv (wX4_addSomeEdge_1 l0A l1A) V V29 := mAv.tr mAv.rf (NX3_addItem h1) (fun i z => by unfold wX3_addItem at z; unfold wX4_addSomeEdge_1; omega)
        rcases mIf_some h with ⟨_, h⟩ | ⟨_, h⟩
        · obtain ⟨x34, _, h⟩ := mLt_some h
          obtain ⟨x35, _, h⟩ := mLt_some h
          exact mAv.tr a1 (ih.1 _ _ _ _ _ _ _ h) (fun i z => by unfold wX4_addSomeEdge_0 at z; unfold wX4_addSomeEdge_1; omega)
        · obtain ⟨v36, V37, h2, h⟩ := mBW_some h
          have a2 : mAv (wX4_addSomeEdge_1 l0A l1A) V V37 := mAv.tr a1 (NX3_addTo h2) (fun i z => by unfold wX3_addTo at z; unfold wX4_addSomeEdge_1; omega)
          obtain ⟨x41, _, h⟩ := mLt_some h
          obtain ⟨x42, _, h⟩ := mLt_some h
          exact mAv.tr a2 (ih.1 _ _ _ _ _ _ _ h) (fun i z => by unfold wX4_addSomeEdge_0 at z; unfold wX4_addSomeEdge_1; omega)
      · rcases mIf_some h with ⟨_, h⟩ | ⟨_, h⟩
        · obtain ⟨x19, _, h⟩ := mLt_some h
          obtain ⟨x20, _, h⟩ := mLt_some h
          exact mAv.tr mAv.rf (ih.1 _ _ _ _ _ _ _ h) (fun i z => by unfold wX4_addSomeEdge_0 at z; unfold wX4_addSomeEdge_1; omega)
        · obtain ⟨v21, V22, h3, h⟩ := mBW_some h
          have a3 : mAv (wX4_addSomeEdge_1 l0A l1A) V V22 := mAv.tr mAv.rf (NX3_addTo h3) (fun i z => by unfold wX3_addTo at z; unfold wX4_addSomeEdge_1; omega)
          obtain ⟨x26, _, h⟩ := mLt_some h
          obtain ⟨x27, _, h⟩ := mLt_some h
          exact mAv.tr a3 (ih.1 _ _ _ _ _ _ _ h) (fun i z => by unfold wX4_addSomeEdge_0 at z; unfold wX4_addSomeEdge_1; omega)
set_option maxHeartbeats 4000000 in
theorem NX4_addSomeEdge {F : Nat} {V V1 : mV} {v : Int32} {l0A : Nat} {l1A : Nat} {l2I : Int32} (h : mX4_addSomeEdge F l0A l1A l2I V = some (v, V1)) : mAv (wX4_addSomeEdge l0A l1A) V V1 := by
  have ih := NX4_addSomeEdge_go (F := F) (v := v) (V1 := V1) F
  unfold mX4_addSomeEdge mX4_addSomeEdge_s at h
  obtain ⟨x43, _, h⟩ := mLt_some h
  exact mAv.tr mAv.rf (ih.1 _ _ _ _ _ _ _ h) (fun i z => by unfold wX4_addSomeEdge_0 at z; unfold wX4_addSomeEdge; omega)
def wX5_begin (i : Nat) : Prop := i = 4 ∨ (36 ≤ i ∧ i ≤ 51)
def wX5_begin_0 (i : Nat) : Prop := (36 ≤ i ∧ i ≤ 51)
def wX5_begin_1 (i : Nat) : Prop := (36 ≤ i ∧ i ≤ 50)
def wX5_begin_2 (i : Nat) : Prop := (36 ≤ i ∧ i ≤ 50)
set_option maxHeartbeats 4000000 in
theorem NX5_begin_go {F : Nat} {v : Unit} {V1 : mV} : ∀ k' : Nat, (∀ (l1I : Int32) (V : mV), mX5_begin_go F k' 0 l1I 0 V = some (v, V1) → mAv (wX5_begin_0) V V1) ∧ (∀ (l1I : Int32) (V : mV), mX5_begin_go F k' 1 l1I 0 V = some (v, V1) → mAv (wX5_begin_1) V V1) ∧ (∀ (l1I : Int32) (l2I : Int32) (V : mV), mX5_begin_go F k' 2 l1I l2I V = some (v, V1) → mAv (wX5_begin_2) V V1) := by
  intro k'
  induction k' with
  | zero => exact ⟨(fun _ _ h => by cases h), (fun _ _ h => by cases h), (fun _ _ _ h => by cases h)⟩
  | succ k' ih =>
    refine ⟨?_, ?_, ?_⟩
    · intro l1I V h
      rw [mX5_begin_go, if_pos rfl] at h
      unfold mX5_begin_b0 at h
      rcases mIf_some h with ⟨_, h⟩ | ⟨_, h⟩
      · exact mAv.tr mAv.rf (ih.2.1 _ _ h) (fun i z => by unfold wX5_begin_1 at z; unfold wX5_begin_0; omega)
      · obtain ⟨c1, h⟩ := mGd_some h
        obtain ⟨V3, eV3, h⟩ := mLt_some h
        have a2 : mAv (wX5_begin_0) V V3 := by rw [eV3]; exact mAv.I mAv.rf (by unfold wX5_begin_0; omega)
        obtain ⟨x4, _, h⟩ := mLt_some h
        exact mAv.tr a2 (ih.1 _ _ h) (fun i z => by unfold wX5_begin_0 at z; unfold wX5_begin_0; omega)
    · intro l1I V h
      rw [mX5_begin_go, if_neg (by decide), if_pos rfl] at h
      unfold mX5_begin_b1 at h
      rcases mIf_some h with ⟨_, h⟩ | ⟨_, h⟩
      · obtain ⟨_, rfl⟩ := mRW h
        exact mAv.rf
      · obtain ⟨c3, h⟩ := mGd_some h
        obtain ⟨V7, eV7, h⟩ := mLt_some h
        have a4 : mAv (wX5_begin_1) V V7 := by rw [eV7]; exact mAv.I mAv.rf (by unfold wX5_begin_1; omega)
        exact mAv.tr a4 (ih.2.2 _ _ _ h) (fun i z => by unfold wX5_begin_2 at z; unfold wX5_begin_1; omega)
    · intro l1I l2I V h
      rw [mX5_begin_go, if_neg (by decide), if_neg (by decide), if_pos rfl] at h
      unfold mX5_begin_b2 at h
      rcases mIf_some h with ⟨_, h⟩ | ⟨_, h⟩
      · obtain ⟨x9, _, h⟩ := mLt_some h
        exact mAv.tr mAv.rf (ih.2.1 _ _ h) (fun i z => by unfold wX5_begin_1 at z; unfold wX5_begin_2; omega)
      · obtain ⟨c5, h⟩ := mGd_some h
        obtain ⟨c6, h⟩ := mGd_some h
        obtain ⟨c7, h⟩ := mGd_some h
        obtain ⟨c8, h⟩ := mGd_some h
        obtain ⟨c9, h⟩ := mGd_some h
        obtain ⟨V17, eV17, h⟩ := mLt_some h
        have z10 := (Nat.lt_of_not_le (fun z => c5 (Or.inr z)))
        have a10 : mAv (wX5_begin_2) V V17 := by rw [eV17]; exact mAv.J mAv.rf (by unfold wX5_begin_2; omega)
        obtain ⟨x18, _, h⟩ := mLt_some h
        exact mAv.tr a10 (ih.2.2 _ _ _ h) (fun i z => by unfold wX5_begin_2 at z; unfold wX5_begin_2; omega)
set_option maxHeartbeats 4000000 in
theorem NX5_begin {F : Nat} {V V1 : mV} {v : Unit} (h : mX5_begin F V = some (v, V1)) : mAv (wX5_begin) V V1 := by
  have ih := NX5_begin_go (F := F) (v := v) (V1 := V1) F
  unfold mX5_begin mX5_begin_s at h
  obtain ⟨V19, eV19, h⟩ := mLt_some h
  have a11 : mAv (wX5_begin) V V19 := by rw [eV19]; exact mAv.G mAv.rf (by unfold wX5_begin; omega)
  obtain ⟨V20, eV20, h⟩ := mLt_some h
  have a12 : mAv (wX5_begin) V V20 := by rw [eV20]; exact mAv.F a11 (by unfold wX5_begin; omega)
  exact mAv.tr a12 (ih.1 _ _ h) (fun i z => by unfold wX5_begin_0 at z; unfold wX5_begin; omega)
def wX5_lockRising (i : Nat) : Prop := i = 4
def wX5_lockRising_0 (i : Nat) : Prop := i = 4
set_option maxHeartbeats 4000000 in
theorem NX5_lockRising_go {F : Nat} {v : Unit} {V1 : mV} : ∀ k' : Nat, (∀ (l1I : Int32) (l2I : Int32) (V : mV), mX5_lockRising_go F k' 0 l1I l2I V = some (v, V1) → mAv (wX5_lockRising_0) V V1) := by
  intro k'
  induction k' with
  | zero => exact (fun _ _ _ h => by cases h)
  | succ k' ih =>
    intro l1I l2I V h
    rw [mX5_lockRising_go, if_pos rfl] at h
    unfold mX5_lockRising_b0 at h
    rcases mIf_some h with ⟨_, h⟩ | ⟨_, h⟩
    · obtain ⟨_, rfl⟩ := mRW h
      exact mAv.rf
    · obtain ⟨c1, h⟩ := mGd_some h
      obtain ⟨c2, h⟩ := mGd_some h
      rcases mIf_some h with ⟨_, h⟩ | ⟨_, h⟩
      · obtain ⟨x6, _, h⟩ := mLt_some h
        exact mAv.tr mAv.rf (ih _ _ _ h) (fun i z => by unfold wX5_lockRising_0 at z; unfold wX5_lockRising_0; omega)
      · obtain ⟨c3, h⟩ := mGd_some h
        obtain ⟨V8, eV8, h⟩ := mLt_some h
        have a4 : mAv (wX5_lockRising_0) V V8 := by rw [eV8]; exact mAv.F mAv.rf (by unfold wX5_lockRising_0; omega)
        obtain ⟨x9, _, h⟩ := mLt_some h
        exact mAv.tr a4 (ih _ _ _ h) (fun i z => by unfold wX5_lockRising_0 at z; unfold wX5_lockRising_0; omega)
set_option maxHeartbeats 4000000 in
theorem NX5_lockRising {F : Nat} {V V1 : mV} {v : Unit} {l1I : Int32} (h : mX5_lockRising F l1I V = some (v, V1)) : mAv (wX5_lockRising) V V1 := by
  have ih := NX5_lockRising_go (F := F) (v := v) (V1 := V1) F
  unfold mX5_lockRising mX5_lockRising_s at h
  exact mAv.tr mAv.rf (ih _ _ _ h) (fun i z => by unfold wX5_lockRising_0 at z; unfold wX5_lockRising; omega)
def wX5_exchange (i : Nat) : Prop := i = 4 ∨ (36 ≤ i ∧ i ≤ 51)
def wX5_exchange_0 (i : Nat) : Prop := i = 4 ∨ (36 ≤ i ∧ i ≤ 51)
def wX5_exchange_1 (i : Nat) : Prop := i = 4 ∨ (36 ≤ i ∧ i ≤ 51)
set_option maxHeartbeats 4000000 in
theorem NX5_exchange_go {F : Nat} {v : Unit} {V1 : mV} : ∀ k' : Nat, (∀ (l1I : Int32) (l2I : Int32) (l3J : Int64) (l5I : Int32) (V : mV), mX5_exchange_go F k' 0 l1I l2I l3J l5I 0 0 V = some (v, V1) → mAv (wX5_exchange_0) V V1) ∧ (∀ (l1I : Int32) (l2I : Int32) (l3J : Int64) (l5I : Int32) (l6J : Int64) (l8I : Int32) (V : mV), mX5_exchange_go F k' 1 l1I l2I l3J l5I l6J l8I V = some (v, V1) → mAv (wX5_exchange_1) V V1) := by
  intro k'
  induction k' with
  | zero => exact ⟨(fun _ _ _ _ _ h => by cases h), (fun _ _ _ _ _ _ _ h => by cases h)⟩
  | succ k' ih =>
    refine ⟨?_, ?_⟩
    · intro l1I l2I l3J l5I V h
      rw [mX5_exchange_go, if_pos rfl] at h
      unfold mX5_exchange_b0 at h
      rcases mIf_some h with ⟨_, h⟩ | ⟨_, h⟩
      · obtain ⟨c1, h⟩ := mGd_some h
        obtain ⟨c2, h⟩ := mGd_some h
        obtain ⟨V5, eV5, h⟩ := mLt_some h
        have z3 := (Nat.lt_of_not_le (fun z => c1 (Or.inr z)))
        have a3 : mAv (wX5_exchange_0) V V5 := by rw [eV5]; exact mAv.J mAv.rf (by unfold wX5_exchange_0; omega)
        obtain ⟨V6, eV6, h⟩ := mLt_some h
        have a4 : mAv (wX5_exchange_0) V V6 := by rw [eV6]; exact mAv.G a3 (by unfold wX5_exchange_0; omega)
        obtain ⟨c5, h⟩ := mGd_some h
        obtain ⟨x8, _, h⟩ := mLt_some h
        obtain ⟨c6, h⟩ := mGd_some h
        obtain ⟨c7, h⟩ := mGd_some h
        obtain ⟨V11, eV11, h⟩ := mLt_some h
        have a8 : mAv (wX5_exchange_0) V V11 := by rw [eV11]; exact mAv.I a4 (by unfold wX5_exchange_0; omega)
        obtain ⟨c9, h⟩ := mGd_some h
        obtain ⟨V13, eV13, h⟩ := mLt_some h
        have a10 : mAv (wX5_exchange_0) V V13 := by rw [eV13]; exact mAv.I a8 (by unfold wX5_exchange_0; omega)
        rcases mIf_some h with ⟨_, h⟩ | ⟨_, h⟩
        · obtain ⟨_, rfl⟩ := mRW h
          exact a10
        · obtain ⟨V15, eV15, h⟩ := mLt_some h
          have a11 : mAv (wX5_exchange_0) V V15 := by rw [eV15]; exact mAv.F a10 (by unfold wX5_exchange_0; omega)
          obtain ⟨_, rfl⟩ := mRW h
          exact a11
      · obtain ⟨c12, h⟩ := mGd_some h
        obtain ⟨c13, h⟩ := mGd_some h
        obtain ⟨x19, _, h⟩ := mLt_some h
        rcases mIf_some h with ⟨_, h⟩ | ⟨_, h⟩
        · obtain ⟨x21, _, h⟩ := mLt_some h
          exact mAv.tr mAv.rf (ih.1 _ _ _ _ _ h) (fun i z => by unfold wX5_exchange_0 at z; unfold wX5_exchange_0; omega)
        · exact mAv.tr mAv.rf (ih.2 _ _ _ _ _ _ _ h) (fun i z => by unfold wX5_exchange_1 at z; unfold wX5_exchange_0; omega)
    · intro l1I l2I l3J l5I l6J l8I V h
      rw [mX5_exchange_go, if_neg (by decide), if_pos rfl] at h
      unfold mX5_exchange_b1 at h
      rcases mIf_some h with ⟨_, h⟩ | ⟨_, h⟩
      · obtain ⟨c14, h⟩ := mGd_some h
        obtain ⟨c15, h⟩ := mGd_some h
        obtain ⟨V26, eV26, h⟩ := mLt_some h
        have z16 := (Nat.lt_of_not_le (fun z => c14 (Or.inr z)))
        have a16 : mAv (wX5_exchange_1) V V26 := by rw [eV26]; exact mAv.J mAv.rf (by unfold wX5_exchange_1; omega)
        obtain ⟨x27, _, h⟩ := mLt_some h
        exact mAv.tr a16 (ih.1 _ _ _ _ _ h) (fun i z => by unfold wX5_exchange_0 at z; unfold wX5_exchange_1; omega)
      · obtain ⟨c17, h⟩ := mGd_some h
        obtain ⟨c18, h⟩ := mGd_some h
        obtain ⟨c19, h⟩ := mGd_some h
        obtain ⟨c20, h⟩ := mGd_some h
        obtain ⟨c21, h⟩ := mGd_some h
        obtain ⟨c22, h⟩ := mGd_some h
        obtain ⟨c23, h⟩ := mGd_some h
        obtain ⟨V38, eV38, h⟩ := mLt_some h
        have z24 := (Nat.lt_of_not_le (fun z => c18 (Or.inr z)))
        have a24 : mAv (wX5_exchange_1) V V38 := by rw [eV38]; exact mAv.J mAv.rf (by unfold wX5_exchange_1; omega)
        obtain ⟨x39, _, h⟩ := mLt_some h
        exact mAv.tr a24 (ih.2 _ _ _ _ _ _ _ h) (fun i z => by unfold wX5_exchange_1 at z; unfold wX5_exchange_1; omega)
set_option maxHeartbeats 4000000 in
theorem NX5_exchange {F : Nat} {V V1 : mV} {v : Unit} {l1I : Int32} {l2I : Int32} (h : mX5_exchange F l1I l2I V = some (v, V1)) : mAv (wX5_exchange) V V1 := by
  have ih := NX5_exchange_go (F := F) (v := v) (V1 := V1) F
  unfold mX5_exchange mX5_exchange_s at h
  obtain ⟨c25, h⟩ := mGd_some h
  obtain ⟨c26, h⟩ := mGd_some h
  obtain ⟨x43, _, h⟩ := mLt_some h
  rcases mIf_some h with ⟨_, h⟩ | ⟨_, h⟩
  · obtain ⟨_, rfl⟩ := mRW h
    exact mAv.rf
  · rcases mIf_some h with ⟨_, h⟩ | ⟨_, h⟩
    · exact mAv.tr mAv.rf (ih.1 _ _ _ _ _ h) (fun i z => by unfold wX5_exchange_0 at z; unfold wX5_exchange; omega)
    · obtain ⟨_, rfl⟩ := mRW h
      exact mAv.rf
def wX6_loadStates (l1A : Nat) (i : Nat) : Prop := i = 8 ∨ (84 ≤ i ∧ i ≤ 86)
def wX6_loadStates_0 (l1A : Nat) (i : Nat) : Prop := (84 ≤ i ∧ i ≤ 86)
def wX6_loadStates_1 (l1A : Nat) (s0A : Nat) (i : Nat) : Prop := (84 ≤ i ∧ i ≤ 86) ∨ i = s0A
set_option maxHeartbeats 4000000 in
theorem NX6_loadStates_go {F : Nat} {v : Unit} {V1 : mV} : ∀ k' : Nat, (∀ (l1A : Nat) (l2I : Int32) (V : mV), mX6_loadStates_go F k' 0 l1A l2I 0 0 0 0 V = some (v, V1) → mAv (wX6_loadStates_0 l1A) V V1) ∧ (∀ (l1A : Nat) (l2I : Int32) (l3I : Int32) (s0A : Nat) (s1I : Int32) (s2I : Int32) (V : mV), mX6_loadStates_go F k' 1 l1A l2I l3I s0A s1I s2I V = some (v, V1) → mAv (wX6_loadStates_1 l1A s0A) V V1) := by
  intro k'
  induction k' with
  | zero => exact ⟨(fun _ _ _ h => by cases h), (fun _ _ _ _ _ _ _ h => by cases h)⟩
  | succ k' ih =>
    refine ⟨?_, ?_⟩
    · intro l1A l2I V h
      rw [mX6_loadStates_go, if_pos rfl] at h
      unfold mX6_loadStates_b0 at h
      rcases mIf_some h with ⟨_, h⟩ | ⟨_, h⟩
      · obtain ⟨_, rfl⟩ := mRW h
        exact mAv.rf
      · rcases mIf_some h with ⟨_, h⟩ | ⟨_, h⟩
        · exact mAv.tr mAv.rf (ih.2 _ _ _ _ _ _ _ h) (fun i z => by unfold wX6_loadStates_1 at z; unfold wX6_loadStates_0; omega)
        · obtain ⟨v3, _, h⟩ := mBN_some h
          exact mAv.tr mAv.rf (ih.2 _ _ _ _ _ _ _ h) (fun i z => by unfold wX6_loadStates_1 at z; unfold wX6_loadStates_0; omega)
    · intro l1A l2I l3I s0A s1I s2I V h
      rw [mX6_loadStates_go, if_neg (by decide), if_pos rfl] at h
      unfold mX6_loadStates_b1 at h
      obtain ⟨c1, h⟩ := mGd_some h
      obtain ⟨V9, eV9, h⟩ := mLt_some h
      have a2 : mAv (wX6_loadStates_1 l1A s0A) V V9 := by rw [eV9]; exact mAv.I mAv.rf (by unfold wX6_loadStates_1; omega)
      rcases mIf_some h with ⟨_, h⟩ | ⟨_, h⟩
      · obtain ⟨c3, h⟩ := mGd_some h
        obtain ⟨V12, eV12, h⟩ := mLt_some h
        have a4 : mAv (wX6_loadStates_1 l1A s0A) V V12 := by rw [eV12]; exact mAv.I a2 (by unfold wX6_loadStates_1; omega)
        rcases mIf_some h with ⟨_, h⟩ | ⟨_, h⟩
        · obtain ⟨c5, h⟩ := mGd_some h
          obtain ⟨V15, eV15, h⟩ := mLt_some h
          have a6 : mAv (wX6_loadStates_1 l1A s0A) V V15 := by rw [eV15]; exact mAv.I a4 (by unfold wX6_loadStates_1; omega)
          obtain ⟨x16, _, h⟩ := mLt_some h
          exact mAv.tr a6 (ih.1 _ _ _ h) (fun i z => by unfold wX6_loadStates_0 at z; unfold wX6_loadStates_1; omega)
        · obtain ⟨v17, _, h⟩ := mBN_some h
          obtain ⟨c7, h⟩ := mGd_some h
          obtain ⟨V23, eV23, h⟩ := mLt_some h
          have a8 : mAv (wX6_loadStates_1 l1A s0A) V V23 := by rw [eV23]; exact mAv.I a4 (by unfold wX6_loadStates_1; omega)
          obtain ⟨x24, _, h⟩ := mLt_some h
          exact mAv.tr a8 (ih.1 _ _ _ h) (fun i z => by unfold wX6_loadStates_0 at z; unfold wX6_loadStates_1; omega)
      · obtain ⟨v25, _, h⟩ := mBN_some h
        obtain ⟨c9, h⟩ := mGd_some h
        obtain ⟨V31, eV31, h⟩ := mLt_some h
        have a10 : mAv (wX6_loadStates_1 l1A s0A) V V31 := by rw [eV31]; exact mAv.I a2 (by unfold wX6_loadStates_1; omega)
        rcases mIf_some h with ⟨_, h⟩ | ⟨_, h⟩
        · obtain ⟨c11, h⟩ := mGd_some h
          obtain ⟨V34, eV34, h⟩ := mLt_some h
          have a12 : mAv (wX6_loadStates_1 l1A s0A) V V34 := by rw [eV34]; exact mAv.I a10 (by unfold wX6_loadStates_1; omega)
          obtain ⟨x35, _, h⟩ := mLt_some h
          exact mAv.tr a12 (ih.1 _ _ _ h) (fun i z => by unfold wX6_loadStates_0 at z; unfold wX6_loadStates_1; omega)
        · obtain ⟨v36, _, h⟩ := mBN_some h
          obtain ⟨c13, h⟩ := mGd_some h
          obtain ⟨V42, eV42, h⟩ := mLt_some h
          have a14 : mAv (wX6_loadStates_1 l1A s0A) V V42 := by rw [eV42]; exact mAv.I a10 (by unfold wX6_loadStates_1; omega)
          obtain ⟨x43, _, h⟩ := mLt_some h
          exact mAv.tr a14 (ih.1 _ _ _ h) (fun i z => by unfold wX6_loadStates_0 at z; unfold wX6_loadStates_1; omega)
set_option maxHeartbeats 4000000 in
theorem NX6_loadStates {F : Nat} {V V1 : mV} {v : Unit} {l1A : Nat} (h : mX6_loadStates F l1A V = some (v, V1)) : mAv (wX6_loadStates l1A) V V1 := by
  have ih := NX6_loadStates_go (F := F) (v := v) (V1 := V1) F
  unfold mX6_loadStates mX6_loadStates_s at h
  obtain ⟨V44, eV44, h⟩ := mLt_some h
  have a15 : mAv (wX6_loadStates l1A) V V44 := by rw [eV44]; exact mAv.F mAv.rf (by unfold wX6_loadStates; omega)
  exact mAv.tr a15 (ih.1 _ _ _ h) (fun i z => by unfold wX6_loadStates_0 at z; unfold wX6_loadStates; omega)
def wX6_loadNodes (l1A : Nat) (i : Nat) : Prop := i = 8 ∨ (88 ≤ i ∧ i ≤ 90)
def wX6_loadNodes_0 (l1A : Nat) (i : Nat) : Prop := (88 ≤ i ∧ i ≤ 90)
def wX6_loadNodes_1 (l1A : Nat) (s0A : Nat) (i : Nat) : Prop := (88 ≤ i ∧ i ≤ 90) ∨ i = s0A
def wX6_loadNodes_2 (l1A : Nat) (i : Nat) : Prop := (88 ≤ i ∧ i ≤ 90)
set_option maxHeartbeats 4000000 in
theorem NX6_loadNodes_go {F : Nat} {v : Unit} {V1 : mV} : ∀ k' : Nat, (∀ (l1A : Nat) (l2I : Int32) (V : mV), mX6_loadNodes_go F k' 0 l1A l2I 0 0 0 0 0 V = some (v, V1) → mAv (wX6_loadNodes_0 l1A) V V1) ∧ (∀ (l1A : Nat) (l2I : Int32) (l3I : Int32) (s0A : Nat) (s1I : Int32) (s2I : Int32) (V : mV), mX6_loadNodes_go F k' 1 l1A l2I l3I 0 s0A s1I s2I V = some (v, V1) → mAv (wX6_loadNodes_1 l1A s0A) V V1) ∧ (∀ (l1A : Nat) (l2I : Int32) (l3I : Int32) (l4I : Int32) (V : mV), mX6_loadNodes_go F k' 2 l1A l2I l3I l4I 0 0 0 V = some (v, V1) → mAv (wX6_loadNodes_2 l1A) V V1) := by
  intro k'
  induction k' with
  | zero => exact ⟨(fun _ _ _ h => by cases h), (fun _ _ _ _ _ _ _ h => by cases h), (fun _ _ _ _ _ h => by cases h)⟩
  | succ k' ih =>
    refine ⟨?_, ?_, ?_⟩
    · intro l1A l2I V h
      rw [mX6_loadNodes_go, if_pos rfl] at h
      unfold mX6_loadNodes_b0 at h
      rcases mIf_some h with ⟨_, h⟩ | ⟨_, h⟩
      · obtain ⟨_, rfl⟩ := mRW h
        exact mAv.rf
      · rcases mIf_some h with ⟨_, h⟩ | ⟨_, h⟩
        · exact mAv.tr mAv.rf (ih.2.1 _ _ _ _ _ _ _ h) (fun i z => by unfold wX6_loadNodes_1 at z; unfold wX6_loadNodes_0; omega)
        · obtain ⟨v3, _, h⟩ := mBN_some h
          exact mAv.tr mAv.rf (ih.2.1 _ _ _ _ _ _ _ h) (fun i z => by unfold wX6_loadNodes_1 at z; unfold wX6_loadNodes_0; omega)
    · intro l1A l2I l3I s0A s1I s2I V h
      rw [mX6_loadNodes_go, if_neg (by decide), if_pos rfl] at h
      unfold mX6_loadNodes_b1 at h
      obtain ⟨c1, h⟩ := mGd_some h
      obtain ⟨V9, eV9, h⟩ := mLt_some h
      have a2 : mAv (wX6_loadNodes_1 l1A s0A) V V9 := by rw [eV9]; exact mAv.I mAv.rf (by unfold wX6_loadNodes_1; omega)
      rcases mIf_some h with ⟨_, h⟩ | ⟨_, h⟩
      · obtain ⟨c3, h⟩ := mGd_some h
        obtain ⟨V12, eV12, h⟩ := mLt_some h
        have a4 : mAv (wX6_loadNodes_1 l1A s0A) V V12 := by rw [eV12]; exact mAv.I a2 (by unfold wX6_loadNodes_1; omega)
        rcases mIf_some h with ⟨_, h⟩ | ⟨_, h⟩
        · obtain ⟨c5, h⟩ := mGd_some h
          obtain ⟨V15, eV15, h⟩ := mLt_some h
          have a6 : mAv (wX6_loadNodes_1 l1A s0A) V V15 := by rw [eV15]; exact mAv.I a4 (by unfold wX6_loadNodes_1; omega)
          exact mAv.tr a6 (ih.2.2 _ _ _ _ _ h) (fun i z => by unfold wX6_loadNodes_2 at z; unfold wX6_loadNodes_1; omega)
        · obtain ⟨c7, h⟩ := mGd_some h
          obtain ⟨V17, eV17, h⟩ := mLt_some h
          have a8 : mAv (wX6_loadNodes_1 l1A s0A) V V17 := by rw [eV17]; exact mAv.I a4 (by unfold wX6_loadNodes_1; omega)
          exact mAv.tr a8 (ih.2.2 _ _ _ _ _ h) (fun i z => by unfold wX6_loadNodes_2 at z; unfold wX6_loadNodes_1; omega)
      · obtain ⟨v18, _, h⟩ := mBN_some h
        obtain ⟨c9, h⟩ := mGd_some h
        obtain ⟨V24, eV24, h⟩ := mLt_some h
        have a10 : mAv (wX6_loadNodes_1 l1A s0A) V V24 := by rw [eV24]; exact mAv.I a2 (by unfold wX6_loadNodes_1; omega)
        rcases mIf_some h with ⟨_, h⟩ | ⟨_, h⟩
        · obtain ⟨c11, h⟩ := mGd_some h
          obtain ⟨V27, eV27, h⟩ := mLt_some h
          have a12 : mAv (wX6_loadNodes_1 l1A s0A) V V27 := by rw [eV27]; exact mAv.I a10 (by unfold wX6_loadNodes_1; omega)
          exact mAv.tr a12 (ih.2.2 _ _ _ _ _ h) (fun i z => by unfold wX6_loadNodes_2 at z; unfold wX6_loadNodes_1; omega)
        · obtain ⟨c13, h⟩ := mGd_some h
          obtain ⟨V29, eV29, h⟩ := mLt_some h
          have a14 : mAv (wX6_loadNodes_1 l1A s0A) V V29 := by rw [eV29]; exact mAv.I a10 (by unfold wX6_loadNodes_1; omega)
          exact mAv.tr a14 (ih.2.2 _ _ _ _ _ h) (fun i z => by unfold wX6_loadNodes_2 at z; unfold wX6_loadNodes_1; omega)
    · intro l1A l2I l3I l4I V h
      rw [mX6_loadNodes_go, if_neg (by decide), if_neg (by decide), if_pos rfl] at h
      unfold mX6_loadNodes_b2 at h
      rcases mIf_some h with ⟨_, h⟩ | ⟨_, h⟩
      · obtain ⟨x31, _, h⟩ := mLt_some h
        exact mAv.tr mAv.rf (ih.1 _ _ _ h) (fun i z => by unfold wX6_loadNodes_0 at z; unfold wX6_loadNodes_2; omega)
      · rcases mIf_some h with ⟨_, h⟩ | ⟨_, h⟩
        · obtain ⟨x33, _, h⟩ := mLt_some h
          exact mAv.tr mAv.rf (ih.1 _ _ _ h) (fun i z => by unfold wX6_loadNodes_0 at z; unfold wX6_loadNodes_2; omega)
        · obtain ⟨v34, _, h⟩ := mBN_some h
          rcases mIf_some h with ⟨_, h⟩ | ⟨_, h⟩
          · obtain ⟨x40, _, h⟩ := mLt_some h
            exact mAv.tr mAv.rf (ih.2.2 _ _ _ _ _ h) (fun i z => by unfold wX6_loadNodes_2 at z; unfold wX6_loadNodes_2; omega)
          · obtain ⟨c15, h⟩ := mGd_some h
            obtain ⟨v42, _, h⟩ := mBN_some h
            obtain ⟨c16, h⟩ := mGd_some h
            obtain ⟨V48, eV48, h⟩ := mLt_some h
            have a17 : mAv (wX6_loadNodes_2 l1A) V V48 := by rw [eV48]; exact mAv.I mAv.rf (by unfold wX6_loadNodes_2; omega)
            obtain ⟨x49, _, h⟩ := mLt_some h
            exact mAv.tr a17 (ih.2.2 _ _ _ _ _ h) (fun i z => by unfold wX6_loadNodes_2 at z; unfold wX6_loadNodes_2; omega)
set_option maxHeartbeats 4000000 in
theorem NX6_loadNodes {F : Nat} {V V1 : mV} {v : Unit} {l1A : Nat} (h : mX6_loadNodes F l1A V = some (v, V1)) : mAv (wX6_loadNodes l1A) V V1 := by
  have ih := NX6_loadNodes_go (F := F) (v := v) (V1 := V1) F
  unfold mX6_loadNodes mX6_loadNodes_s at h
  obtain ⟨V50, eV50, h⟩ := mLt_some h
  have a18 : mAv (wX6_loadNodes l1A) V V50 := by rw [eV50]; exact mAv.F mAv.rf (by unfold wX6_loadNodes; omega)
  exact mAv.tr a18 (ih.1 _ _ _ h) (fun i z => by unfold wX6_loadNodes_0 at z; unfold wX6_loadNodes; omega)
def wX7_loadFlows (l1A : Nat) (i : Nat) : Prop := i = 2 ∨ (21 ≤ i ∧ i ≤ 23)
def wX7_loadFlows_0 (l1A : Nat) (i : Nat) : Prop := (21 ≤ i ∧ i ≤ 23)
set_option maxHeartbeats 4000000 in
theorem NX7_loadFlows_go {F : Nat} {v : Unit} {V1 : mV} : ∀ k' : Nat, (∀ (l1A : Nat) (l2I : Int32) (V : mV), mX7_loadFlows_go F k' 0 l1A l2I V = some (v, V1) → mAv (wX7_loadFlows_0 l1A) V V1) := by
  intro k'
  induction k' with
  | zero => exact (fun _ _ _ h => by cases h)
  | succ k' ih =>
    intro l1A l2I V h
    rw [mX7_loadFlows_go, if_pos rfl] at h
    unfold mX7_loadFlows_b0 at h
    rcases mIf_some h with ⟨_, h⟩ | ⟨_, h⟩
    · obtain ⟨_, rfl⟩ := mRW h
      exact mAv.rf
    · obtain ⟨v2, _, h⟩ := mBN_some h
      obtain ⟨c1, h⟩ := mGd_some h
      obtain ⟨V8, eV8, h⟩ := mLt_some h
      have a2 : mAv (wX7_loadFlows_0 l1A) V V8 := by rw [eV8]; exact mAv.I mAv.rf (by unfold wX7_loadFlows_0; omega)
      obtain ⟨v9, _, h⟩ := mBN_some h
      obtain ⟨c3, h⟩ := mGd_some h
      obtain ⟨V15, eV15, h⟩ := mLt_some h
      have a4 : mAv (wX7_loadFlows_0 l1A) V V15 := by rw [eV15]; exact mAv.I a2 (by unfold wX7_loadFlows_0; omega)
      obtain ⟨v16, _, h⟩ := mBN_some h
      obtain ⟨c5, h⟩ := mGd_some h
      obtain ⟨V22, eV22, h⟩ := mLt_some h
      have a6 : mAv (wX7_loadFlows_0 l1A) V V22 := by rw [eV22]; exact mAv.I a4 (by unfold wX7_loadFlows_0; omega)
      obtain ⟨x23, _, h⟩ := mLt_some h
      exact mAv.tr a6 (ih _ _ _ h) (fun i z => by unfold wX7_loadFlows_0 at z; unfold wX7_loadFlows_0; omega)
set_option maxHeartbeats 4000000 in
theorem NX7_loadFlows {F : Nat} {V V1 : mV} {v : Unit} {l1A : Nat} (h : mX7_loadFlows F l1A V = some (v, V1)) : mAv (wX7_loadFlows l1A) V V1 := by
  have ih := NX7_loadFlows_go (F := F) (v := v) (V1 := V1) F
  unfold mX7_loadFlows mX7_loadFlows_s at h
  obtain ⟨V24, eV24, h⟩ := mLt_some h
  have a7 : mAv (wX7_loadFlows l1A) V V24 := by rw [eV24]; exact mAv.F mAv.rf (by unfold wX7_loadFlows; omega)
  obtain ⟨V25, eV25, h⟩ := mLt_some h
  have a8 : mAv (wX7_loadFlows l1A) V V25 := by rw [eV25]; exact mAv.F a7 (by unfold wX7_loadFlows; omega)
  exact mAv.tr a8 (ih _ _ _ h) (fun i z => by unfold wX7_loadFlows_0 at z; unfold wX7_loadFlows; omega)
def wX7_goBack (i : Nat) : Prop := i = 24
set_option maxHeartbeats 4000000 in
theorem NX7_goBack {F : Nat} {V V1 : mV} {v : Int32} {l1I : Int32} (h : mX7_goBack F l1I V = some (v, V1)) : mAv (wX7_goBack) V V1 := by
  unfold mX7_goBack at h
  obtain ⟨c1, h⟩ := mGd_some h
  obtain ⟨x2, _, h⟩ := mLt_some h
  obtain ⟨c2, h⟩ := mGd_some h
  rcases mIf_some h with ⟨_, h⟩ | ⟨_, h⟩
  · obtain ⟨c3, h⟩ := mGd_some h
    obtain ⟨c4, h⟩ := mGd_some h
    obtain ⟨V11, eV11, h⟩ := mLt_some h
    have a5 : mAv (wX7_goBack) V V11 := by rw [eV11]; exact mAv.I mAv.rf (by unfold wX7_goBack; omega)
    obtain ⟨c6, h⟩ := mGd_some h
    obtain ⟨_, rfl⟩ := mRW h
    exact a5
  · obtain ⟨c7, h⟩ := mGd_some h
    obtain ⟨c8, h⟩ := mGd_some h
    obtain ⟨V7, eV7, h⟩ := mLt_some h
    have a9 : mAv (wX7_goBack) V V7 := by rw [eV7]; exact mAv.I mAv.rf (by unfold wX7_goBack; omega)
    obtain ⟨c10, h⟩ := mGd_some h
    obtain ⟨_, rfl⟩ := mRW h
    exact a9
end
