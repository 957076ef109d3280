/-! WHAT EACH METHOD LEAVES ALONE: X8_takeFromOthers, X8_movePoint, X8_removeBasis, X9_clear, X9_set, X10_loadPoints, X10_addNext, X11_person, X11_wipe, X11_entryAt, X11_testPlace, X11_testRange, X11_tellNumbers, X11_remember, X11_removeClaim, J7_fill_d0a16, J7_fill_53178, X0_begin, X1_goBack, X2_followWay, X3_fillNear, X4_carriesFlows, X4_carriesEdges, X5_clearTable. -/
section
def wX8_takeFromOthers (i : Nat) : Prop := (56 ≤ i ∧ i ≤ 60)
def wX8_takeFromOthers_0 (i : Nat) : Prop := (56 ≤ i ∧ i ≤ 60)
def wX8_takeFromOthers_1 (i : Nat) : Prop := (56 ≤ i ∧ i ≤ 60)
set_option maxHeartbeats 4000000 in
theorem NX8_takeFromOthers_go {F : Nat} {v : Unit} {V1 : mV} : ∀ k' : Nat, (∀ (l1I : Int32) (l2I : Int32) (V : mV), mX8_takeFromOthers_go F k' 0 l1I l2I 0 0 V = some (v, V1) → mAv (wX8_takeFromOthers_0) V V1) ∧ (∀ (l1I : Int32) (l2I : Int32) (l3J : Int64) (l5I : Int32) (V : mV), mX8_takeFromOthers_go F k' 1 l1I l2I l3J l5I V = some (v, V1) → mAv (wX8_takeFromOthers_1) V V1) := by
  intro k'
  induction k' with
  | zero => exact ⟨(fun _ _ _ h => by cases h), (fun _ _ _ _ _ h => by cases h)⟩
  | succ k' ih =>
    refine ⟨?_, ?_⟩
    · intro l1I l2I V h
      rw [mX8_takeFromOthers_go, if_pos rfl] at h
      unfold mX8_takeFromOthers_b0 at h
      rcases mIf_some h with ⟨_, h⟩ | ⟨_, h⟩
      · obtain ⟨_, rfl⟩ := mRW h
        exact mAv.rf
      · rcases mIf_some h with ⟨_, h⟩ | ⟨_, h⟩
        · obtain ⟨x3, _, h⟩ := mLt_some h
          exact mAv.tr mAv.rf (ih.1 _ _ _ h) (fun i z => by unfold wX8_takeFromOthers_0 at z; unfold wX8_takeFromOthers_0; omega)
        · obtain ⟨c1, h⟩ := mGd_some h
          rcases mIf_some h with ⟨_, h⟩ | ⟨_, h⟩
          · obtain ⟨x6, _, h⟩ := mLt_some h
            exact mAv.tr mAv.rf (ih.1 _ _ _ h) (fun i z => by unfold wX8_takeFromOthers_0 at z; unfold wX8_takeFromOthers_0; omega)
          · obtain ⟨c2, h⟩ := mGd_some h
            obtain ⟨c3, h⟩ := mGd_some h
            obtain ⟨c4, h⟩ := mGd_some h
            obtain ⟨x10, _, h⟩ := mLt_some h
            obtain ⟨c5, h⟩ := mGd_some h
            obtain ⟨c6, h⟩ := mGd_some h
            obtain ⟨c7, h⟩ := mGd_some h
            obtain ⟨V14, eV14, h⟩ := mLt_some h
            have a8 : mAv (wX8_takeFromOthers_0) V V14 := by rw [eV14]; exact mAv.J mAv.rf (by unfold wX8_takeFromOthers_0; omega)
            exact mAv.tr a8 (ih.2 _ _ _ _ _ h) (fun i z => by unfold wX8_takeFromOthers_1 at z; unfold wX8_takeFromOthers_0; omega)
    · intro l1I l2I l3J l5I V h
      rw [mX8_takeFromOthers_go, if_neg (by decide), if_pos rfl] at h
      unfold mX8_takeFromOthers_b1 at h
      rcases mIf_some h with ⟨_, h⟩ | ⟨_, h⟩
      · obtain ⟨x16, _, h⟩ := mLt_some h
        exact mAv.tr mAv.rf (ih.1 _ _ _ h) (fun i z => by unfold wX8_takeFromOthers_0 at z; unfold wX8_takeFromOthers_1; omega)
      · obtain ⟨c9, h⟩ := mGd_some h
        obtain ⟨c10, h⟩ := mGd_some h
        obtain ⟨c11, h⟩ := mGd_some h
        obtain ⟨c12, h⟩ := mGd_some h
        obtain ⟨c13, h⟩ := mGd_some h
        obtain ⟨V24, eV24, h⟩ := mLt_some h
        have z14 := (Nat.lt_of_not_le (fun z => c9 (Or.inr z)))
        have a14 : mAv (wX8_takeFromOthers_1) V V24 := by rw [eV24]; exact mAv.J mAv.rf (by unfold wX8_takeFromOthers_1; omega)
        obtain ⟨x25, _, h⟩ := mLt_some h
        exact mAv.tr a14 (ih.2 _ _ _ _ _ h) (fun i z => by unfold wX8_takeFromOthers_1 at z; unfold wX8_takeFromOthers_1; omega)
set_option maxHeartbeats 4000000 in
theorem NX8_takeFromOthers {F : Nat} {V V1 : mV} {v : Unit} {l1I : Int32} (h : mX8_takeFromOthers F l1I V = some (v, V1)) : mAv (wX8_takeFromOthers) V V1 := by
  have ih := NX8_takeFromOthers_go (F := F) (v := v) (V1 := V1) F
  unfold mX8_takeFromOthers mX8_takeFromOthers_s at h
  exact mAv.tr mAv.rf (ih.1 _ _ _ h) (fun i z => by unfold wX8_takeFromOthers_0 at z; unfold wX8_takeFromOthers; omega)
def wX8_movePoint (i : Nat) : Prop := i = 54
def wX8_movePoint_0 (i : Nat) : Prop := i = 54
set_option maxHeartbeats 4000000 in
theorem NX8_movePoint_go {F : Nat} {v : Unit} {V1 : mV} : ∀ k' : Nat, (∀ (l1I : Int32) (l2J : Int64) (l4I : Int32) (V : mV), mX8_movePoint_go F k' 0 l1I l2J l4I V = some (v, V1) → mAv (wX8_movePoint_0) V V1) := by
  intro k'
  induction k' with
  | zero => exact (fun _ _ _ _ h => by cases h)
  | succ k' ih =>
    intro l1I l2J l4I V h
    rw [mX8_movePoint_go, if_pos rfl] at h
    unfold mX8_movePoint_b0 at h
    rcases mIf_some h with ⟨_, h⟩ | ⟨_, h⟩
    · obtain ⟨_, rfl⟩ := mRW h
      exact mAv.rf
    · obtain ⟨c1, h⟩ := mGd_some h
      obtain ⟨c2, h⟩ := mGd_some h
      obtain ⟨c3, h⟩ := mGd_some h
      obtain ⟨c4, h⟩ := mGd_some h
      obtain ⟨V7, eV7, h⟩ := mLt_some h
      have a5 : mAv (wX8_movePoint_0) V V7 := by rw [eV7]; exact mAv.J mAv.rf (by unfold wX8_movePoint_0; omega)
      obtain ⟨x8, _, h⟩ := mLt_some h
      exact mAv.tr a5 (ih _ _ _ _ h) (fun i z => by unfold wX8_movePoint_0 at z; unfold wX8_movePoint_0; omega)
set_option maxHeartbeats 4000000 in
theorem NX8_movePoint {F : Nat} {V V1 : mV} {v : Unit} {l1I : Int32} {l2J : Int64} (h : mX8_movePoint F l1I l2J V = some (v, V1)) : mAv (wX8_movePoint) V V1 := by
  have ih := NX8_movePoint_go (F := F) (v := v) (V1 := V1) F
  unfold mX8_movePoint mX8_movePoint_s at h
  exact mAv.tr mAv.rf (ih _ _ _ _ h) (fun i z => by unfold wX8_movePoint_0 at z; unfold wX8_movePoint; omega)
def wX8_removeBasis (i : Nat) : Prop := i = 6 ∨ (56 ≤ i ∧ i ≤ 59)
def wX8_removeBasis_0 (i : Nat) : Prop := (56 ≤ i ∧ i ≤ 59)
set_option maxHeartbeats 4000000 in
theorem NX8_removeBasis_go {F : Nat} {v : Unit} {V1 : mV} : ∀ k' : Nat, (∀ (l1I : Int32) (l2I : Int32) (V : mV), mX8_removeBasis_go F k' 0 l1I l2I V = some (v, V1) → mAv (wX8_removeBasis_0) V V1) := by
  intro k'
  induction k' with
  | zero => exact (fun _ _ _ h => by cases h)
  | succ k' ih =>
    intro l1I l2I V h
    rw [mX8_removeBasis_go, if_pos rfl] at h
    unfold mX8_removeBasis_b0 at h
    rcases mIf_some h with ⟨_, h⟩ | ⟨_, h⟩
    · obtain ⟨_, rfl⟩ := mRW h
      exact mAv.rf
    · obtain ⟨c1, h⟩ := mGd_some h
      obtain ⟨c2, h⟩ := mGd_some h
      obtain ⟨c3, h⟩ := mGd_some h
      obtain ⟨c4, h⟩ := mGd_some h
      obtain ⟨V8, eV8, h⟩ := mLt_some h
      have z5 := (Nat.lt_of_not_le (fun z => c1 (Or.inr z)))
      have a5 : mAv (wX8_removeBasis_0) V V8 := by rw [eV8]; exact mAv.J mAv.rf (by unfold wX8_removeBasis_0; omega)
      obtain ⟨x9, _, h⟩ := mLt_some h
      exact mAv.tr a5 (ih _ _ _ h) (fun i z => by unfold wX8_removeBasis_0 at z; unfold wX8_removeBasis_0; omega)
set_option maxHeartbeats 4000000 in
theorem NX8_removeBasis {F : Nat} {V V1 : mV} {v : Unit} {l1I : Int32} (h : mX8_removeBasis F l1I V = some (v, V1)) : mAv (wX8_removeBasis) V V1 := by
  have ih := NX8_removeBasis_go (F := F) (v := v) (V1 := V1) F
  unfold mX8_removeBasis mX8_removeBasis_s at h
  obtain ⟨V10, eV10, h⟩ := mLt_some h
  have a6 : mAv (wX8_removeBasis) V V10 := by rw [eV10]; exact mAv.F mAv.rf (by unfold wX8_removeBasis; omega)
  exact mAv.tr a6 (ih _ _ _ h) (fun i z => by unfold wX8_removeBasis_0 at z; unfold wX8_removeBasis; omega)
def wX9_clear (l0A : Nat) (i : Nat) : Prop := i = l0A
set_option maxHeartbeats 4000000 in
theorem NX9_clear {F : Nat} {V V1 : mV} {v : Unit} {l0A : Nat} (h : mX9_clear F l0A V = some (v, V1)) : mAv (wX9_clear l0A) V V1 := by
  unfold mX9_clear at h
  obtain ⟨V1, eV1, h⟩ := mLt_some h
  have a1 : mAv (wX9_clear l0A) V V1 := by rw [eV1]; exact mAv.F mAv.rf (by unfold wX9_clear; omega)
  obtain ⟨_, rfl⟩ := mRW h
  exact a1
def wX9_set (l0A : Nat) (i : Nat) : Prop := i = l0A + 1
set_option maxHeartbeats 4000000 in
theorem NX9_set {F : Nat} {Ln : Nat → Nat} {V V1 : mV} {v : Unit} {l0A : Nat} {l1I : Int32} {l2I : Int32} (h : mX9_set F Ln l0A l1I l2I V = some (v, V1)) : mAv (wX9_set l0A) V V1 := by
  unfold mX9_set at h
  rcases mIf_some h with ⟨_, h⟩ | ⟨_, h⟩
  · obtain ⟨_, rfl⟩ := mRW h
    exact mAv.rf
  · rcases mIf_some h with ⟨_, h⟩ | ⟨_, h⟩
    · obtain ⟨_, rfl⟩ := mRW h
      exact mAv.rf
    · obtain ⟨c1, h⟩ := mGd_some h
      obtain ⟨V4, eV4, h⟩ := mLt_some h
      have a2 : mAv (wX9_set l0A) V V4 := by rw [eV4]; exact mAv.I mAv.rf (by unfold wX9_set; omega)
      obtain ⟨_, rfl⟩ := mRW h
      exact a2
def wX10_loadPoints (l0A : Nat) (l2A : Nat) (i : Nat) : Prop := i = l2A
def wX10_loadPoints_0 (l0A : Nat) (l2A : Nat) (i : Nat) : Prop := i = l2A
set_option maxHeartbeats 4000000 in
theorem NX10_loadPoints_go {F : Nat} {v : Unit} {V1 : mV} : ∀ k' : Nat, (∀ (l0A : Nat) (l1I : Int32) (l2A : Nat) (l3I : Int32) (l4I : Int32) (V : mV), mX10_loadPoints_go F k' 0 l0A l1I l2A l3I l4I V = some (v, V1) → mAv (wX10_loadPoints_0 l0A l2A) V V1) := by
  intro k'
  induction k' with
  | zero => exact (fun _ _ _ _ _ _ h => by cases h)
  | succ k' ih =>
    intro l0A l1I l2A l3I l4I V h
    rw [mX10_loadPoints_go, if_pos rfl] at h
    unfold mX10_loadPoints_b0 at h
    rcases mIf_some h with ⟨_, h⟩ | ⟨_, h⟩
    · rcases mIf_some h with ⟨_, h⟩ | ⟨_, h⟩
      · obtain ⟨c1, h⟩ := mGd_some h
        obtain ⟨V4, eV4, h⟩ := mLt_some h
        have a2 : mAv (wX10_loadPoints_0 l0A l2A) V V4 := by rw [eV4]; exact mAv.I mAv.rf (by unfold wX10_loadPoints_0; omega)
        obtain ⟨_, rfl⟩ := mRW h
        exact a2
      · obtain ⟨_, rfl⟩ := mRW h
        exact mAv.rf
    · rcases mIf_some h with ⟨_, h⟩ | ⟨_, h⟩
      · rcases mIf_some h with ⟨_, h⟩ | ⟨_, h⟩
        · obtain ⟨c3, h⟩ := mGd_some h
          obtain ⟨V8, eV8, h⟩ := mLt_some h
          have a4 : mAv (wX10_loadPoints_0 l0A l2A) V V8 := by rw [eV8]; exact mAv.I mAv.rf (by unfold wX10_loadPoints_0; omega)
          obtain ⟨_, rfl⟩ := mRW h
          exact a4
        · obtain ⟨_, rfl⟩ := mRW h
          exact mAv.rf
      · obtain ⟨v9, _, h⟩ := mBN_some h
        obtain ⟨c5, h⟩ := mGd_some h
        obtain ⟨V15, eV15, h⟩ := mLt_some h
        have a6 : mAv (wX10_loadPoints_0 l0A l2A) V V15 := by rw [eV15]; exact mAv.I mAv.rf (by unfold wX10_loadPoints_0; omega)
        obtain ⟨c7, h⟩ := mGd_some h
        obtain ⟨x17, _, h⟩ := mLt_some h
        obtain ⟨x18, _, h⟩ := mLt_some h
        exact mAv.tr a6 (ih _ _ _ _ _ _ h) (fun i z => by unfold wX10_loadPoints_0 at z; unfold wX10_loadPoints_0; omega)
set_option maxHeartbeats 4000000 in
theorem NX10_loadPoints {F : Nat} {V V1 : mV} {v : Unit} {l0A : Nat} {l1I : Int32} {l2A : Nat} (h : mX10_loadPoints F l0A l1I l2A V = some (v, V1)) : mAv (wX10_loadPoints l0A l2A) V V1 := by
  have ih := NX10_loadPoints_go (F := F) (v := v) (V1 := V1) F
  unfold mX10_loadPoints mX10_loadPoints_s at h
  exact mAv.tr mAv.rf (ih _ _ _ _ _ _ h) (fun i z => by unfold wX10_loadPoints_0 at z; unfold wX10_loadPoints; omega)
def wX10_addNext (i : Nat) : Prop := i = 7 ∨ i = 83
set_option maxHeartbeats 4000000 in
theorem NX10_addNext {F : Nat} {V V1 : mV} {v : Unit} {l1I : Int32} (h : mX10_addNext F l1I V = some (v, V1)) : mAv (wX10_addNext) V V1 := by
  unfold mX10_addNext at h
  rcases mIf_some h with ⟨_, h⟩ | ⟨_, h⟩
  · obtain ⟨_, rfl⟩ := mRW h
    exact mAv.rf
  · rcases mIf_some h with ⟨_, h⟩ | ⟨_, h⟩
    · obtain ⟨_, rfl⟩ := mRW h
      exact mAv.rf
    · rcases mIf_some h with ⟨_, h⟩ | ⟨_, h⟩
      · obtain ⟨_, rfl⟩ := mRW h
        exact mAv.rf
      · obtain ⟨c1, h⟩ := mGd_some h
        obtain ⟨V5, eV5, h⟩ := mLt_some h
        have a2 : mAv (wX10_addNext) V V5 := by rw [eV5]; exact mAv.I mAv.rf (by unfold wX10_addNext; omega)
        obtain ⟨V6, eV6, h⟩ := mLt_some h
        have a3 : mAv (wX10_addNext) V V6 := by rw [eV6]; exact mAv.F a2 (by unfold wX10_addNext; omega)
        obtain ⟨_, rfl⟩ := mRW h
        exact a3
def wX11_person (i : Nat) : Prop := i = 0 ∨ i = 3000
set_option maxHeartbeats 4000000 in
theorem NX11_person {F : Nat} {Ln Ln1 : Nat → Nat} {V V1 : mV} {v : (String ⊕ Int32)} (h : mX11_person F Ln V = some (v, Ln1, V1)) : mAv (wX11_person) V V1 ∧ mAl (wX11_person) Ln Ln1 := by
  unfold mX11_person at h
  rcases mIf_some h with ⟨_, h⟩ | ⟨_, h⟩
  · obtain ⟨V2, eV2, h⟩ := mLt_some h
    have a1 : mAv (wX11_person) V V2 := by rw [eV2]; exact mAv.F mAv.rf (by unfold wX11_person; omega)
    obtain ⟨_, rfl, rfl⟩ := mRA3 h
    exact ⟨a1, mAl.rf⟩
  · obtain ⟨_, rfl, rfl, _⟩ := mTh_some h
    exact ⟨mAv.rf, mAl.up mAl.rf (by unfold wX11_person; omega)⟩
def wX11_wipe (i : Nat) : Prop := i = 2048
set_option maxHeartbeats 4000000 in
theorem NX11_wipe {F : Nat} {V V1 : mV} {v : Int32} (h : mX11_wipe F V = some (v, V1)) : mAv (wX11_wipe) V V1 := by
  unfold mX11_wipe at h
  obtain ⟨x1, _, h⟩ := mLt_some h
  obtain ⟨v2, V3, h1, h⟩ := mBW_some h
  have a1 : mAv (wX11_wipe) V V3 := mAv.tr mAv.rf (NX9_clear h1) (fun i z => by unfold wX9_clear at z; unfold wX11_wipe; omega)
  obtain ⟨_, rfl⟩ := mRW h
  exact a1
def wX11_entryAt (i : Nat) : Prop := i = 3000
set_option maxHeartbeats 4000000 in
theorem NX11_entryAt {F : Nat} {Ln Ln1 : Nat → Nat} {V V1 : mV} {v : (String ⊕ Nat)} {l1I : Int32} (h : mX11_entryAt F Ln l1I V = some (v, Ln1, V1)) : mAv (wX11_entryAt) V V1 ∧ mAl (wX11_entryAt) Ln Ln1 := by
  unfold mX11_entryAt at h
  rcases mIf_some h with ⟨_, h⟩ | ⟨_, h⟩
  · obtain ⟨_, rfl, rfl, _⟩ := mTh_some h
    exact ⟨mAv.rf, mAl.up mAl.rf (by unfold wX11_entryAt; omega)⟩
  · rcases mIf_some h with ⟨_, h⟩ | ⟨_, h⟩
    · obtain ⟨c1, h⟩ := mGd_some h
      obtain ⟨_, rfl, rfl⟩ := mRA3 h
      exact ⟨mAv.rf, mAl.rf⟩
    · obtain ⟨_, rfl, rfl, _⟩ := mTh_some h
      exact ⟨mAv.rf, mAl.up mAl.rf (by unfold wX11_entryAt; omega)⟩
theorem KX11_entryAt {F r : Nat} {Ln Ln1 : Nat → Nat} {V V1 : mV} {l1I : Int32} (h : mX11_entryAt F Ln l1I V = some (.inr r, Ln1, V1)) : 256 ≤ r ∧ r ≤ 344 := by
  unfold mX11_entryAt at h
  rcases mIf_some h with ⟨_, h⟩ | ⟨_, h⟩
  · obtain ⟨h, _⟩ := mTh_some h
    cases h
  · rcases mIf_some h with ⟨_, h⟩ | ⟨_, h⟩
    · obtain ⟨c1, h⟩ := mGd_some h
      obtain ⟨h, _, _⟩ := mRA3 h
      cases h
      have z_0 := (Nat.lt_of_not_le (fun z => c1 (Or.inr z)))
      omega
    · obtain ⟨h, _⟩ := mTh_some h
      cases h
def wX11_testPlace (i : Nat) : Prop := i = 3000
set_option maxHeartbeats 4000000 in
theorem NX11_testPlace {F : Nat} {Ln Ln1 : Nat → Nat} {V V1 : mV} {v : (String ⊕ Unit)} {l0I : Int32} {l1I : Int32} (h : mX11_testPlace F Ln l0I l1I V = some (v, Ln1, V1)) : mAv (wX11_testPlace) V V1 ∧ mAl (wX11_testPlace) Ln Ln1 := by
  unfold mX11_testPlace at h
  rcases mIf_some h with ⟨_, h⟩ | ⟨_, h⟩
  · obtain ⟨_, rfl, rfl, _⟩ := mTh_some h
    exact ⟨mAv.rf, mAl.up mAl.rf (by unfold wX11_testPlace; omega)⟩
  · rcases mIf_some h with ⟨_, h⟩ | ⟨_, h⟩
    · obtain ⟨_, rfl, rfl⟩ := mRA3 h
      exact ⟨mAv.rf, mAl.rf⟩
    · obtain ⟨_, rfl, rfl, _⟩ := mTh_some h
      exact ⟨mAv.rf, mAl.up mAl.rf (by unfold wX11_testPlace; omega)⟩
def wX11_testRange (i : Nat) : Prop := i = 3000
set_option maxHeartbeats 4000000 in
theorem NX11_testRange {F : Nat} {Ln Ln1 : Nat → Nat} {V V1 : mV} {v : (String ⊕ Unit)} {l0I : Int32} {l1I : Int32} {l2I : Int32} (h : mX11_testRange F Ln l0I l1I l2I V = some (v, Ln1, V1)) : mAv (wX11_testRange) V V1 ∧ mAl (wX11_testRange) Ln Ln1 := by
  unfold mX11_testRange at h
  rcases mIf_some h with ⟨_, h⟩ | ⟨_, h⟩
  · obtain ⟨_, rfl, rfl, _⟩ := mTh_some h
    exact ⟨mAv.rf, mAl.up mAl.rf (by unfold wX11_testRange; omega)⟩
  · rcases mIf_some h with ⟨_, h⟩ | ⟨_, h⟩
    · obtain ⟨_, rfl, rfl⟩ := mRA3 h
      exact ⟨mAv.rf, mAl.rf⟩
    · obtain ⟨_, rfl, rfl, _⟩ := mTh_some h
      exact ⟨mAv.rf, mAl.up mAl.rf (by unfold wX11_testRange; omega)⟩
def wX11_tellNumbers (i : Nat) : Prop := i = 12
set_option maxHeartbeats 4000000 in
theorem NX11_tellNumbers {F : Nat} {V V1 : mV} {v : Unit} {l1I : Int32} {l2I : Int32} {l3I : Int32} {l4I : Int32} {l5I : Int32} (h : mX11_tellNumbers F l1I l2I l3I l4I l5I V = some (v, V1)) : mAv (wX11_tellNumbers) V V1 := by
  unfold mX11_tellNumbers at h
  obtain ⟨c1, h⟩ := mGd_some h
  obtain ⟨V2, eV2, h⟩ := mLt_some h
  have a2 : mAv (wX11_tellNumbers) V V2 := by rw [eV2]; exact mAv.I mAv.rf (by unfold wX11_tellNumbers; omega)
  obtain ⟨c3, h⟩ := mGd_some h
  obtain ⟨V4, eV4, h⟩ := mLt_some h
  have a4 : mAv (wX11_tellNumbers) V V4 := by rw [eV4]; exact mAv.I a2 (by unfold wX11_tellNumbers; omega)
  obtain ⟨c5, h⟩ := mGd_some h
  obtain ⟨V6, eV6, h⟩ := mLt_some h
  have a6 : mAv (wX11_tellNumbers) V V6 := by rw [eV6]; exact mAv.I a4 (by unfold wX11_tellNumbers; omega)
  obtain ⟨c7, h⟩ := mGd_some h
  obtain ⟨V8, eV8, h⟩ := mLt_some h
  have a8 : mAv (wX11_tellNumbers) V V8 := by rw [eV8]; exact mAv.I a6 (by unfold wX11_tellNumbers; omega)
  obtain ⟨c9, h⟩ := mGd_some h
  obtain ⟨V10, eV10, h⟩ := mLt_some h
  have a10 : mAv (wX11_tellNumbers) V V10 := by rw [eV10]; exact mAv.I a8 (by unfold wX11_tellNumbers; omega)
  obtain ⟨_, rfl⟩ := mRW h
  exact a10
def wX11_remember (i : Nat) : Prop := i = 0 ∨ (14 ≤ i ∧ i ≤ 15) ∨ (352 ≤ i ∧ i ≤ 537)
def wX11_remember_0 (i : Nat) : Prop := i = 0 ∨ (14 ≤ i ∧ i ≤ 15) ∨ (352 ≤ i ∧ i ≤ 537)
set_option maxHeartbeats 4000000 in
theorem NX11_remember_go {F : Nat} {v : Unit} {V1 : mV} : ∀ k' : Nat, (∀ (l1I : Int32) (l2I : Int32) (V : mV), mX11_remember_go F k' 0 l1I l2I V = some (v, V1) → mAv (wX11_remember_0) V V1) := by
  intro k'
  induction k' with
  | zero => exact (fun _ _ _ h => by cases h)
  | succ k' ih =>
    intro l1I l2I V h
    rw [mX11_remember_go, if_pos rfl] at h
    unfold mX11_remember_b0 at h
    obtain ⟨x1, _, h⟩ := mLt_some h
    obtain ⟨c1, h⟩ := mGd_some h
    obtain ⟨c2, h⟩ := mGd_some h
    obtain ⟨V3, eV3, h⟩ := mLt_some h
    have a3 : mAv (wX11_remember_0) V V3 := by rw [eV3]; exact mAv.I mAv.rf (by unfold wX11_remember_0; omega)
    obtain ⟨c4, h⟩ := mGd_some h
    obtain ⟨V6, eV6, h⟩ := mLt_some h
    have a5 : mAv (wX11_remember_0) V V6 := by rw [eV6]; exact mAv.I a3 (by unfold wX11_remember_0; omega)
    obtain ⟨c6, h⟩ := mGd_some h
    obtain ⟨c7, h⟩ := mGd_some h
    obtain ⟨v11, V12, h8, h⟩ := mBW_some h
    have z8_0 := (Nat.lt_of_not_le (fun z => c6 (Or.inr z)))
    have z8_1 := (Nat.lt_of_not_le (fun z => c7 (Or.inr z)))
    have a8 : mAv (wX11_remember_0) V V12 := mAv.tr a5 (NX3_copyQuestion h8) (fun i z => by unfold wX3_copyQuestion at z; unfold wX11_remember_0; omega)
    obtain ⟨V16, eV16, h⟩ := mLt_some h
    have a9 : mAv (wX11_remember_0) V V16 := by rw [eV16]; exact mAv.F a8 (by unfold wX11_remember_0; omega)
    obtain ⟨_, rfl⟩ := mRW h
    exact a9
set_option maxHeartbeats 4000000 in
theorem NX11_remember {F : Nat} {V V1 : mV} {v : Unit} {l1I : Int32} {l2I : Int32} (h : mX11_remember F l1I l2I V = some (v, V1)) : mAv (wX11_remember) V V1 := by
  have ih := NX11_remember_go (F := F) (v := v) (V1 := V1) F
  unfold mX11_remember mX11_remember_s at h
  rcases mIf_some h with ⟨_, h⟩ | ⟨_, h⟩
  · obtain ⟨V18, eV18, h⟩ := mLt_some h
    have a10 : mAv (wX11_remember) V V18 := by rw [eV18]; exact mAv.F mAv.rf (by unfold wX11_remember; omega)
    obtain ⟨V19, eV19, h⟩ := mLt_some h
    have a11 : mAv (wX11_remember) V V19 := by rw [eV19]; exact mAv.F a10 (by unfold wX11_remember; omega)
    exact mAv.tr a11 (ih _ _ _ h) (fun i z => by unfold wX11_remember_0 at z; unfold wX11_remember; omega)
  · exact mAv.tr mAv.rf (ih _ _ _ h) (fun i z => by unfold wX11_remember_0 at z; unfold wX11_remember; omega)
def wX11_removeClaim (i : Nat) : Prop := i = 0 ∨ i = 17
def wX11_removeClaim_0 (l2A : Nat) (i : Nat) : Prop := i = 0 ∨ i = 17
set_option maxHeartbeats 4000000 in
theorem NX11_removeClaim_go {F : Nat} {v : Unit} {V1 : mV} : ∀ k' : Nat, (∀ (l2A : Nat) (l3I : Int32) (V : mV), mX11_removeClaim_go F k' 0 l2A l3I V = some (v, V1) → mAv (wX11_removeClaim_0 l2A) V V1) := by
  intro k'
  induction k' with
  | zero => exact (fun _ _ _ h => by cases h)
  | succ k' ih =>
    intro l2A l3I V h
    rw [mX11_removeClaim_go, if_pos rfl] at h
    unfold mX11_removeClaim_b0 at h
    rcases mIf_some h with ⟨_, h⟩ | ⟨_, h⟩
    · obtain ⟨V2, eV2, h⟩ := mLt_some h
      have a1 : mAv (wX11_removeClaim_0 l2A) V V2 := by rw [eV2]; exact mAv.F mAv.rf (by unfold wX11_removeClaim_0; omega)
      obtain ⟨c2, h⟩ := mGd_some h
      obtain ⟨V4, eV4, h⟩ := mLt_some h
      have a3 : mAv (wX11_removeClaim_0 l2A) V V4 := by rw [eV4]; exact mAv.C a1 (by unfold wX11_removeClaim_0; omega)
      obtain ⟨_, rfl⟩ := mRW h
      exact a3
    · obtain ⟨c4, h⟩ := mGd_some h
      obtain ⟨c5, h⟩ := mGd_some h
      obtain ⟨V8, eV8, h⟩ := mLt_some h
      have a6 : mAv (wX11_removeClaim_0 l2A) V V8 := by rw [eV8]; exact mAv.C mAv.rf (by unfold wX11_removeClaim_0; omega)
      obtain ⟨x9, _, h⟩ := mLt_some h
      exact mAv.tr a6 (ih _ _ _ h) (fun i z => by unfold wX11_removeClaim_0 at z; unfold wX11_removeClaim_0; omega)
set_option maxHeartbeats 4000000 in
theorem NX11_removeClaim {F : Nat} {V V1 : mV} {v : Unit} {l1I : Int32} (h : mX11_removeClaim F l1I V = some (v, V1)) : mAv (wX11_removeClaim) V V1 := by
  have ih := NX11_removeClaim_go (F := F) (v := v) (V1 := V1) F
  unfold mX11_removeClaim mX11_removeClaim_s at h
  obtain ⟨c7, h⟩ := mGd_some h
  exact mAv.tr mAv.rf (ih _ _ _ h) (fun i z => by unfold wX11_removeClaim_0 at z; unfold wX11_removeClaim; omega)
def wJ7_fill_d0a16 (l0A : Nat) (i : Nat) : Prop := i = l0A
def wJ7_fill_d0a16_0 (l0A : Nat) (i : Nat) : Prop := i = l0A
set_option maxHeartbeats 4000000 in
theorem NJ7_fill_d0a16_go {F : Nat} {v : Unit} {V1 : mV} : ∀ k' : Nat, (∀ (l0A : Nat) (l1J : Int64) (l3I : Int32) (l4I : Int32) (V : mV), mJ7_fill_d0a16_go F k' 0 l0A l1J l3I l4I V = some (v, V1) → mAv (wJ7_fill_d0a16_0 l0A) V V1) := by
  intro k'
  induction k' with
  | zero => exact (fun _ _ _ _ _ h => by cases h)
  | succ k' ih =>
    intro l0A l1J l3I l4I V h
    rw [mJ7_fill_d0a16_go, if_pos rfl] at h
    unfold mJ7_fill_d0a16_b0 at h
    rcases mIf_some h with ⟨_, h⟩ | ⟨_, h⟩
    · obtain ⟨_, rfl⟩ := mRW h
      exact mAv.rf
    · obtain ⟨c1, h⟩ := mGd_some h
      obtain ⟨V3, eV3, h⟩ := mLt_some h
      have a2 : mAv (wJ7_fill_d0a16_0 l0A) V V3 := by rw [eV3]; exact mAv.J mAv.rf (by unfold wJ7_fill_d0a16_0; omega)
      obtain ⟨x4, _, h⟩ := mLt_some h
      exact mAv.tr a2 (ih _ _ _ _ _ h) (fun i z => by unfold wJ7_fill_d0a16_0 at z; unfold wJ7_fill_d0a16_0; omega)
set_option maxHeartbeats 4000000 in
theorem NJ7_fill_d0a16 {F : Nat} {V V1 : mV} {v : Unit} {l0A : Nat} {l1J : Int64} (h : mJ7_fill_d0a16 F l0A l1J V = some (v, V1)) : mAv (wJ7_fill_d0a16 l0A) V V1 := by
  have ih := NJ7_fill_d0a16_go (F := F) (v := v) (V1 := V1) F
  unfold mJ7_fill_d0a16 mJ7_fill_d0a16_s at h
  obtain ⟨x5, _, h⟩ := mLt_some h
  exact mAv.tr mAv.rf (ih _ _ _ _ _ h) (fun i z => by unfold wJ7_fill_d0a16_0 at z; unfold wJ7_fill_d0a16; omega)
def wJ7_fill_53178 (l0A : Nat) (i : Nat) : Prop := i = l0A
def wJ7_fill_53178_0 (l0A : Nat) (i : Nat) : Prop := i = l0A
set_option maxHeartbeats 4000000 in
theorem NJ7_fill_53178_go {F : Nat} {v : Unit} {V1 : mV} : ∀ k' : Nat, (∀ (l0A : Nat) (l1I : Int32) (l2I : Int32) (l3I : Int32) (V : mV), mJ7_fill_53178_go F k' 0 l0A l1I l2I l3I V = some (v, V1) → mAv (wJ7_fill_53178_0 l0A) V V1) := by
  intro k'
  induction k' with
  | zero => exact (fun _ _ _ _ _ h => by cases h)
  | succ k' ih =>
    intro l0A l1I l2I l3I V h
    rw [mJ7_fill_53178_go, if_pos rfl] at h
    unfold mJ7_fill_53178_b0 at h
    rcases mIf_some h with ⟨_, h⟩ | ⟨_, h⟩
    · obtain ⟨_, rfl⟩ := mRW h
      exact mAv.rf
    · obtain ⟨c1, h⟩ := mGd_some h
      obtain ⟨V3, eV3, h⟩ := mLt_some h
      have a2 : mAv (wJ7_fill_53178_0 l0A) V V3 := by rw [eV3]; exact mAv.I mAv.rf (by unfold wJ7_fill_53178_0; omega)
      obtain ⟨x4, _, h⟩ := mLt_some h
      exact mAv.tr a2 (ih _ _ _ _ _ h) (fun i z => by unfold wJ7_fill_53178_0 at z; unfold wJ7_fill_53178_0; omega)
set_option maxHeartbeats 4000000 in
theorem NJ7_fill_53178 {F : Nat} {V V1 : mV} {v : Unit} {l0A : Nat} {l1I : Int32} (h : mJ7_fill_53178 F l0A l1I V = some (v, V1)) : mAv (wJ7_fill_53178 l0A) V V1 := by
  have ih := NJ7_fill_53178_go (F := F) (v := v) (V1 := V1) F
  unfold mJ7_fill_53178 mJ7_fill_53178_s at h
  obtain ⟨x5, _, h⟩ := mLt_some h
  exact mAv.tr mAv.rf (ih _ _ _ _ _ h) (fun i z => by unfold wJ7_fill_53178_0 at z; unfold wJ7_fill_53178; omega)
def wX0_begin (l0A : Nat) (l4A : Nat) (i : Nat) : Prop := i = l0A ∨ i = l0A + 1 ∨ i = l0A + 2
set_option maxHeartbeats 4000000 in
theorem NX0_begin {F : Nat} {Ln Ln1 : Nat → Nat} {V V1 : mV} {v : Unit} {l0A : Nat} {l1I : Int32} {l2I : Int32} {l3I : Int32} {l4A : Nat} (h : mX0_begin F Ln l0A l1I l2I l3I l4A V = some (v, Ln1, V1)) : mAv (wX0_begin l0A l4A) V V1 ∧ mAl (wX0_begin l0A l4A) Ln Ln1 := by
  unfold mX0_begin at h
  obtain ⟨V1, eV1, h⟩ := mLt_some h
  have a1 : mAv (wX0_begin l0A l4A) V V1 := by rw [eV1]; exact mAv.F mAv.rf (by unfold wX0_begin; omega)
  obtain ⟨V2, eV2, h⟩ := mLt_some h
  have a2 : mAv (wX0_begin l0A l4A) V V2 := by rw [eV2]; exact mAv.F a1 (by unfold wX0_begin; omega)
  obtain ⟨c3, h⟩ := mGd_some h
  obtain ⟨V4, eV4, h⟩ := mLt_some h
  have a4 : mAv (wX0_begin l0A l4A) V V4 := by rw [eV4]; exact mAv.F a2 (by unfold wX0_begin; omega)
  obtain ⟨v5, L6, V6, h5, h⟩ := mBA_some h
  have y5 := NX9_copy h5
  have a5 : mAv (wX0_begin l0A l4A) V V6 := mAv.tr a4 y5.1 (fun i z => by unfold wX9_copy at z; unfold wX0_begin; omega)
  have b5 : mAl (wX0_begin l0A l4A) Ln L6 := mAl.tr mAl.rf y5.2 (fun i z => by unfold wX9_copy at z; unfold wX0_begin; omega)
  obtain ⟨_, rfl, rfl⟩ := mRA3 h
  exact ⟨a5, b5⟩
def wX1_goBack (i : Nat) : Prop := i = 5 ∨ (52 ≤ i ∧ i ≤ 53)
def wX1_goBack_0 (i : Nat) : Prop := i = 5 ∨ (52 ≤ i ∧ i ≤ 53)
set_option maxHeartbeats 4000000 in
theorem NX1_goBack_go {F : Nat} {v : Unit} {V1 : mV} : ∀ k' : Nat, (∀ (V : mV), mX1_goBack_go F k' 0 V = some (v, V1) → mAv (wX1_goBack_0) V V1) := by
  intro k'
  induction k' with
  | zero => exact (fun _ h => by cases h)
  | succ k' ih =>
    intro V h
    rw [mX1_goBack_go, if_pos rfl] at h
    unfold mX1_goBack_b0 at h
    rcases mIf_some h with ⟨_, h⟩ | ⟨_, h⟩
    · rcases mIf_some h with ⟨_, h⟩ | ⟨_, h⟩
      · obtain ⟨V4, eV4, h⟩ := mLt_some h
        have a1 : mAv (wX1_goBack_0) V V4 := by rw [eV4]; exact mAv.F mAv.rf (by unfold wX1_goBack_0; omega)
        obtain ⟨_, rfl⟩ := mRW h
        exact a1
      · obtain ⟨V3, eV3, h⟩ := mLt_some h
        have a2 : mAv (wX1_goBack_0) V V3 := by rw [eV3]; exact mAv.F mAv.rf (by unfold wX1_goBack_0; omega)
        obtain ⟨_, rfl⟩ := mRW h
        exact a2
    · obtain ⟨v5, _, h⟩ := mBN_some h
      rcases mIf_some h with ⟨_, h⟩ | ⟨_, h⟩
      · rcases mIf_some h with ⟨_, h⟩ | ⟨_, h⟩
        · obtain ⟨V13, eV13, h⟩ := mLt_some h
          have a3 : mAv (wX1_goBack_0) V V13 := by rw [eV13]; exact mAv.F mAv.rf (by unfold wX1_goBack_0; omega)
          obtain ⟨_, rfl⟩ := mRW h
          exact a3
        · obtain ⟨V12, eV12, h⟩ := mLt_some h
          have a4 : mAv (wX1_goBack_0) V V12 := by rw [eV12]; exact mAv.F mAv.rf (by unfold wX1_goBack_0; omega)
          obtain ⟨_, rfl⟩ := mRW h
          exact a4
      · obtain ⟨V14, eV14, h⟩ := mLt_some h
        have a5 : mAv (wX1_goBack_0) V V14 := by rw [eV14]; exact mAv.F mAv.rf (by unfold wX1_goBack_0; omega)
        obtain ⟨V15, eV15, h⟩ := mLt_some h
        have a6 : mAv (wX1_goBack_0) V V15 := by rw [eV15]; exact mAv.F a5 (by unfold wX1_goBack_0; omega)
        obtain ⟨v16, V17, h7, h⟩ := mBW_some h
        have a7 : mAv (wX1_goBack_0) V V17 := mAv.tr a6 (NX1_deriveAt h7) (fun i z => by unfold wX1_deriveAt at z; unfold wX1_goBack_0; omega)
        exact mAv.tr a7 (ih _ h) (fun i z => by unfold wX1_goBack_0 at z; unfold wX1_goBack_0; omega)
set_option maxHeartbeats 4000000 in
theorem NX1_goBack {F : Nat} {V V1 : mV} {v : Unit} (h : mX1_goBack F V = some (v, V1)) : mAv (wX1_goBack) V V1 := by
  have ih := NX1_goBack_go (F := F) (v := v) (V1 := V1) F
  unfold mX1_goBack mX1_goBack_s at h
  exact mAv.tr mAv.rf (ih _ h) (fun i z => by unfold wX1_goBack_0 at z; unfold wX1_goBack; omega)
def wX2_followWay (i : Nat) : Prop := i = 34
def wX2_followWay_0 (i : Nat) : Prop := i = 34
set_option maxHeartbeats 4000000 in
theorem NX2_followWay_go {F : Nat} {v : Int32} {V1 : mV} : ∀ k' : Nat, (∀ (l1I : Int32) (l3I : Int32) (l4I : Int32) (l5I : Int32) (V : mV), mX2_followWay_go F k' 0 l1I l3I l4I l5I V = some (v, V1) → mAv (wX2_followWay_0) V V1) := by
  intro k'
  induction k' with
  | zero => exact (fun _ _ _ _ _ h => by cases h)
  | succ k' ih =>
    intro l1I l3I l4I l5I V h
    rw [mX2_followWay_go, if_pos rfl] at h
    unfold mX2_followWay_b0 at h
    rcases mIf_some h with ⟨_, h⟩ | ⟨_, h⟩
    · rcases mIf_some h with ⟨_, h⟩ | ⟨_, h⟩
      · obtain ⟨_, rfl⟩ := mRW h
        exact mAv.rf
      · obtain ⟨c1, h⟩ := mGd_some h
        obtain ⟨v4, _, h⟩ := mBN_some h
        rcases mIf_some h with ⟨_, h⟩ | ⟨_, h⟩
        · obtain ⟨c2, h⟩ := mGd_some h
          obtain ⟨c3, h⟩ := mGd_some h
          obtain ⟨V12, eV12, h⟩ := mLt_some h
          have a4 : mAv (wX2_followWay_0) V V12 := by rw [eV12]; exact mAv.I mAv.rf (by unfold wX2_followWay_0; omega)
          obtain ⟨_, rfl⟩ := mRW h
          exact a4
        · obtain ⟨_, rfl⟩ := mRW h
          exact mAv.rf
    · obtain ⟨c5, h⟩ := mGd_some h
      obtain ⟨v14, _, h⟩ := mBN_some h
      rcases mIf_some h with ⟨_, h⟩ | ⟨_, h⟩
      · obtain ⟨c6, h⟩ := mGd_some h
        obtain ⟨v32, _, h⟩ := mBN_some h
        obtain ⟨x37, _, h⟩ := mLt_some h
        exact mAv.tr mAv.rf (ih _ _ _ _ _ h) (fun i z => by unfold wX2_followWay_0 at z; unfold wX2_followWay_0; omega)
      · rcases mIf_some h with ⟨_, h⟩ | ⟨_, h⟩
        · obtain ⟨_, rfl⟩ := mRW h
          exact mAv.rf
        · obtain ⟨c7, h⟩ := mGd_some h
          obtain ⟨v22, _, h⟩ := mBN_some h
          rcases mIf_some h with ⟨_, h⟩ | ⟨_, h⟩
          · obtain ⟨c8, h⟩ := mGd_some h
            obtain ⟨c9, h⟩ := mGd_some h
            obtain ⟨V30, eV30, h⟩ := mLt_some h
            have a10 : mAv (wX2_followWay_0) V V30 := by rw [eV30]; exact mAv.I mAv.rf (by unfold wX2_followWay_0; omega)
            obtain ⟨_, rfl⟩ := mRW h
            exact a10
          · obtain ⟨_, rfl⟩ := mRW h
            exact mAv.rf
set_option maxHeartbeats 4000000 in
theorem NX2_followWay {F : Nat} {V V1 : mV} {v : Int32} {l1I : Int32} {l2I : Int32} (h : mX2_followWay F l1I l2I V = some (v, V1)) : mAv (wX2_followWay) V V1 := by
  have ih := NX2_followWay_go (F := F) (v := v) (V1 := V1) F
  unfold mX2_followWay mX2_followWay_s at h
  exact mAv.tr mAv.rf (ih _ _ _ _ _ h) (fun i z => by unfold wX2_followWay_0 at z; unfold wX2_followWay; omega)
def wX3_fillNear (l0A : Nat) (l1A : Nat) (i : Nat) : Prop := i = l1A
def wX3_fillNear_0 (l0A : Nat) (l1A : Nat) (i : Nat) : Prop := i = l1A
set_option maxHeartbeats 4000000 in
theorem NX3_fillNear_go {F : Nat} {v : Unit} {V1 : mV} : ∀ k' : Nat, (∀ (l0A : Nat) (l1A : Nat) (l2I : Int32) (l3I : Int32) (V : mV), mX3_fillNear_go F k' 0 l0A l1A l2I l3I V = some (v, V1) → mAv (wX3_fillNear_0 l0A l1A) V V1) := by
  intro k'
  induction k' with
  | zero => exact (fun _ _ _ _ _ h => by cases h)
  | succ k' ih =>
    intro l0A l1A l2I l3I V h
    rw [mX3_fillNear_go, if_pos rfl] at h
    unfold mX3_fillNear_b0 at h
    rcases mIf_some h with ⟨_, h⟩ | ⟨_, h⟩
    · obtain ⟨_, rfl⟩ := mRW h
      exact mAv.rf
    · obtain ⟨v2, _, h⟩ := mBN_some h
      rcases mIf_some h with ⟨_, h⟩ | ⟨_, h⟩
      · obtain ⟨x8, _, h⟩ := mLt_some h
        exact mAv.tr mAv.rf (ih _ _ _ _ _ h) (fun i z => by unfold wX3_fillNear_0 at z; unfold wX3_fillNear_0; omega)
      · obtain ⟨v9, _, h⟩ := mBN_some h
        obtain ⟨c1, h⟩ := mGd_some h
        obtain ⟨v15, _, h⟩ := mBN_some h
        obtain ⟨c2, h⟩ := mGd_some h
        obtain ⟨V21, eV21, h⟩ := mLt_some h
        have a3 : mAv (wX3_fillNear_0 l0A l1A) V V21 := by rw [eV21]; exact mAv.I mAv.rf (by unfold wX3_fillNear_0; omega)
        obtain ⟨v22, _, h⟩ := mBN_some h
        obtain ⟨c4, h⟩ := mGd_some h
        obtain ⟨v28, _, h⟩ := mBN_some h
        obtain ⟨c5, h⟩ := mGd_some h
        obtain ⟨V34, eV34, h⟩ := mLt_some h
        have a6 : mAv (wX3_fillNear_0 l0A l1A) V V34 := by rw [eV34]; exact mAv.I a3 (by unfold wX3_fillNear_0; omega)
        obtain ⟨x35, _, h⟩ := mLt_some h
        exact mAv.tr a6 (ih _ _ _ _ _ h) (fun i z => by unfold wX3_fillNear_0 at z; unfold wX3_fillNear_0; omega)
set_option maxHeartbeats 4000000 in
theorem NX3_fillNear {F : Nat} {V V1 : mV} {v : Unit} {l0A : Nat} {l1A : Nat} {l2I : Int32} (h : mX3_fillNear F l0A l1A l2I V = some (v, V1)) : mAv (wX3_fillNear l0A l1A) V V1 := by
  have ih := NX3_fillNear_go (F := F) (v := v) (V1 := V1) F
  unfold mX3_fillNear mX3_fillNear_s at h
  obtain ⟨v36, V37, h7, h⟩ := mBW_some h
  have a7 : mAv (wX3_fillNear l0A l1A) V V37 := mAv.tr mAv.rf (NJ7_fill_53178 h7) (fun i z => by unfold wJ7_fill_53178 at z; unfold wX3_fillNear; omega)
  exact mAv.tr a7 (ih _ _ _ _ _ h) (fun i z => by unfold wX3_fillNear_0 at z; unfold wX3_fillNear; omega)
def wX4_carriesFlows (l1A : Nat) (l2A : Nat) (i : Nat) : Prop := i = l2A ∨ i = l2A + 1
def wX4_carriesFlows_0 (l1A : Nat) (l2A : Nat) (i : Nat) : Prop := i = l2A ∨ i = l2A + 1
def wX4_carriesFlows_1 (l1A : Nat) (l2A : Nat) (i : Nat) : Prop := i = l2A ∨ i = l2A + 1
set_option maxHeartbeats 4000000 in
theorem NX4_carriesFlows_go {F : Nat} {v : Int32} {V1 : mV} : ∀ k' : Nat, (∀ (l1A : Nat) (l2A : Nat) (l3I : Int32) (l5I : Int32) (V : mV), mX4_carriesFlows_go F k' 0 l1A l2A l3I l5I V = some (v, V1) → mAv (wX4_carriesFlows_0 l1A l2A) V V1) ∧ (∀ (l1A : Nat) (l2A : Nat) (l5I : Int32) (V : mV), mX4_carriesFlows_go F k' 1 l1A l2A 0 l5I V = some (v, V1) → mAv (wX4_carriesFlows_1 l1A l2A) V V1) := by
  intro k'
  induction k' with
  | zero => exact ⟨(fun _ _ _ _ _ h => by cases h), (fun _ _ _ _ h => by cases h)⟩
  | succ k' ih =>
    refine ⟨?_, ?_⟩
    · intro l1A l2A l3I l5I V h
      rw [mX4_carriesFlows_go, if_pos rfl] at h
      unfold mX4_carriesFlows_b0 at h
      rcases mIf_some h with ⟨_, h⟩ | ⟨_, h⟩
      · exact mAv.tr mAv.rf (ih.2 _ _ _ _ h) (fun i z => by unfold wX4_carriesFlows_1 at z; unfold wX4_carriesFlows_0; omega)
      · obtain ⟨v2, V3, h1, h⟩ := mBW_some h
        have a1 : mAv (wX4_carriesFlows_0 l1A l2A) V V3 := mAv.tr mAv.rf (NX3_addItem h1) (fun i z => by unfold wX3_addItem at z; unfold wX4_carriesFlows_0; omega)
        obtain ⟨v7, V8, h2, h⟩ := mBW_some h
        have a2 : mAv (wX4_carriesFlows_0 l1A l2A) V V8 := mAv.tr a1 (NX3_addTo h2) (fun i z => by unfold wX3_addTo at z; unfold wX4_carriesFlows_0; omega)
        obtain ⟨v12, _, h⟩ := mBN_some h
        obtain ⟨v17, V18, h3, h⟩ := mBW_some h
        have a3 : mAv (wX4_carriesFlows_0 l1A l2A) V V18 := mAv.tr a2 (NX3_addTo h3) (fun i z => by unfold wX3_addTo at z; unfold wX4_carriesFlows_0; omega)
        obtain ⟨x22, _, h⟩ := mLt_some h
        exact mAv.tr a3 (ih.1 _ _ _ _ _ h) (fun i z => by unfold wX4_carriesFlows_0 at z; unfold wX4_carriesFlows_0; omega)
    · intro l1A l2A l5I V h
      rw [mX4_carriesFlows_go, if_neg (by decide), if_pos rfl] at h
      unfold mX4_carriesFlows_b1 at h
      rcases mIf_some h with ⟨_, h⟩ | ⟨_, h⟩
      · obtain ⟨v24, V25, h4, h⟩ := mBW_some h
        have a4 : mAv (wX4_carriesFlows_1 l1A l2A) V V25 := mAv.tr mAv.rf (NX4_addBalance h4) (fun i z => by unfold wX4_addBalance at z; unfold wX4_carriesFlows_1; omega)
        obtain ⟨v29, V30, h5, h⟩ := mBW_some h
        have a5 : mAv (wX4_carriesFlows_1 l1A l2A) V V30 := mAv.tr a4 (NX4_addBalance h5) (fun i z => by unfold wX4_addBalance at z; unfold wX4_carriesFlows_1; omega)
        obtain ⟨_, rfl⟩ := mRW h
        exact a5
      · obtain ⟨v34, V35, h6, h⟩ := mBW_some h
        have a6 : mAv (wX4_carriesFlows_1 l1A l2A) V V35 := mAv.tr mAv.rf (NX4_addBalance h6) (fun i z => by unfold wX4_addBalance at z; unfold wX4_carriesFlows_1; omega)
        obtain ⟨v39, V40, h7, h⟩ := mBW_some h
        have a7 : mAv (wX4_carriesFlows_1 l1A l2A) V V40 := mAv.tr a6 (NX4_addBalance h7) (fun i z => by unfold wX4_addBalance at z; unfold wX4_carriesFlows_1; omega)
        obtain ⟨x44, _, h⟩ := mLt_some h
        exact mAv.tr a7 (ih.2 _ _ _ _ h) (fun i z => by unfold wX4_carriesFlows_1 at z; unfold wX4_carriesFlows_1; omega)
set_option maxHeartbeats 4000000 in
theorem NX4_carriesFlows {F : Nat} {V V1 : mV} {v : Int32} {l1A : Nat} {l2A : Nat} (h : mX4_carriesFlows F l1A l2A V = some (v, V1)) : mAv (wX4_carriesFlows l1A l2A) V V1 := by
  have ih := NX4_carriesFlows_go (F := F) (v := v) (V1 := V1) F
  unfold mX4_carriesFlows mX4_carriesFlows_s at h
  obtain ⟨x45, _, h⟩ := mLt_some h
  obtain ⟨x46, _, h⟩ := mLt_some h
  rcases mIf_some h with ⟨_, h⟩ | ⟨_, h⟩
  · obtain ⟨_, rfl⟩ := mRW h
    exact mAv.rf
  · obtain ⟨c8, h⟩ := mGd_some h
    rcases mIf_some h with ⟨_, h⟩ | ⟨_, h⟩
    · obtain ⟨_, rfl⟩ := mRW h
      exact mAv.rf
    · obtain ⟨c9, h⟩ := mGd_some h
      rcases mIf_some h with ⟨_, h⟩ | ⟨_, h⟩
      · obtain ⟨c10, h⟩ := mGd_some h
        obtain ⟨v53, V54, h11, h⟩ := mBW_some h
        have a11 : mAv (wX4_carriesFlows l1A l2A) V V54 := mAv.tr mAv.rf (NX3_begin h11) (fun i z => by unfold wX3_begin at z; unfold wX4_carriesFlows; omega)
        exact mAv.tr a11 (ih.1 _ _ _ _ _ h) (fun i z => by unfold wX4_carriesFlows_0 at z; unfold wX4_carriesFlows; omega)
      · obtain ⟨_, rfl⟩ := mRW h
        exact mAv.rf
def wX4_carriesEdges (l1A : Nat) (l2A : Nat) (i : Nat) : Prop := i = l2A ∨ i = l2A + 1
def wX4_carriesEdges_0 (l1A : Nat) (l2A : Nat) (i : Nat) : Prop := i = l2A ∨ i = l2A + 1
def wX4_carriesEdges_1 (l1A : Nat) (l2A : Nat) (i : Nat) : Prop := i = l2A ∨ i = l2A + 1
def wX4_carriesEdges_2 (l1A : Nat) (l2A : Nat) (i : Nat) : Prop := i = l2A ∨ i = l2A + 1
set_option maxHeartbeats 4000000 in
theorem NX4_carriesEdges_go {F : Nat} {v : Int32} {V1 : mV} : ∀ k' : Nat, (∀ (l1A : Nat) (l2A : Nat) (l3I : Int32) (l4I : Int32) (V : mV), mX4_carriesEdges_go F k' 0 l1A l2A l3I l4I 0 V = some (v, V1) → mAv (wX4_carriesEdges_0 l1A l2A) V V1) ∧ (∀ (l1A : Nat) (l2A : Nat) (l3I : Int32) (l4I : Int32) (V : mV), mX4_carriesEdges_go F k' 1 l1A l2A l3I l4I 0 V = some (v, V1) → mAv (wX4_carriesEdges_1 l1A l2A) V V1) ∧ (∀ (l1A : Nat) (l2A : Nat) (l3I : Int32) (l4I : Int32) (l5I : Int32) (V : mV), mX4_carriesEdges_go F k' 2 l1A l2A l3I l4I l5I V = some (v, V1) → mAv (wX4_carriesEdges_2 l1A l2A) V V1) := by
  intro k'
  induction k' with
  | zero => exact ⟨(fun _ _ _ _ _ h => by cases h), (fun _ _ _ _ _ h => by cases h), (fun _ _ _ _ _ _ h => by cases h)⟩
  | succ k' ih =>
    refine ⟨?_, ?_, ?_⟩
    · intro l1A l2A l3I l4I V h
      rw [mX4_carriesEdges_go, if_pos rfl] at h
      unfold mX4_carriesEdges_b0 at h
      rcases mIf_some h with ⟨_, h⟩ | ⟨_, h⟩
      · exact mAv.tr mAv.rf (ih.2.1 _ _ _ _ _ h) (fun i z => by unfold wX4_carriesEdges_1 at z; unfold wX4_carriesEdges_0; omega)
      · obtain ⟨v2, V3, h1, h⟩ := mBW_some h
        have a1 : mAv (wX4_carriesEdges_0 l1A l2A) V V3 := mAv.tr mAv.rf (NX4_addSomeEdge h1) (fun i z => by unfold wX4_addSomeEdge at z; unfold wX4_carriesEdges_0; omega)
        rcases mIf_some h with ⟨_, h⟩ | ⟨_, h⟩
        · obtain ⟨_, rfl⟩ := mRW h
          exact a1
        · obtain ⟨x8, _, h⟩ := mLt_some h
          exact mAv.tr a1 (ih.1 _ _ _ _ _ h) (fun i z => by unfold wX4_carriesEdges_0 at z; unfold wX4_carriesEdges_0; omega)
    · intro l1A l2A l3I l4I V h
      rw [mX4_carriesEdges_go, if_neg (by decide), if_pos rfl] at h
      unfold mX4_carriesEdges_b1 at h
      rcases mIf_some h with ⟨_, h⟩ | ⟨_, h⟩
      · obtain ⟨c2, h⟩ := mGd_some h
        rcases mIf_some h with ⟨_, h⟩ | ⟨_, h⟩
        · obtain ⟨_, rfl⟩ := mRW h
          exact mAv.rf
        · obtain ⟨_, rfl⟩ := mRW h
          exact mAv.rf
      · obtain ⟨x12, _, h⟩ := mLt_some h
        exact mAv.tr mAv.rf (ih.2.2 _ _ _ _ _ _ h) (fun i z => by unfold wX4_carriesEdges_2 at z; unfold wX4_carriesEdges_1; omega)
    · intro l1A l2A l3I l4I l5I V h
      rw [mX4_carriesEdges_go, if_neg (by decide), if_neg (by decide), if_pos rfl] at h
      unfold mX4_carriesEdges_b2 at h
      rcases mIf_some h with ⟨_, h⟩ | ⟨_, h⟩
      · obtain ⟨x14, _, h⟩ := mLt_some h
        exact mAv.tr mAv.rf (ih.2.1 _ _ _ _ _ h) (fun i z => by unfold wX4_carriesEdges_1 at z; unfold wX4_carriesEdges_2; omega)
      · obtain ⟨v15, _, h⟩ := mBN_some h
        obtain ⟨v20, _, h⟩ := mBN_some h
        obtain ⟨x25, _, h⟩ := mLt_some h
        obtain ⟨v26, _, h⟩ := mBN_some h
        obtain ⟨v31, _, h⟩ := mBN_some h
        rcases mIf_some h with ⟨_, h⟩ | ⟨_, h⟩
        · obtain ⟨v43, _, h⟩ := mBN_some h
          obtain ⟨v48, _, h⟩ := mBN_some h
          rcases mIf_some h with ⟨_, h⟩ | ⟨_, h⟩
          · obtain ⟨x54, _, h⟩ := mLt_some h
            exact mAv.tr mAv.rf (ih.2.2 _ _ _ _ _ _ h) (fun i z => by unfold wX4_carriesEdges_2 at z; unfold wX4_carriesEdges_2; omega)
          · obtain ⟨v55, V56, h3, h⟩ := mBW_some h
            have a3 : mAv (wX4_carriesEdges_2 l1A l2A) V V56 := mAv.tr mAv.rf (NX3_addItem h3) (fun i z => by unfold wX3_addItem at z; unfold wX4_carriesEdges_2; omega)
            obtain ⟨x60, _, h⟩ := mLt_some h
            exact mAv.tr a3 (ih.2.2 _ _ _ _ _ _ h) (fun i z => by unfold wX4_carriesEdges_2 at z; unfold wX4_carriesEdges_2; omega)
        · obtain ⟨v37, V38, h4, h⟩ := mBW_some h
          have a4 : mAv (wX4_carriesEdges_2 l1A l2A) V V38 := mAv.tr mAv.rf (NX3_addItem h4) (fun i z => by unfold wX3_addItem at z; unfold wX4_carriesEdges_2; omega)
          obtain ⟨x42, _, h⟩ := mLt_some h
          exact mAv.tr a4 (ih.2.2 _ _ _ _ _ _ h) (fun i z => by unfold wX4_carriesEdges_2 at z; unfold wX4_carriesEdges_2; omega)
set_option maxHeartbeats 4000000 in
theorem NX4_carriesEdges {F : Nat} {V V1 : mV} {v : Int32} {l1A : Nat} {l2A : Nat} (h : mX4_carriesEdges F l1A l2A V = some (v, V1)) : mAv (wX4_carriesEdges l1A l2A) V V1 := by
  have ih := NX4_carriesEdges_go (F := F) (v := v) (V1 := V1) F
  unfold mX4_carriesEdges mX4_carriesEdges_s at h
  obtain ⟨x61, _, h⟩ := mLt_some h
  rcases mIf_some h with ⟨_, h⟩ | ⟨_, h⟩
  · rcases mIf_some h with ⟨_, h⟩ | ⟨_, h⟩
    · obtain ⟨_, rfl⟩ := mRW h
      exact mAv.rf
    · obtain ⟨c5, h⟩ := mGd_some h
      rcases mIf_some h with ⟨_, h⟩ | ⟨_, h⟩
      · obtain ⟨v66, V67, h6, h⟩ := mBW_some h
        have a6 : mAv (wX4_carriesEdges l1A l2A) V V67 := mAv.tr mAv.rf (NX3_begin h6) (fun i z => by unfold wX3_begin at z; unfold wX4_carriesEdges; omega)
        exact mAv.tr a6 (ih.1 _ _ _ _ _ h) (fun i z => by unfold wX4_carriesEdges_0 at z; unfold wX4_carriesEdges; omega)
      · obtain ⟨_, rfl⟩ := mRW h
        exact mAv.rf
  · obtain ⟨_, rfl⟩ := mRW h
    exact mAv.rf
def wX5_clearTable (i : Nat) : Prop := (36 ≤ i ∧ i ≤ 49)
def wX5_clearTable_0 (i : Nat) : Prop := (36 ≤ i ∧ i ≤ 49)
set_option maxHeartbeats 4000000 in
theorem NX5_clearTable_go {F : Nat} {v : Unit} {V1 : mV} : ∀ k' : Nat, (∀ (l1I : Int32) (V : mV), mX5_clearTable_go F k' 0 l1I V = some (v, V1) → mAv (wX5_clearTable_0) V V1) := by
  intro k'
  induction k' with
  | zero => exact (fun _ _ h => by cases h)
  | succ k' ih =>
    intro l1I V h
    rw [mX5_clearTable_go, if_pos rfl] at h
    unfold mX5_clearTable_b0 at h
    rcases mIf_some h with ⟨_, h⟩ | ⟨_, h⟩
    · obtain ⟨_, rfl⟩ := mRW h
      exact mAv.rf
    · obtain ⟨c1, h⟩ := mGd_some h
      obtain ⟨v4, V5, h2, h⟩ := mBW_some h
      have z2_0 := (Nat.lt_of_not_le (fun z => c1 (Or.inr z)))
      have a2 : mAv (wX5_clearTable_0) V V5 := mAv.tr mAv.rf (NJ7_fill_d0a16 h2) (fun i z => by unfold wJ7_fill_d0a16 at z; unfold wX5_clearTable_0; omega)
      obtain ⟨x9, _, h⟩ := mLt_some h
      exact mAv.tr a2 (ih _ _ h) (fun i z => by unfold wX5_clearTable_0 at z; unfold wX5_clearTable_0; omega)
set_option maxHeartbeats 4000000 in
theorem NX5_clearTable {F : Nat} {V V1 : mV} {v : Unit} (h : mX5_clearTable F V = some (v, V1)) : mAv (wX5_clearTable) V V1 := by
  have ih := NX5_clearTable_go (F := F) (v := v) (V1 := V1) F
  unfold mX5_clearTable mX5_clearTable_s at h
  exact mAv.tr mAv.rf (ih _ _ h) (fun i z => by unfold wX5_clearTable_0 at z; unfold wX5_clearTable; omega)
end
